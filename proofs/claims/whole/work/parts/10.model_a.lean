/-! the reference: its looks at rows, and the words that they are said in -/
def bI (b : Bool) : Int32 := match b with
  | true => nI 1
  | false => nI 0
theorem bI_t {b : Bool} (h : b = true) : nI 1 = bI b := by rw [h]; rfl
theorem bI_f {b : Bool} (h : b = false) : nI 0 = bI b := by rw [h]; rfl
theorem bI_01 (b : Bool) : bI b = 0 ∨ bI b = 1 := by cases b <;> simp [bI, nI_0]; right; decide +kernel
theorem nI_m1 {d : Nat} (h : d < 2 ^ 31) : ¬ nI d = -1 := by
  intro e
  have h1 := nI_toInt h
  rw [e] at h1
  have : (-1 : Int32).toInt = -1 := by decide +kernel
  omega
section RULES
variable {M : MD} {d rc rs pc : Nat} {ls : List (Option Value)} {st : List Value} {h : List AC} {Q : Option Value → List AC → Prop}
theorem V.if_eqB {b : Bool} {off : Int} (tgt : Nat) (hd : decode M.2.1 pc = .ok (.ifCond .eq off, 3)) (ht : (pc : Int) + off = (tgt : Int)) (kt : b = false → V M d rc rs tgt ls st h Q) (kf : b = true → V M d rc rs (pc + 3) ls st h Q) : V M d rc rs pc ls (.int (bI b) :: st) h Q := by
  cases b with
  | true => exact V.if_eqN (a := 1) tgt hd ht (by decide) (fun q => absurd q (by decide)) (fun _ => kf rfl)
  | false => exact V.if_eqN (a := 0) tgt hd ht (by decide) (fun _ => kt rfl) (fun q => absurd rfl q)
theorem V.if_neB {b : Bool} {off : Int} (tgt : Nat) (hd : decode M.2.1 pc = .ok (.ifCond .ne off, 3)) (ht : (pc : Int) + off = (tgt : Int)) (kt : b = true → V M d rc rs tgt ls st h Q) (kf : b = false → V M d rc rs (pc + 3) ls st h Q) : V M d rc rs pc ls (.int (bI b) :: st) h Q := by
  cases b with
  | true => exact V.if_neN (a := 1) tgt hd ht (by decide) (fun _ => kt rfl) (fun q => absurd q (by decide))
  | false => exact V.if_neN (a := 0) tgt hd ht (by decide) (fun q => absurd rfl q) (fun _ => kf rfl)
theorem V.retB {b : Bool} (hd : decode M.2.1 pc = .ok (.ireturn, 1)) (hr : M.2.2.2.1 = some .boolean) (hq : Q (some (.int (bI b))) h) : V M d rc rs pc ls [.int (bI b)] h Q := by
  cases b with
  | true => exact V.ireturn hd hr (by decide +kernel) hq
  | false => exact V.ireturn hd hr (by decide +kernel) hq
end RULES
def inB (v lo hi : Int32) : Bool := decide (lo ≤ v) && decide (v ≤ hi)
/-- x is one of the numbers 0 .. n-1 -/
def isIn (x : Int32) (n : Nat) : Bool := decide (0 ≤ x) && decide (x < nI n)
theorem isIn_iff {x : Int32} {n : Nat} (hn : n < 2 ^ 31) : isIn x n = true ↔ ∃ j, j < n ∧ x = nI j := by
  simp only [isIn, Bool.and_eq_true, decide_eq_true_eq]
  constructor
  · rintro ⟨h1, h2⟩
    obtain ⟨j, hj, rfl⟩ := nI_of (x := x) (by rw [Int32.not_lt]; exact h1)
    exact ⟨j, (nI_ltI hj hn).mp h2, rfl⟩
  · rintro ⟨j, hj, rfl⟩
    exact ⟨nI_pos' (by omega), nI_lt hj hn⟩
theorem inB_isIn {x : Int32} {n : Nat} (hn : n < 2 ^ 30) : inB x (nI 0) (nI n - nI 1) = isIn x n := by
  have e : (nI n - nI 1).toInt = (n : Int) - 1 := pk_sub_toInt (by omega) (by decide)
  simp only [inB, isIn, nI_0]
  congr 1
  simp only [decide_eq_decide, Int32.le_iff_toInt_le, Int32.lt_iff_toInt_lt, e, nI_toInt (show n < 2 ^ 31 by omega)]
  omega
/-- the way between two spots, and the place of a scene -/
def dst (x y : Int32) : Int32 := if y ≤ x then x - y else y - x
def pl (F : Nat → Nat → Int32) (s : Nat) : Nat := (F 3 s).toNatClampNeg
def PlV (F : Nat → Nat → Int32) : Prop := ∀ s, s < 20 → F 3 s = nI (pl F s) ∧ pl F s < 8
def wy (F : Nat → Nat → Int32) (a b : Nat) : Int32 := dst (F 12 (pl F b)) (F 12 (pl F a))
def mn (F : Nat → Nat → Int32) (l : List Nat) : Nat → Int32
  | 0 => nI 0
  | i + 1 => mn F l i + (F 2 (l.getD i 0) + (if i = 0 then nI 0 else wy F (l.getD (i - 1) 0) (l.getD i 0)))
def mins (F : Nat → Nat → Int32) (l : List Nat) : Int32 := mn F l l.length
/-- row d of the reference holds the list l -/
def rowM (m : Nat → Nat → Int32) (d : Nat) (l : List Nat) : Prop := m 16 d = nI l.length ∧ l.length ≤ 5 ∧ ∀ k, k < l.length → m 17 (5 * d + k) = nI (l.getD k 0) ∧ l.getD k 0 < 20
section MODEL
variable {f ro rs : Nat → Nat → Int32} {rw rb : Nat → Nat} {m : Nat → Nat → Int32} {dp : Nat}
theorem t_in {h : List AC} (v lo hi : Int32) : Mt (dp + 1) 0 0 mX7_in [.int v, .int lo, .int hi] h (RI (bI (inB v lo hi)) h) := by
  refine Mt.of rfl rfl (Nat.le_of_ble_eq_true rfl) rfl ?_
  refine V.ildn 0 dX7_in_0 rfl rfl ?_
  refine V.ildn 1 dX7_in_1 rfl rfl ?_
  refine V.icmp_lt 14 dX7_in_2 (by decide) (fun c2 => ?_) (fun c2 => ?_)
  · refine V.iconst (nI 0) dX7_in_14 (by decide +kernel) ?_
    exact V.ireturn dX7_in_15 rfl (by first | rfl | decide +kernel) (⟨congrArg (fun x => some (Value.int x)) (bI_f (by simp [inB, Int32.not_le.mpr c2])), rfl⟩)
  · refine V.ildn 0 dX7_in_5 rfl rfl ?_
    refine V.ildn 2 dX7_in_6 rfl rfl ?_
    refine V.icmp_gt 14 dX7_in_7 (by decide) (fun c7 => ?_) (fun c7 => ?_)
    · refine V.iconst (nI 0) dX7_in_14 (by decide +kernel) ?_
      exact V.ireturn dX7_in_15 rfl (by first | rfl | decide +kernel) (⟨congrArg (fun x => some (Value.int x)) (bI_f (by simp [inB, Int32.not_le.mpr c7])), rfl⟩)
    · refine V.iconst (nI 1) dX7_in_10 (by decide +kernel) ?_
      refine V.goto 15 dX7_in_11 (by decide) ?_
      exact V.ireturn dX7_in_15 rfl (by first | rfl | decide +kernel) (⟨congrArg (fun x => some (Value.int x)) (bI_t (by simp [inB, Int32.not_lt.mp c2, Int32.not_lt.mp c7])), rfl⟩)
theorem t_isScene {n : Nat} (hn : n ≤ 20) (h1 : m 1 0 = nI n) (s : Int32) : Mt (dp + 2) 0 0 mX7_isScene [.ref 45, .int s] (HH f ro rs rw rb m) (RI (bI (isIn s n)) (HH f ro rs rw rb m)) := by
  refine Mt.of rfl rfl (Nat.le_of_ble_eq_true rfl) rfl ?_
  refine V.ildn 1 dX7_isScene_0 rfl rfl ?_
  refine V.iconst (nI 0) dX7_isScene_1 (by decide +kernel) ?_
  refine V.aldn 0 dX7_isScene_2 rfl rfl ?_
  refine V.gf7_1 dX7_isScene_3 f_X7_84 ?_
  refine V.top h1 ?_
  refine V.iconst (nI 1) dX7_isScene_6 (by decide +kernel) ?_
  refine V.isub dX7_isScene_7 ?_
  refine V.cSi (t_in s (nI 0) (nI n - nI 1)) dX7_isScene_8 k_X7_87 rfl rfl (Nat.le_of_ble_eq_true rfl) rfl ?_
  exact V.retB dX7_isScene_11 rfl ⟨by rw [inB_isIn (by omega)], rfl⟩
theorem t_isDay {n : Nat} (hn : n ≤ 20) (h1 : m 13 0 = nI n) (s : Int32) : Mt (dp + 2) 0 0 mX7_isDay [.ref 45, .int s] (HH f ro rs rw rb m) (RI (bI (isIn s n)) (HH f ro rs rw rb m)) := by
  refine Mt.of rfl rfl (Nat.le_of_ble_eq_true rfl) rfl ?_
  refine V.ildn 1 dX7_isDay_0 rfl rfl ?_
  refine V.iconst (nI 0) dX7_isDay_1 (by decide +kernel) ?_
  refine V.aldn 0 dX7_isDay_2 rfl rfl ?_
  refine V.gf7_13 dX7_isDay_3 f_X7_91 ?_
  refine V.top h1 ?_
  refine V.iconst (nI 1) dX7_isDay_6 (by decide +kernel) ?_
  refine V.isub dX7_isDay_7 ?_
  refine V.cSi (t_in s (nI 0) (nI n - nI 1)) dX7_isDay_8 k_X7_87 rfl rfl (Nat.le_of_ble_eq_true rfl) rfl ?_
  exact V.retB dX7_isDay_11 rfl ⟨by rw [inB_isIn (by omega)], rfl⟩
theorem t_distance {h : List AC} (x y : Int32) : Mt (dp + 1) 0 0 mX7_distance [.int x, .int y] h (RI (dst x y) h) := by
  refine Mt.of rfl rfl (Nat.le_of_ble_eq_true rfl) rfl ?_
  refine V.ildn 0 dX7_distance_0 rfl rfl ?_
  refine V.ildn 1 dX7_distance_1 rfl rfl ?_
  refine V.icmp_ge 11 dX7_distance_2 (by decide) (fun c2 => ?_) (fun c2 => ?_)
  · refine V.ildn 0 dX7_distance_11 rfl rfl ?_
    refine V.ildn 1 dX7_distance_12 rfl rfl ?_
    refine V.isub dX7_distance_13 ?_
    exact V.ireturn dX7_distance_14 rfl (by first | rfl | decide +kernel) (⟨by rw [dst, if_pos c2], rfl⟩)
  · refine V.ildn 1 dX7_distance_5 rfl rfl ?_
    refine V.ildn 0 dX7_distance_6 rfl rfl ?_
    refine V.isub dX7_distance_7 ?_
    refine V.goto 14 dX7_distance_8 (by decide) ?_
    exact V.ireturn dX7_distance_14 rfl (by first | rfl | decide +kernel) (⟨by rw [dst, if_neg c2], rfl⟩)
theorem t_minutesOf {F : Nat → Nat → Int32} (hF : m 2 = F 2 ∧ m 3 = F 3 ∧ m 12 = F 12) (hp : PlV F) {l : List Nat} {d : Nat} (hd : d < 8) (hl : rowM m d l) : Mt (dp + 2) 0 0 mX7_minutesOf [.ref 45, .int (nI d)] (HH f ro rs rw rb m) (RI (mins F l) (HH f ro rs rw rb m)) := by
  refine Mt.of rfl rfl (Nat.le_of_ble_eq_true rfl) rfl ?_
  obtain ⟨hz, hz5, hr⟩ := hl
  obtain ⟨f2, f3, f12⟩ := hF
  have loop : ∀ (j k : Nat), l.length - k = j → k ≤ l.length → ∀ (o4 : Option Value), V mX7_minutesOf (dp + 2) 0 0 4 [some (.ref 45), some (.int (nI d)), some (.int (mn F l k)), some (.int (nI k)), o4] [] (HH f ro rs rw rb m) (RI (mins F l) (HH f ro rs rw rb m)) := by
    intro j
    induction j using Nat.strongRecOn with
    | _ j ih =>
      intro k hj hk o4
      refine V.ildn 3 dX7_minutesOf_4 rfl rfl ?_
      refine V.aldn 0 dX7_minutesOf_5 rfl rfl ?_
      refine V.gf7_16 dX7_minutesOf_6 f_X7_50 ?_
      refine V.ildn 1 dX7_minutesOf_9 rfl rfl ?_
      refine V.ald_59 dX7_minutesOf_10 (ix_nI (by omega) (by decide)) ?_
      refine V.top hz ?_
      first | refine V.icmp_geN 88 dX7_minutesOf_11 (by decide) (by omega) (by omega) (fun c11 => ?_) (fun c11 => ?_) | refine V.icmp_ge 88 dX7_minutesOf_11 (by decide) (fun c11 => ?_) (fun c11 => ?_)
      · obtain rfl : k = l.length := by omega
        refine V.ildn 2 dX7_minutesOf_88 rfl rfl ?_
        exact V.ireturn dX7_minutesOf_89 rfl (by first | rfl | decide +kernel) (⟨rfl, rfl⟩)
      · have hs := (hr k c11).2
        have hp1 := hp _ hs
        refine V.aldn 0 dX7_minutesOf_14 rfl rfl ?_
        refine V.gf7_17 dX7_minutesOf_15 f_X7_53 ?_
        refine V.iconst (nI 5) dX7_minutesOf_18 (by decide +kernel) ?_
        refine V.ildn 1 dX7_minutesOf_19 rfl rfl ?_
        first | refine V.imulN dX7_minutesOf_20 ?_ | refine V.imul dX7_minutesOf_20 ?_
        refine V.ildn 3 dX7_minutesOf_21 rfl rfl ?_
        first | refine V.iaddN dX7_minutesOf_22 ?_ | refine V.iadd dX7_minutesOf_22 ?_
        refine V.ald_60 dX7_minutesOf_23 (ix_nI (by omega) (by decide)) ?_
        refine V.top (hr k c11).1 ?_
        refine V.istore dX7_minutesOf_24 (Nat.le_of_ble_eq_true rfl) ?_
        refine V.ildn 2 dX7_minutesOf_26 rfl rfl ?_
        refine V.aldn 0 dX7_minutesOf_27 rfl rfl ?_
        refine V.gf7_2 dX7_minutesOf_28 f_X7_7 ?_
        refine V.iload dX7_minutesOf_31 rfl ?_
        refine V.ald_46 dX7_minutesOf_33 (ix_nI (by omega) (by decide)) ?_
        refine V.top (congrFun f2 _) ?_
        refine V.ildn 3 dX7_minutesOf_34 rfl rfl ?_
        first | refine V.if_leN 78 dX7_minutesOf_35 (by decide) (by omega) (fun c35 => ?_) (fun c35 => ?_) | refine V.if_le 78 dX7_minutesOf_35 (by decide) (fun c35 => ?_) (fun c35 => ?_)
        · refine V.iconst (nI 0) dX7_minutesOf_78 (by decide +kernel) ?_
          refine V.iadd dX7_minutesOf_79 ?_
          refine V.iadd dX7_minutesOf_80 ?_
          refine V.top (y := mn F l (k + 1)) (by rw [mn, if_pos c35]) ?_
          refine V.istn 2 dX7_minutesOf_81 rfl (Nat.le_of_ble_eq_true rfl) ?_
          first | refine V.iincN dX7_minutesOf_82 rfl ?_ | refine V.iinc dX7_minutesOf_82 rfl rfl ?_
          refine V.goto 4 dX7_minutesOf_85 (by decide) ?_
          exact ih _ (by omega) (k + 1) rfl (by omega) _
        · have hs2 := (hr (k - 1) (by omega)).2
          have hp2 := hp _ hs2
          refine V.aldn 0 dX7_minutesOf_38 rfl rfl ?_
          refine V.gf7_12 dX7_minutesOf_39 f_X7_41 ?_
          refine V.aldn 0 dX7_minutesOf_42 rfl rfl ?_
          refine V.gf7_3 dX7_minutesOf_43 f_X7_13 ?_
          refine V.iload dX7_minutesOf_46 rfl ?_
          refine V.ald_47 dX7_minutesOf_48 (ix_nI (by omega) (by decide)) ?_
          refine V.top ((congrFun f3 _).trans hp1.1) ?_
          refine V.ald_56 dX7_minutesOf_49 (ix_nI (by omega) (by decide)) ?_
          refine V.top (congrFun f12 _) ?_
          refine V.aldn 0 dX7_minutesOf_50 rfl rfl ?_
          refine V.gf7_12 dX7_minutesOf_51 f_X7_41 ?_
          refine V.aldn 0 dX7_minutesOf_54 rfl rfl ?_
          refine V.gf7_3 dX7_minutesOf_55 f_X7_13 ?_
          refine V.aldn 0 dX7_minutesOf_58 rfl rfl ?_
          refine V.gf7_17 dX7_minutesOf_59 f_X7_53 ?_
          refine V.iconst (nI 5) dX7_minutesOf_62 (by decide +kernel) ?_
          refine V.ildn 1 dX7_minutesOf_63 rfl rfl ?_
          first | refine V.imulN dX7_minutesOf_64 ?_ | refine V.imul dX7_minutesOf_64 ?_
          refine V.ildn 3 dX7_minutesOf_65 rfl rfl ?_
          first | refine V.iaddN dX7_minutesOf_66 ?_ | refine V.iadd dX7_minutesOf_66 ?_
          refine V.iconst (nI 1) dX7_minutesOf_67 (by decide +kernel) ?_
          first | refine V.isubN dX7_minutesOf_68 (by omega) ?_ | refine V.isub dX7_minutesOf_68 ?_
          refine V.ald_60 dX7_minutesOf_69 (ix_nI (by omega) (by decide)) ?_
          refine V.top (y := nI (l.getD (k - 1) 0)) (by rw [show 5 * d + k - 1 = 5 * d + (k - 1) by omega]; exact (hr (k - 1) (by omega)).1) ?_
          refine V.ald_47 dX7_minutesOf_70 (ix_nI (by omega) (by decide)) ?_
          refine V.top ((congrFun f3 _).trans hp2.1) ?_
          refine V.ald_56 dX7_minutesOf_71 (ix_nI (by omega) (by decide)) ?_
          refine V.top (congrFun f12 _) ?_
          refine V.cSi (t_distance (F 12 (pl F (l.getD k 0))) (F 12 (pl F (l.getD (k - 1) 0)))) dX7_minutesOf_72 k_X7_109 rfl rfl (Nat.le_of_ble_eq_true rfl) rfl ?_
          refine V.goto 79 dX7_minutesOf_75 (by decide) ?_
          refine V.iadd dX7_minutesOf_79 ?_
          refine V.iadd dX7_minutesOf_80 ?_
          refine V.top (y := mn F l (k + 1)) (by rw [mn, if_neg (by omega)]; rfl) ?_
          refine V.istn 2 dX7_minutesOf_81 rfl (Nat.le_of_ble_eq_true rfl) ?_
          first | refine V.iincN dX7_minutesOf_82 rfl ?_ | refine V.iinc dX7_minutesOf_82 rfl rfl ?_
          refine V.goto 4 dX7_minutesOf_85 (by decide) ?_
          exact ih _ (by omega) (k + 1) rfl (by omega) _
  refine V.iconst (nI 0) dX7_minutesOf_0 (by decide +kernel) ?_
  refine V.istn 2 dX7_minutesOf_1 rfl (Nat.le_of_ble_eq_true rfl) ?_
  refine V.iconst (nI 0) dX7_minutesOf_2 (by decide +kernel) ?_
  refine V.istn 3 dX7_minutesOf_3 rfl (Nat.le_of_ble_eq_true rfl) ?_
  exact loop l.length 0 (by omega) (by omega) none
end MODEL
