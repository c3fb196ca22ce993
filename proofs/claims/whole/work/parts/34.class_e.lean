/-! the class: the bill -/
theorem plr_k {F : Nat → Nat → Int32} (hp : PlV F) {l : List Nat} {p : Nat} (h8 : p < 32) : ∀ {k : Nat}, (∀ i, i < k → l.getD i 0 < 20) → (btB (plr F l k) p = true ↔ ∃ i, i < k ∧ F 3 (l.getD i 0) = nI p) := by
  intro k
  induction k with
  | zero => intro _; rw [plr, btB_0 h8]; simp
  | succ k ih =>
    intro hl
    obtain ⟨e1, e2⟩ := hp _ (hl k (by omega))
    rw [plr, e1, btB_set (by omega) h8, Bool.or_eq_true, ih (fun i hi => hl i (by omega)), beq_iff_eq]
    constructor
    · rintro (⟨i, h1, h2⟩ | h)
      · exact ⟨i, by omega, h2⟩
      · exact ⟨k, by omega, by rw [e1, h]⟩
    · rintro ⟨i, h1, h2⟩
      rcases Nat.lt_succ_iff_lt_or_eq.mp h1 with q | q
      · exact Or.inl ⟨i, q, h2⟩
      · exact Or.inr ((nI_eq (by omega) (by omega)).mp (by rw [← h2, q, e1]))
theorem plr_bit {F : Nat → Nat → Int32} (hp : PlV F) {l : List Nat} {p : Nat} (h8 : p < 32) (hl : ∀ i, i < l.length → l.getD i 0 < 20) : btB (plr F l l.length) p = usB F l p := by
  rw [Bool.eq_iff_iff, plr_k hp h8 hl, usB, List.any_eq_true]
  constructor
  · rintro ⟨i, h1, h2⟩; exact ⟨_, getD_mem h1, decide_eq_true h2⟩
  · rintro ⟨x, hx, h2⟩; obtain ⟨i, hi, rfl⟩ := mem_getD hx; exact ⟨i, hi, of_decide_eq_true h2⟩
def rnt (F : Nat → Nat → Int32) (x : Int32) : Nat → Int32 := sm (fun p => if btB x p = true then F 11 p else nI 0)
def plall (F : Nat → Nat → Int32) (R : Nat → List Nat) : Nat → Int32
  | 0 => nI 0
  | k + 1 => plall F R k ||| plr F (R k) (R k).length
theorem mall_bit {R : Nat → List Nat} {s : Nat} (hs : s < 32) : ∀ {k : Nat}, (∀ d, d < k → ∀ i, i < (R d).length → (R d).getD i 0 < 20) → (btB (mall R k) s = true ↔ ∃ d, d < k ∧ s ∈ R d) := by
  intro k
  induction k with
  | zero => intro _; rw [mall, btB_0 hs]; simp
  | succ k ih =>
    intro hl
    rw [mall, btB_or hs, Bool.or_eq_true, ih (fun d hd => hl d (by omega)), mbr_bit (hl k (by omega)) hs]
    constructor
    · rintro (⟨i, h1, h2⟩ | h)
      · exact ⟨i, by omega, h2⟩
      · exact ⟨k, by omega, h⟩
    · rintro ⟨i, h1, h2⟩
      rcases Nat.lt_succ_iff_lt_or_eq.mp h1 with q | q
      · exact Or.inl ⟨i, q, h2⟩
      · exact Or.inr (by rw [← q]; exact h2)
theorem plall_bit {F : Nat → Nat → Int32} (hp : PlV F) {R : Nat → List Nat} {p : Nat} (h8 : p < 32) : ∀ {k : Nat}, (∀ d, d < k → ∀ i, i < (R d).length → (R d).getD i 0 < 20) → (btB (plall F R k) p = true ↔ ∃ d, d < k ∧ usB F (R d) p = true) := by
  intro k
  induction k with
  | zero => intro _; rw [plall, btB_0 h8]; simp
  | succ k ih =>
    intro hl
    rw [plall, btB_or h8, Bool.or_eq_true, ih (fun d hd => hl d (by omega)), plr_bit hp h8 (hl k (by omega))]
    constructor
    · rintro (⟨i, h1, h2⟩ | h)
      · exact ⟨i, by omega, h2⟩
      · exact ⟨k, by omega, h⟩
    · rintro ⟨i, h1, h2⟩
      rcases Nat.lt_succ_iff_lt_or_eq.mp h1 with q | q
      · exact Or.inl ⟨i, q, h2⟩
      · exact Or.inr (by rw [← q]; exact h2)
theorem busd_k {F : Nat → Nat → Int32} {D : Nat → Option Nat} {p : Nat} : ∀ {k : Nat}, (busd F D p k = true ↔ ∃ s, s < k ∧ D s ≠ none ∧ F 3 s = nI p) := by
  intro k
  induction k with
  | zero => rw [busd]; simp
  | succ k ih =>
    rw [busd]
    split
    · rename_i h
      rw [ih]
      constructor
      · rintro ⟨s, h1, h2⟩; exact ⟨s, by omega, h2⟩
      · rintro ⟨s, h1, h2, h3⟩
        rcases Nat.lt_succ_iff_lt_or_eq.mp h1 with q | q
        · exact ⟨s, q, h2, h3⟩
        · rw [q] at h2; exact absurd h h2
    · rename_i h
      rw [Bool.or_eq_true, ih, decide_eq_true_eq]
      constructor
      · rintro (⟨s, h1, h2⟩ | h3)
        · exact ⟨s, by omega, h2⟩
        · exact ⟨k, by omega, h, h3⟩
      · rintro ⟨s, h1, h2, h3⟩
        rcases Nat.lt_succ_iff_lt_or_eq.mp h1 with q | q
        · exact Or.inl ⟨s, q, h2, h3⟩
        · exact Or.inr (by rw [← q]; exact h3)
theorem sm_add (g g' : Nat → Int32) : ∀ n, sm (fun k => g k + g' k) n = sm g n + sm g' n := by
  intro n
  induction n with
  | zero => show nI 0 = nI 0 + nI 0; decide +kernel
  | succ n ih => rw [sm, sm, sm, ih, Int32.add_assoc, Int32.add_assoc, ← Int32.add_assoc (sm g' n), Int32.add_comm (sm g' n), Int32.add_assoc]
theorem sm_mul (g : Nat → Int32) (c : Int32) : ∀ n, sm g n * c = sm (fun k => c * g k) n := by
  intro n
  induction n with
  | zero => rw [sm, sm, nI_0, Int32.zero_mul]
  | succ n ih => rw [sm, sm, Int32.add_mul, ih, Int32.mul_comm (g n)]
section CLASS
variable {f ro rs : Nat → Nat → Int32} {rw rb : Nat → Nat} {m : Nat → Nat → Int32} {dp : Nat} {F : Nat → Nat → Int32} {n nd : Nat} {R : Nat → List Nat} {D : Nat → Option Nat}
theorem c_isLetGo (hC : CF F f) {p : Nat} (hp : p < 8) (x : Int32) : Mt (dp + 1) 0 0 mX1_isLetGo [.ref 36, .int (nI p), .int x] (HH f ro rs rw rb m) (RI (bI (decide (0 < F 10 p ∧ F 10 p ≤ x))) (HH f ro rs rw rb m)) := by
  refine Mt.of rfl rfl (Nat.le_of_ble_eq_true rfl) rfl ?_
  refine V.aldn 0 dX1_isLetGo_0 rfl rfl ?_
  refine V.gf1_0 dX1_isLetGo_1 f_X1_9 ?_
  refine V.gf2_7 dX1_isLetGo_4 f_X1_52 ?_
  refine V.ildn 1 dX1_isLetGo_7 rfl rfl ?_
  refine V.ald_9 dX1_isLetGo_8 (ix_nI (by omega) (by decide)) ?_
  refine V.top (y := F 10 p) (congrFun (hC 9 rfl) p) ?_
  refine V.if_le 29 dX1_isLetGo_9 (by decide) (fun c9 => ?_) (fun c9 => ?_)
  · refine V.iconst (nI 0) dX1_isLetGo_29 (by decide +kernel) ?_
    exact V.ireturn dX1_isLetGo_30 rfl (by first | rfl | decide +kernel) (⟨congrArg (fun x => some (Value.int x)) (bI_f (decide_eq_false (fun q => absurd q.1 (Int32.not_lt.mpr c9)))), rfl⟩)
  · refine V.ildn 2 dX1_isLetGo_12 rfl rfl ?_
    refine V.aldn 0 dX1_isLetGo_13 rfl rfl ?_
    refine V.gf1_0 dX1_isLetGo_14 f_X1_9 ?_
    refine V.gf2_7 dX1_isLetGo_17 f_X1_52 ?_
    refine V.ildn 1 dX1_isLetGo_20 rfl rfl ?_
    refine V.ald_9 dX1_isLetGo_21 (ix_nI (by omega) (by decide)) ?_
    refine V.top (y := F 10 p) (congrFun (hC 9 rfl) p) ?_
    refine V.icmp_lt 29 dX1_isLetGo_22 (by decide) (fun c22 => ?_) (fun c22 => ?_)
    · refine V.iconst (nI 0) dX1_isLetGo_29 (by decide +kernel) ?_
      exact V.ireturn dX1_isLetGo_30 rfl (by first | rfl | decide +kernel) (⟨congrArg (fun x => some (Value.int x)) (bI_f (decide_eq_false (fun q => absurd q.2 (Int32.not_le.mpr c22)))), rfl⟩)
    · refine V.iconst (nI 1) dX1_isLetGo_25 (by decide +kernel) ?_
      refine V.goto 30 dX1_isLetGo_26 (by decide) ?_
      exact V.ireturn dX1_isLetGo_30 rfl (by first | rfl | decide +kernel) (⟨congrArg (fun x => some (Value.int x)) (bI_t (decide_eq_true ⟨Int32.not_le.mp c9, Int32.not_lt.mp c22⟩)), rfl⟩)
theorem c_paidDays (hP : CP F n nd R f ro rs rw) {p : Nat} (hp : p < 8) : Mt (dp + 3) 0 0 mX1_paidDays [.ref 36, .int (nI p)] (HH f ro rs rw rb m) (RI (nI (pdS (fun d => plB F (R d) p) (F 10 p) nd).1) (HH f ro rs rw rb m)) := by
  refine Mt.of rfl rfl (Nat.le_of_ble_eq_true rfl) rfl ?_
  have pw := fun {d} hd => c_plays (dp := dp) (rb := rb) (m := m) hP hp (d := d) hd
  obtain ⟨⟨hn, hnd, hB, hpl⟩, h1, h12, hC, hw, hR⟩ := hP
  generalize hS : pdS (fun d => plB F (R d) p) (F 10 p) = S
  have bd : ∀ i, (S i).1 + (S i).2 ≤ i := fun i => by rw [← hS]; exact pdS_bd i
  have loop : ∀ (j i : Nat), nd - i = j → i ≤ nd → V mX1_paidDays (dp + 3) 0 0 7 [some (.ref 36), some (.int (nI p)), some (.int (nI (S i).1)), some (.int (nI (S i).2)), some (.int (nI i))] [] (HH f ro rs rw rb m) (RI (nI (S nd).1) (HH f ro rs rw rb m)) := by
    intro j
    induction j using Nat.strongRecOn with
    | _ j ih =>
      intro i hj hi
      have b := bd i
      have s1 : plB F (R i) p = true → S (i + 1) = ((S i).1 + (if 0 < (S i).1 ∧ ¬ (0 < F 10 p ∧ F 10 p ≤ nI (S i).2) then (S i).2 else 0) + 1, 0) := fun q => by rw [← hS, pdS, if_pos q]
      have s0 : plB F (R i) p = false → S (i + 1) = ((S i).1, (S i).2 + 1) := fun q => by rw [← hS, pdS, if_neg (by rw [q]; decide)]
      refine V.iload dX1_paidDays_7 rfl ?_
      refine V.aldn 0 dX1_paidDays_9 rfl rfl ?_
      refine V.gf1_1 dX1_paidDays_10 f_X1_15 ?_
      refine V.gf3_4 dX1_paidDays_13 f_X1_39 ?_
      refine V.top h12 ?_
      first | refine V.icmp_geN 66 dX1_paidDays_16 (by decide) (by omega) (by omega) (fun c16 => ?_) (fun c16 => ?_) | refine V.icmp_ge 66 dX1_paidDays_16 (by decide) (fun c16 => ?_) (fun c16 => ?_)
      · obtain rfl : i = nd := by omega
        refine V.ildn 2 dX1_paidDays_66 rfl rfl ?_
        exact V.ireturn dX1_paidDays_67 rfl (by first | rfl | decide +kernel) (⟨rfl, rfl⟩)
      · refine V.aldn 0 dX1_paidDays_19 rfl rfl ?_
        refine V.gf1_1 dX1_paidDays_20 f_X1_15 ?_
        refine V.ildn 1 dX1_paidDays_23 rfl rfl ?_
        refine V.iload dX1_paidDays_24 rfl ?_
        refine V.cVi (pw (by omega)) dX1_paidDays_26 k_X1_45 rfl rfl rfl (Nat.le_of_ble_eq_true rfl) rfl ?_
        first | refine V.if_neB 38 dX1_paidDays_29 (by decide) (fun c29 => ?_) (fun c29 => ?_) | refine V.if_neN 38 dX1_paidDays_29 (by decide) (by omega) (fun c29 => ?_) (fun c29 => ?_) | refine V.if_ne 38 dX1_paidDays_29 (by decide) (fun c29 => ?_) (fun c29 => ?_)
        · have e := s1 c29
          refine V.ildn 2 dX1_paidDays_38 rfl rfl ?_
          first | refine V.if_leN 55 dX1_paidDays_39 (by decide) (by omega) (fun c39 => ?_) (fun c39 => ?_) | refine V.if_le 55 dX1_paidDays_39 (by decide) (fun c39 => ?_) (fun c39 => ?_)
          · rw [if_neg (fun q => by omega)] at e
            first | refine V.iincN dX1_paidDays_55 rfl ?_ | refine V.iinc dX1_paidDays_55 rfl rfl ?_
            refine V.iconst (nI 0) dX1_paidDays_58 (by decide +kernel) ?_
            refine V.istn 3 dX1_paidDays_59 rfl (Nat.le_of_ble_eq_true rfl) ?_
            refine V.eql (ls' := [some (.ref 36), some (.int (nI p)), some (.int (nI (S (i + 1)).1)), some (.int (nI (S (i + 1)).2)), some (.int (nI i))]) (by rw [e]; rfl) ?_
            first | refine V.iincN dX1_paidDays_60 rfl ?_ | refine V.iinc dX1_paidDays_60 rfl rfl ?_
            refine V.goto 7 dX1_paidDays_63 (by decide) ?_
            exact ih _ (by omega) (i + 1) rfl (by omega)
          · refine V.aldn 0 dX1_paidDays_42 rfl rfl ?_
            refine V.ildn 1 dX1_paidDays_43 rfl rfl ?_
            refine V.ildn 3 dX1_paidDays_44 rfl rfl ?_
            refine V.cVi ((c_isLetGo hC hp (nI (S i).2) : Mt (dp + 2) 0 0 _ _ _ _)) dX1_paidDays_45 k_X1_49 rfl rfl rfl (Nat.le_of_ble_eq_true rfl) rfl ?_
            first | refine V.if_neB 55 dX1_paidDays_48 (by decide) (fun c48 => ?_) (fun c48 => ?_) | refine V.if_neN 55 dX1_paidDays_48 (by decide) (by omega) (fun c48 => ?_) (fun c48 => ?_) | refine V.if_ne 55 dX1_paidDays_48 (by decide) (fun c48 => ?_) (fun c48 => ?_)
            · rw [if_neg (fun q => q.2 (of_decide_eq_true c48))] at e
              first | refine V.iincN dX1_paidDays_55 rfl ?_ | refine V.iinc dX1_paidDays_55 rfl rfl ?_
              refine V.iconst (nI 0) dX1_paidDays_58 (by decide +kernel) ?_
              refine V.istn 3 dX1_paidDays_59 rfl (Nat.le_of_ble_eq_true rfl) ?_
              refine V.eql (ls' := [some (.ref 36), some (.int (nI p)), some (.int (nI (S (i + 1)).1)), some (.int (nI (S (i + 1)).2)), some (.int (nI i))]) (by rw [e]; rfl) ?_
              first | refine V.iincN dX1_paidDays_60 rfl ?_ | refine V.iinc dX1_paidDays_60 rfl rfl ?_
              refine V.goto 7 dX1_paidDays_63 (by decide) ?_
              exact ih _ (by omega) (i + 1) rfl (by omega)
            · rw [if_pos ⟨c39, of_decide_eq_false c48⟩] at e
              refine V.ildn 2 dX1_paidDays_51 rfl rfl ?_
              refine V.ildn 3 dX1_paidDays_52 rfl rfl ?_
              first | refine V.iaddN dX1_paidDays_53 ?_ | refine V.iadd dX1_paidDays_53 ?_
              refine V.istn 2 dX1_paidDays_54 rfl (Nat.le_of_ble_eq_true rfl) ?_
              first | refine V.iincN dX1_paidDays_55 rfl ?_ | refine V.iinc dX1_paidDays_55 rfl rfl ?_
              refine V.iconst (nI 0) dX1_paidDays_58 (by decide +kernel) ?_
              refine V.istn 3 dX1_paidDays_59 rfl (Nat.le_of_ble_eq_true rfl) ?_
              refine V.eql (ls' := [some (.ref 36), some (.int (nI p)), some (.int (nI (S (i + 1)).1)), some (.int (nI (S (i + 1)).2)), some (.int (nI i))]) (by rw [e]; rfl) ?_
              first | refine V.iincN dX1_paidDays_60 rfl ?_ | refine V.iinc dX1_paidDays_60 rfl rfl ?_
              refine V.goto 7 dX1_paidDays_63 (by decide) ?_
              exact ih _ (by omega) (i + 1) rfl (by omega)
        · have e := s0 c29
          first | refine V.iincN dX1_paidDays_32 rfl ?_ | refine V.iinc dX1_paidDays_32 rfl rfl ?_
          refine V.eql (ls' := [some (.ref 36), some (.int (nI p)), some (.int (nI (S (i + 1)).1)), some (.int (nI (S (i + 1)).2)), some (.int (nI i))]) (by rw [e]; rfl) ?_
          refine V.goto 60 dX1_paidDays_35 (by decide) ?_
          first | refine V.iincN dX1_paidDays_60 rfl ?_ | refine V.iinc dX1_paidDays_60 rfl rfl ?_
          refine V.goto 7 dX1_paidDays_63 (by decide) ?_
          exact ih _ (by omega) (i + 1) rfl (by omega)
  refine V.iconst (nI 0) dX1_paidDays_0 (by decide +kernel) ?_
  refine V.istn 2 dX1_paidDays_1 rfl (Nat.le_of_ble_eq_true rfl) ?_
  refine V.iconst (nI 0) dX1_paidDays_2 (by decide +kernel) ?_
  refine V.istn 3 dX1_paidDays_3 rfl (Nat.le_of_ble_eq_true rfl) ?_
  refine V.iconst (nI 0) dX1_paidDays_4 (by decide +kernel) ?_
  refine V.istore dX1_paidDays_5 (Nat.le_of_ble_eq_true rfl) ?_
  refine V.eql (ls' := [some (.ref 36), some (.int (nI p)), some (.int (nI (S 0).1)), some (.int (nI (S 0).2)), some (.int (nI 0))]) (by rw [← hS]; rfl) ?_
  exact loop _ 0 rfl (Nat.zero_le _)
theorem c_wages (hP : CP F n nd R f ro rs rw) (hF : FC F) : Mt (dp + 4) 0 0 mX1_wages [.ref 36] (HH f ro rs rw rb m) (RI (payC F nd R) (HH f ro rs rw rb m)) := by
  refine Mt.of rfl rfl (Nat.le_of_ble_eq_true rfl) rfl ?_
  have pd := fun {p} hp => c_paidDays (dp := dp) (rb := rb) (m := m) hP (p := p) hp
  obtain ⟨⟨hn, hnd, hB, hpl⟩, h1, h12, hC, hw, hR⟩ := hP
  rw [payC]
  generalize hG : (fun p => F 9 p * nI (pdS (fun d => plB F (R d) p) (F 10 p) nd).1) = G
  have loop : ∀ (j i : Nat), 8 - i = j → i ≤ 8 → V mX1_wages (dp + 4) 0 0 4 [some (.ref 36), some (.int (sm G i)), some (.int (nI i))] [] (HH f ro rs rw rb m) (RI (sm G 8) (HH f ro rs rw rb m)) := by
    intro j
    induction j using Nat.strongRecOn with
    | _ j ih =>
      intro i hj hi
      refine V.ildn 2 dX1_wages_4 rfl rfl ?_
      refine V.bipush (nI 8) dX1_wages_5 (by decide +kernel) ?_
      first | refine V.icmp_geN 46 dX1_wages_7 (by decide) (by omega) (by omega) (fun c7 => ?_) (fun c7 => ?_) | refine V.icmp_ge 46 dX1_wages_7 (by decide) (fun c7 => ?_) (fun c7 => ?_)
      · obtain rfl : i = 8 := by omega
        refine V.ildn 1 dX1_wages_46 rfl rfl ?_
        exact V.ireturn dX1_wages_47 rfl (by first | rfl | decide +kernel) (⟨rfl, rfl⟩)
      · obtain ⟨a, ha, ea⟩ := hF.1 i c7
        have fe : f 8 i = nI a := (congrFun (hC 8 rfl) i).trans ea
        refine V.aldn 0 dX1_wages_10 rfl rfl ?_
        refine V.gf1_0 dX1_wages_11 f_X1_9 ?_
        refine V.gf2_6 dX1_wages_14 f_X1_29 ?_
        refine V.ildn 2 dX1_wages_17 rfl rfl ?_
        refine V.ald_8 dX1_wages_18 (ix_nI (by omega) (by decide)) ?_
        refine V.top fe ?_
        first | refine V.if_leN 40 dX1_wages_19 (by decide) (by omega) (fun c19 => ?_) (fun c19 => ?_) | refine V.if_le 40 dX1_wages_19 (by decide) (fun c19 => ?_) (fun c19 => ?_)
        · have e : sm G i = sm G (i + 1) := by rw [sm, ← hG]; show _ = _ + F 9 i * _; rw [ea, c19, nI_0, Int32.zero_mul, Int32.add_zero]
          rw [e]
          first | refine V.iincN dX1_wages_40 rfl ?_ | refine V.iinc dX1_wages_40 rfl rfl ?_
          refine V.goto 4 dX1_wages_43 (by decide) ?_
          exact ih _ (by omega) (i + 1) rfl (by omega)
        · refine V.ildn 1 dX1_wages_22 rfl rfl ?_
          refine V.aldn 0 dX1_wages_23 rfl rfl ?_
          refine V.gf1_0 dX1_wages_24 f_X1_9 ?_
          refine V.gf2_6 dX1_wages_27 f_X1_29 ?_
          refine V.ildn 2 dX1_wages_30 rfl rfl ?_
          refine V.ald_8 dX1_wages_31 (ix_nI (by omega) (by decide)) ?_
          refine V.top (y := F 9 i) (congrFun (hC 8 rfl) i) ?_
          refine V.aldn 0 dX1_wages_32 rfl rfl ?_
          refine V.ildn 2 dX1_wages_33 rfl rfl ?_
          refine V.cVi (pd c7) dX1_wages_34 k_X1_35 rfl rfl rfl (Nat.le_of_ble_eq_true rfl) rfl ?_
          refine V.imul dX1_wages_37 ?_
          refine V.iadd dX1_wages_38 (V.top (y := sm G (i + 1)) (by rw [sm, ← hG]) ?_)
          refine V.istn 1 dX1_wages_39 rfl (Nat.le_of_ble_eq_true rfl) ?_
          first | refine V.iincN dX1_wages_40 rfl ?_ | refine V.iinc dX1_wages_40 rfl rfl ?_
          refine V.goto 4 dX1_wages_43 (by decide) ?_
          exact ih _ (by omega) (i + 1) rfl (by omega)
  refine V.iconst (nI 0) dX1_wages_0 (by decide +kernel) ?_
  refine V.istn 1 dX1_wages_1 rfl (Nat.le_of_ble_eq_true rfl) ?_
  refine V.iconst (nI 0) dX1_wages_2 (by decide +kernel) ?_
  refine V.istn 2 dX1_wages_3 rfl (Nat.le_of_ble_eq_true rfl) ?_
  exact loop _ 0 rfl (Nat.zero_le _)
theorem c_rentOf (hC : CF F f) (x : Int32) : Mt (dp + 2) 0 0 mX1_rentOf [.ref 36, .int x] (HH f ro rs rw rb m) (RI (rnt F x 8) (HH f ro rs rw rb m)) := by
  refine Mt.of rfl rfl (Nat.le_of_ble_eq_true rfl) rfl ?_
  have loop : ∀ (j i : Nat), 8 - i = j → i ≤ 8 → V mX1_rentOf (dp + 2) 0 0 4 [some (.ref 36), some (.int x), some (.int (rnt F x i)), some (.int (nI i))] [] (HH f ro rs rw rb m) (RI (rnt F x 8) (HH f ro rs rw rb m)) := by
    intro j
    induction j using Nat.strongRecOn with
    | _ j ih =>
      intro i hj hi
      refine V.ildn 3 dX1_rentOf_4 rfl rfl ?_
      refine V.bipush (nI 8) dX1_rentOf_5 (by decide +kernel) ?_
      first | refine V.icmp_geN 36 dX1_rentOf_7 (by decide) (by omega) (by omega) (fun c7 => ?_) (fun c7 => ?_) | refine V.icmp_ge 36 dX1_rentOf_7 (by decide) (fun c7 => ?_) (fun c7 => ?_)
      · obtain rfl : i = 8 := by omega
        refine V.ildn 2 dX1_rentOf_36 rfl rfl ?_
        exact V.ireturn dX1_rentOf_37 rfl (by first | rfl | decide +kernel) (⟨rfl, rfl⟩)
      · refine V.ildn 1 dX1_rentOf_10 rfl rfl ?_
        refine V.ildn 3 dX1_rentOf_11 rfl rfl ?_
        refine V.cSi ((c_hasBit x i : Mt (dp + 1) 0 0 _ _ _ _)) dX1_rentOf_12 k_X1_67 rfl rfl (Nat.le_of_ble_eq_true rfl) rfl ?_
        first | refine V.if_eqB 30 dX1_rentOf_15 (by decide) (fun c15 => ?_) (fun c15 => ?_) | refine V.if_eqN 30 dX1_rentOf_15 (by decide) (by omega) (fun c15 => ?_) (fun c15 => ?_) | refine V.if_eq 30 dX1_rentOf_15 (by decide) (fun c15 => ?_) (fun c15 => ?_)
        · have e : rnt F x i = rnt F x (i + 1) := by show _ = rnt F x i + (if btB x i = true then F 11 i else nI 0); rw [if_neg (by rw [c15]; decide), nI_0, Int32.add_zero]
          rw [e]
          first | refine V.iincN dX1_rentOf_30 rfl ?_ | refine V.iinc dX1_rentOf_30 rfl rfl ?_
          refine V.goto 4 dX1_rentOf_33 (by decide) ?_
          exact ih _ (by omega) (i + 1) rfl (by omega)
        · refine V.ildn 2 dX1_rentOf_18 rfl rfl ?_
          refine V.aldn 0 dX1_rentOf_19 rfl rfl ?_
          refine V.gf1_0 dX1_rentOf_20 f_X1_9 ?_
          refine V.gf2_8 dX1_rentOf_23 f_X1_70 ?_
          refine V.ildn 3 dX1_rentOf_26 rfl rfl ?_
          refine V.ald_10 dX1_rentOf_27 (ix_nI (by omega) (by decide)) ?_
          refine V.top (y := F 11 i) (congrFun (hC 10 rfl) i) ?_
          refine V.iadd dX1_rentOf_28 (V.top (y := rnt F x (i + 1)) (by show _ = rnt F x i + (if btB x i = true then F 11 i else nI 0); rw [if_pos c15]) ?_)
          refine V.istn 2 dX1_rentOf_29 rfl (Nat.le_of_ble_eq_true rfl) ?_
          first | refine V.iincN dX1_rentOf_30 rfl ?_ | refine V.iinc dX1_rentOf_30 rfl rfl ?_
          refine V.goto 4 dX1_rentOf_33 (by decide) ?_
          exact ih _ (by omega) (i + 1) rfl (by omega)
  refine V.iconst (nI 0) dX1_rentOf_0 (by decide +kernel) ?_
  refine V.istn 2 dX1_rentOf_1 rfl (Nat.le_of_ble_eq_true rfl) ?_
  refine V.iconst (nI 0) dX1_rentOf_2 (by decide +kernel) ?_
  refine V.istn 3 dX1_rentOf_3 rfl (Nat.le_of_ble_eq_true rfl) ?_
  exact loop _ 0 rfl (Nat.zero_le _)
theorem c_rents (hP : CP F n nd R f ro rs rw) : Mt (dp + 3) 0 0 mX1_rents [.ref 36] (HH f ro rs rw rb m) (RI (rentC F nd R) (HH f ro rs rw rb m)) := by
  refine Mt.of rfl rfl (Nat.le_of_ble_eq_true rfl) rfl ?_
  have h20 := fun {d} hd => CP.lt20 hP (d := d) hd
  obtain ⟨⟨hn, hnd, hB, hpl⟩, h1, h12, hC, hw, hR⟩ := hP
  rw [rentC]
  have e : ∀ d, d < 8 → rnt F (plr F (R d) (R d).length) 8 = rentD F (R d) 8 := fun d hd => sm_congr (fun p hp => by rw [plr_bit hpl (by omega) (h20 hd)])
  generalize hG : (fun d => rentD F (R d) 8) = G
  have loop : ∀ (j i : Nat), nd - i = j → i ≤ nd → V mX1_rents (dp + 3) 0 0 4 [some (.ref 36), some (.int (sm G i)), some (.int (nI i))] [] (HH f ro rs rw rb m) (RI (sm G nd) (HH f ro rs rw rb m)) := by
    intro j
    induction j using Nat.strongRecOn with
    | _ j ih =>
      intro i hj hi
      refine V.ildn 2 dX1_rents_4 rfl rfl ?_
      refine V.aldn 0 dX1_rents_5 rfl rfl ?_
      refine V.gf1_1 dX1_rents_6 f_X1_15 ?_
      refine V.gf3_4 dX1_rents_9 f_X1_39 ?_
      refine V.top h12 ?_
      first | refine V.icmp_geN 40 dX1_rents_12 (by decide) (by omega) (by omega) (fun c12 => ?_) (fun c12 => ?_) | refine V.icmp_ge 40 dX1_rents_12 (by decide) (fun c12 => ?_) (fun c12 => ?_)
      · obtain rfl : i = nd := by omega
        refine V.ildn 1 dX1_rents_40 rfl rfl ?_
        exact V.ireturn dX1_rents_41 rfl (by first | rfl | decide +kernel) (⟨rfl, rfl⟩)
      · have hk := hw.1 i (by omega)
        refine V.ildn 1 dX1_rents_15 rfl rfl ?_
        refine V.aldn 0 dX1_rents_16 rfl rfl ?_
        refine V.aldn 0 dX1_rents_17 rfl rfl ?_
        refine V.gf1_1 dX1_rents_18 f_X1_15 ?_
        refine V.gf3_1 dX1_rents_21 f_X1_55 ?_
        refine V.ildn 2 dX1_rents_24 rfl rfl ?_
        refine V.ald_13 dX1_rents_25 (ix_nI (by omega) (by decide)) ?_
        refine V.gf5_7 dX1_rents_26 f_X1_59 (by omega) ?_
        refine V.top (hR i (by omega)).2.1.2.2.2.2.2.1 ?_
        refine V.cVi (c_rentOf hC (plr F (R i) (R i).length)) dX1_rents_29 k_X1_64 rfl rfl rfl (Nat.le_of_ble_eq_true rfl) rfl ?_
        refine V.iadd dX1_rents_32 (V.top (y := sm G (i + 1)) (by rw [sm, ← hG, e i (by omega)]) ?_)
        refine V.istn 1 dX1_rents_33 rfl (Nat.le_of_ble_eq_true rfl) ?_
        first | refine V.iincN dX1_rents_34 rfl ?_ | refine V.iinc dX1_rents_34 rfl rfl ?_
        refine V.goto 4 dX1_rents_37 (by decide) ?_
        exact ih _ (by omega) (i + 1) rfl (by omega)
  refine V.iconst (nI 0) dX1_rents_0 (by decide +kernel) ?_
  refine V.istn 1 dX1_rents_1 rfl (Nat.le_of_ble_eq_true rfl) ?_
  refine V.iconst (nI 0) dX1_rents_2 (by decide +kernel) ?_
  refine V.istn 2 dX1_rents_3 rfl (Nat.le_of_ble_eq_true rfl) ?_
  exact loop _ 0 rfl (Nat.zero_le _)
theorem c_overtime (hP : CP F n nd R f ro rs rw) : Mt (dp + 2) 0 0 mX1_overtime [.ref 36] (HH f ro rs rw rb m) (RI (overC F nd R) (HH f ro rs rw rb m)) := by
  refine Mt.of rfl rfl (Nat.le_of_ble_eq_true rfl) rfl ?_
  have h20 := fun {d} hd => CP.lt20 hP (d := d) hd
  obtain ⟨⟨hn, hnd, hB, hpl⟩, h1, h12, hC, hw, hR⟩ := hP
  rw [overC, ← sm_mul (fun d => ovr (mins F (R d)))]
  generalize hG : (fun d => ovr (mins F (R d))) = G
  have loop : ∀ (j i : Nat), nd - i = j → i ≤ nd → V mX1_overtime (dp + 2) 0 0 4 [some (.ref 36), some (.int (sm G i)), some (.int (nI i))] [] (HH f ro rs rw rb m) (RI (sm G nd * nI 50) (HH f ro rs rw rb m)) := by
    intro j
    induction j using Nat.strongRecOn with
    | _ j ih =>
      intro i hj hi
      refine V.ildn 2 dX1_overtime_4 rfl rfl ?_
      refine V.aldn 0 dX1_overtime_5 rfl rfl ?_
      refine V.gf1_1 dX1_overtime_6 f_X1_15 ?_
      refine V.gf3_4 dX1_overtime_9 f_X1_39 ?_
      refine V.top h12 ?_
      first | refine V.icmp_geN 36 dX1_overtime_12 (by decide) (by omega) (by omega) (fun c12 => ?_) (fun c12 => ?_) | refine V.icmp_ge 36 dX1_overtime_12 (by decide) (fun c12 => ?_) (fun c12 => ?_)
      · obtain rfl : i = nd := by omega
        refine V.ildn 1 dX1_overtime_36 rfl rfl ?_
        refine V.bipush (nI 50) dX1_overtime_37 (by decide +kernel) ?_
        refine V.imul dX1_overtime_39 ?_
        exact V.ireturn dX1_overtime_40 rfl (by first | rfl | decide +kernel) (⟨rfl, rfl⟩)
      · have hk := hw.1 i (by omega)
        obtain ⟨t, ht, et⟩ := mins_bd hB hpl (hR i (by omega)).1.2.1 (h20 (d := i) (by omega))
        refine V.ildn 1 dX1_overtime_15 rfl rfl ?_
        refine V.aldn 0 dX1_overtime_16 rfl rfl ?_
        refine V.gf1_1 dX1_overtime_17 f_X1_15 ?_
        refine V.gf3_1 dX1_overtime_20 f_X1_55 ?_
        refine V.ildn 2 dX1_overtime_23 rfl rfl ?_
        refine V.ald_13 dX1_overtime_24 (ix_nI (by omega) (by decide)) ?_
        refine V.cVi ((c_halfHoursOver hk ((hR i (by omega)).2.1.2.2.1.trans et) ht : Mt (dp + 1) 0 0 _ _ _ _)) dX1_overtime_25 k_X1_73 rfl rfl (HH_row (by omega)) (Nat.le_of_ble_eq_true rfl) rfl ?_
        refine V.iadd dX1_overtime_28 (V.top (y := sm G (i + 1)) (by rw [sm, ← hG, ← et]) ?_)
        refine V.istn 1 dX1_overtime_29 rfl (Nat.le_of_ble_eq_true rfl) ?_
        first | refine V.iincN dX1_overtime_30 rfl ?_ | refine V.iinc dX1_overtime_30 rfl rfl ?_
        refine V.goto 4 dX1_overtime_33 (by decide) ?_
        exact ih _ (by omega) (i + 1) rfl (by omega)
  refine V.iconst (nI 0) dX1_overtime_0 (by decide +kernel) ?_
  refine V.istn 1 dX1_overtime_1 rfl (Nat.le_of_ble_eq_true rfl) ?_
  refine V.iconst (nI 0) dX1_overtime_2 (by decide +kernel) ?_
  refine V.istn 2 dX1_overtime_3 rfl (Nat.le_of_ble_eq_true rfl) ?_
  exact loop _ 0 rfl (Nat.zero_le _)
theorem c_total (hP : CP F n nd R f ro rs rw) (hF : FC F) : Mt (dp + 5) 0 0 mX1_total [.ref 36] (HH f ro rs rw rb m) (RI (costC F nd R) (HH f ro rs rw rb m)) := by
  refine Mt.of rfl rfl (Nat.le_of_ble_eq_true rfl) rfl ?_
  refine V.aldn 0 dX1_total_0 rfl rfl ?_
  refine V.cVi (c_wages hP hF) dX1_total_1 k_X1_19 rfl rfl rfl (Nat.le_of_ble_eq_true rfl) rfl ?_
  refine V.aldn 0 dX1_total_4 rfl rfl ?_
  refine V.cVi ((c_rents hP : Mt (dp + 1 + 3) 0 0 _ _ _ _)) dX1_total_5 k_X1_23 rfl rfl rfl (Nat.le_of_ble_eq_true rfl) rfl ?_
  refine V.iadd dX1_total_8 ?_
  refine V.aldn 0 dX1_total_9 rfl rfl ?_
  refine V.cVi ((c_overtime hP : Mt (dp + 2 + 2) 0 0 _ _ _ _)) dX1_total_10 k_X1_26 rfl rfl rfl (Nat.le_of_ble_eq_true rfl) rfl ?_
  refine V.iadd dX1_total_13 ?_
  exact V.ireturn dX1_total_14 rfl (by first | rfl | decide +kernel) (⟨rfl, rfl⟩)
theorem c_minutesInRows (hP : CP F n nd R f ro rs rw) (hD : DR n nd R D) {p : Nat} (hp : p < 8) : Mt (dp + 2) 0 0 mX1_minutesInRows [.ref 36, .int (nI p)] (HH f ro rs rw rb m) (RI (bsum F D p n) (HH f ro rs rw rb m)) := by
  refine Mt.of rfl rfl (Nat.le_of_ble_eq_true rfl) rfl ?_
  have h20 := fun {d} hd => CP.lt20 hP (d := d) hd
  have sr := c_scenesInRows (dp := dp) (rb := rb) (m := m) hP
  obtain ⟨⟨hn, hnd, hB, hpl⟩, h1, h12, hC, hw, hR⟩ := hP
  have mb : ∀ s, s < n → (btB (mall R nd) s = true ↔ D s ≠ none) := fun s hs => by
    rw [mall_bit (by omega) (fun d hd => h20 (by omega))]
    constructor
    · rintro ⟨d, h1, h2⟩ q; rw [(hD.2.2.1 s d h1 h2).2] at q; cases q
    · intro q
      cases hd : D s with
      | none => exact absurd hd q
      | some d => exact ⟨d, (hD.2.1 s d hs hd).1, (hD.2.1 s d hs hd).2⟩
  have loop : ∀ (j i : Nat), n - i = j → i ≤ n → V mX1_minutesInRows (dp + 2) 0 0 13 [some (.ref 36), some (.int (nI p)), some (.int (mall R nd)), some (.int (bsum F D p i)), some (.int (nI i))] [] (HH f ro rs rw rb m) (RI (bsum F D p n) (HH f ro rs rw rb m)) := by
    intro j
    induction j using Nat.strongRecOn with
    | _ j ih =>
      intro i hj hi
      refine V.iload dX1_minutesInRows_13 rfl ?_
      refine V.aldn 0 dX1_minutesInRows_15 rfl rfl ?_
      refine V.gf1_0 dX1_minutesInRows_16 f_X1_9 ?_
      refine V.gf2_10 dX1_minutesInRows_19 f_X1_88 ?_
      refine V.top h1 ?_
      first | refine V.icmp_geN 70 dX1_minutesInRows_22 (by decide) (by omega) (by omega) (fun c22 => ?_) (fun c22 => ?_) | refine V.icmp_ge 70 dX1_minutesInRows_22 (by decide) (fun c22 => ?_) (fun c22 => ?_)
      · obtain rfl : i = n := by omega
        refine V.ildn 3 dX1_minutesInRows_70 rfl rfl ?_
        exact V.ireturn dX1_minutesInRows_71 rfl (by first | rfl | decide +kernel) (⟨rfl, rfl⟩)
      · refine V.ildn 2 dX1_minutesInRows_25 rfl rfl ?_
        refine V.iload dX1_minutesInRows_26 rfl ?_
        refine V.cSi ((c_hasBit (mall R nd) i : Mt (dp + 1) 0 0 _ _ _ _)) dX1_minutesInRows_28 k_X1_67 rfl rfl (Nat.le_of_ble_eq_true rfl) rfl ?_
        first | refine V.if_eqB 64 dX1_minutesInRows_31 (by decide) (fun c31 => ?_) (fun c31 => ?_) | refine V.if_eqN 64 dX1_minutesInRows_31 (by decide) (by omega) (fun c31 => ?_) (fun c31 => ?_) | refine V.if_eq 64 dX1_minutesInRows_31 (by decide) (fun c31 => ?_) (fun c31 => ?_)
        · have e : bsum F D p i = bsum F D p (i + 1) := by rw [bsum, if_pos (Classical.byContradiction fun q => by rw [(mb i c22).mpr q] at c31; cases c31)]
          rw [e]
          first | refine V.iincN dX1_minutesInRows_64 rfl ?_ | refine V.iinc dX1_minutesInRows_64 rfl rfl ?_
          refine V.goto 13 dX1_minutesInRows_67 (by decide) ?_
          exact ih _ (by omega) (i + 1) rfl (by omega)
        · have hne := (mb i c22).mp c31
          refine V.aldn 0 dX1_minutesInRows_34 rfl rfl ?_
          refine V.gf1_0 dX1_minutesInRows_35 f_X1_9 ?_
          refine V.gf2_4 dX1_minutesInRows_38 f_X1_91 ?_
          refine V.iload dX1_minutesInRows_41 rfl ?_
          refine V.ald_6 dX1_minutesInRows_43 (ix_nI (by omega) (by decide)) ?_
          refine V.top (y := F 6 i) (congrFun (hC 6 rfl) i) ?_
          refine V.ildn 1 dX1_minutesInRows_44 rfl rfl ?_
          refine V.cSi ((c_hasBit (F 6 i) p : Mt (dp + 1) 0 0 _ _ _ _)) dX1_minutesInRows_45 k_X1_67 rfl rfl (Nat.le_of_ble_eq_true rfl) rfl ?_
          first | refine V.if_eqB 64 dX1_minutesInRows_48 (by decide) (fun c48 => ?_) (fun c48 => ?_) | refine V.if_eqN 64 dX1_minutesInRows_48 (by decide) (by omega) (fun c48 => ?_) (fun c48 => ?_) | refine V.if_eq 64 dX1_minutesInRows_48 (by decide) (fun c48 => ?_) (fun c48 => ?_)
          · have e : bsum F D p i = bsum F D p (i + 1) := by rw [bsum, if_neg hne, if_neg (by rw [c48]; decide), nI_0, Int32.add_zero]
            rw [e]
            first | refine V.iincN dX1_minutesInRows_64 rfl ?_ | refine V.iinc dX1_minutesInRows_64 rfl rfl ?_
            refine V.goto 13 dX1_minutesInRows_67 (by decide) ?_
            exact ih _ (by omega) (i + 1) rfl (by omega)
          · refine V.ildn 3 dX1_minutesInRows_51 rfl rfl ?_
            refine V.aldn 0 dX1_minutesInRows_52 rfl rfl ?_
            refine V.gf1_0 dX1_minutesInRows_53 f_X1_9 ?_
            refine V.gf2_0 dX1_minutesInRows_56 f_X1_94 ?_
            refine V.iload dX1_minutesInRows_59 rfl ?_
            refine V.ald_2 dX1_minutesInRows_61 (ix_nI (by omega) (by decide)) ?_
            refine V.top (y := F 2 i) (congrFun (hC 2 rfl) i) ?_
            refine V.iadd dX1_minutesInRows_62 (V.top (y := bsum F D p (i + 1)) (by rw [bsum, if_neg hne, if_pos c48]) ?_)
            refine V.istn 3 dX1_minutesInRows_63 rfl (Nat.le_of_ble_eq_true rfl) ?_
            first | refine V.iincN dX1_minutesInRows_64 rfl ?_ | refine V.iinc dX1_minutesInRows_64 rfl rfl ?_
            refine V.goto 13 dX1_minutesInRows_67 (by decide) ?_
            exact ih _ (by omega) (i + 1) rfl (by omega)
  refine V.aldn 0 dX1_minutesInRows_0 rfl rfl ?_
  refine V.gf1_1 dX1_minutesInRows_1 f_X1_15 ?_
  refine V.cVi (sr) dX1_minutesInRows_4 k_X1_85 rfl rfl rfl (Nat.le_of_ble_eq_true rfl) rfl ?_
  refine V.istn 2 dX1_minutesInRows_7 rfl (Nat.le_of_ble_eq_true rfl) ?_
  refine V.iconst (nI 0) dX1_minutesInRows_8 (by decide +kernel) ?_
  refine V.istn 3 dX1_minutesInRows_9 rfl (Nat.le_of_ble_eq_true rfl) ?_
  refine V.iconst (nI 0) dX1_minutesInRows_10 (by decide +kernel) ?_
  refine V.istore dX1_minutesInRows_11 (Nat.le_of_ble_eq_true rfl) ?_
  exact loop _ 0 rfl (Nat.zero_le _)
theorem c_placesInRows (hP : CP F n nd R f ro rs rw) : Mt (dp + 1) 0 0 mX1_placesInRows [.ref 36] (HH f ro rs rw rb m) (RI (plall F R nd) (HH f ro rs rw rb m)) := by
  refine Mt.of rfl rfl (Nat.le_of_ble_eq_true rfl) rfl ?_
  obtain ⟨⟨hn, hnd, hB, hpl⟩, h1, h12, hC, hw, hR⟩ := hP
  have loop : ∀ (j i : Nat), nd - i = j → i ≤ nd → V mX1_placesInRows (dp + 1) 0 0 4 [some (.ref 36), some (.int (plall F R i)), some (.int (nI i))] [] (HH f ro rs rw rb m) (RI (plall F R nd) (HH f ro rs rw rb m)) := by
    intro j
    induction j using Nat.strongRecOn with
    | _ j ih =>
      intro i hj hi
      refine V.ildn 2 dX1_placesInRows_4 rfl rfl ?_
      refine V.aldn 0 dX1_placesInRows_5 rfl rfl ?_
      refine V.gf1_1 dX1_placesInRows_6 f_X1_15 ?_
      refine V.gf3_4 dX1_placesInRows_9 f_X1_39 ?_
      refine V.top h12 ?_
      first | refine V.icmp_geN 36 dX1_placesInRows_12 (by decide) (by omega) (by omega) (fun c12 => ?_) (fun c12 => ?_) | refine V.icmp_ge 36 dX1_placesInRows_12 (by decide) (fun c12 => ?_) (fun c12 => ?_)
      · obtain rfl : i = nd := by omega
        refine V.ildn 1 dX1_placesInRows_36 rfl rfl ?_
        exact V.ireturn dX1_placesInRows_37 rfl (by first | rfl | decide +kernel) (⟨rfl, rfl⟩)
      · have hk := hw.1 i (by omega)
        refine V.ildn 1 dX1_placesInRows_15 rfl rfl ?_
        refine V.aldn 0 dX1_placesInRows_16 rfl rfl ?_
        refine V.gf1_1 dX1_placesInRows_17 f_X1_15 ?_
        refine V.gf3_1 dX1_placesInRows_20 f_X1_55 ?_
        refine V.ildn 2 dX1_placesInRows_23 rfl rfl ?_
        refine V.ald_13 dX1_placesInRows_24 (ix_nI (by omega) (by decide)) ?_
        refine V.gf5_7 dX1_placesInRows_25 f_X1_59 (by omega) ?_
        refine V.top (hR i (by omega)).2.1.2.2.2.2.2.1 ?_
        refine V.ior dX1_placesInRows_28 ?_
        refine V.istn 1 dX1_placesInRows_29 rfl (Nat.le_of_ble_eq_true rfl) ?_
        first | refine V.iincN dX1_placesInRows_30 rfl ?_ | refine V.iinc dX1_placesInRows_30 rfl rfl ?_
        refine V.goto 4 dX1_placesInRows_33 (by decide) ?_
        exact ih _ (by omega) (i + 1) rfl (by omega)
  refine V.iconst (nI 0) dX1_placesInRows_0 (by decide +kernel) ?_
  refine V.istn 1 dX1_placesInRows_1 rfl (Nat.le_of_ble_eq_true rfl) ?_
  refine V.iconst (nI 0) dX1_placesInRows_2 (by decide +kernel) ?_
  refine V.istn 2 dX1_placesInRows_3 rfl (Nat.le_of_ble_eq_true rfl) ?_
  exact loop _ 0 rfl (Nat.zero_le _)
theorem c_leastPossible (hP : CP F n nd R f ro rs rw) (hD : DR n nd R D) : Mt (dp + 3) 0 0 mX1_leastPossible [.ref 36] (HH f ro rs rw rb m) (RI (blw F n nd D) (HH f ro rs rw rb m)) := by
  refine Mt.of rfl rfl (Nat.le_of_ble_eq_true rfl) rfl ?_
  have h20 := fun {d} hd => CP.lt20 hP (d := d) hd
  have mr := fun {p} hp => c_minutesInRows (dp := dp) (rb := rb) (m := m) hP hD (p := p) hp
  have pr := c_placesInRows (dp := dp + 1) (rb := rb) (m := m) hP
  obtain ⟨⟨hn, hnd, hB, hpl⟩, h1, h12, hC, hw, hR⟩ := hP
  have gm := c_greatestMost (dp := dp) (ro := ro) (rs := rs) (rw := rw) (rb := rb) (m := m) hC h12 hnd
  generalize hg : grt F nd = g at gm
  have pb : rnt F (plall F R nd) 8 = sm (fun p => if busd F D p n = true then F 11 p else nI 0) 8 := sm_congr (fun p hp => by
    have : btB (plall F R nd) p = busd F D p n := by
      rw [Bool.eq_iff_iff, plall_bit hpl (by omega) (fun d hd => h20 (by omega)), busd_k]
      constructor
      · rintro ⟨d, h1, h2⟩
        rw [usB, List.any_eq_true] at h2
        obtain ⟨s, h3, h4⟩ := h2
        have := hD.2.2.1 s d h1 h3
        exact ⟨s, this.1, by rw [this.2]; simp, of_decide_eq_true h4⟩
      · rintro ⟨s, h1, h2, h3⟩
        cases hd : D s with
        | none => exact absurd hd h2
        | some d =>
          have := hD.2.1 s d h1 hd
          exact ⟨d, this.1, by rw [usB, List.any_eq_true]; exact ⟨s, this.2, decide_eq_true h3⟩⟩
    rw [this])
  generalize hG : (fun p => F 9 p * ((bsum F D p n + g - nI 1) / g)) = G
  by_cases h0 : 0 < g
  · have ev : blw F n nd D = sm G 8 + rnt F (plall F R nd) 8 := by
      rw [blw, hg, if_pos h0, pb, ← sm_add, ← hG]
      rfl
    rw [ev]
    have loop : ∀ (j i : Nat) (x : Option Value), 8 - i = j → i ≤ 8 → V mX1_leastPossible (dp + 3) 0 0 18 [some (.ref 36), some (.int g), some (.int (sm G i)), some (.int (nI i)), x] [] (HH f ro rs rw rb m) (RI (sm G 8 + rnt F (plall F R nd) 8) (HH f ro rs rw rb m)) := by
      intro j
      induction j using Nat.strongRecOn with
      | _ j ih =>
        intro i x hj hi
        refine V.ildn 3 dX1_leastPossible_18 rfl rfl ?_
        refine V.bipush (nI 8) dX1_leastPossible_19 (by decide +kernel) ?_
        first | refine V.icmp_geN 58 dX1_leastPossible_21 (by decide) (by omega) (by omega) (fun c21 => ?_) (fun c21 => ?_) | refine V.icmp_ge 58 dX1_leastPossible_21 (by decide) (fun c21 => ?_) (fun c21 => ?_)
        · obtain rfl : i = 8 := by omega
          refine V.ildn 2 dX1_leastPossible_58 rfl rfl ?_
          refine V.aldn 0 dX1_leastPossible_59 rfl rfl ?_
          refine V.aldn 0 dX1_leastPossible_60 rfl rfl ?_
          refine V.cVi (pr) dX1_leastPossible_61 k_X1_82 rfl rfl rfl (Nat.le_of_ble_eq_true rfl) rfl ?_
          refine V.cVi (c_rentOf hC (plall F R nd)) dX1_leastPossible_64 k_X1_64 rfl rfl rfl (Nat.le_of_ble_eq_true rfl) rfl ?_
          refine V.iadd dX1_leastPossible_67 ?_
          exact V.ireturn dX1_leastPossible_68 rfl (by first | rfl | decide +kernel) (⟨rfl, rfl⟩)
        · refine V.aldn 0 dX1_leastPossible_24 rfl rfl ?_
          refine V.ildn 3 dX1_leastPossible_25 rfl rfl ?_
          refine V.cVi (mr c21) dX1_leastPossible_26 k_X1_79 rfl rfl rfl (Nat.le_of_ble_eq_true rfl) rfl ?_
          refine V.ildn 1 dX1_leastPossible_29 rfl rfl ?_
          refine V.iadd dX1_leastPossible_30 ?_
          refine V.iconst (nI 1) dX1_leastPossible_31 (by decide +kernel) ?_
          refine V.isub dX1_leastPossible_32 ?_
          refine V.ildn 1 dX1_leastPossible_33 rfl rfl ?_
          refine V.idiv dX1_leastPossible_34 (fun q => by rw [q] at h0; exact absurd h0 (by decide)) ?_
          refine V.istore dX1_leastPossible_35 (Nat.le_of_ble_eq_true rfl) ?_
          refine V.ildn 2 dX1_leastPossible_37 rfl rfl ?_
          refine V.aldn 0 dX1_leastPossible_38 rfl rfl ?_
          refine V.gf1_0 dX1_leastPossible_39 f_X1_9 ?_
          refine V.gf2_6 dX1_leastPossible_42 f_X1_29 ?_
          refine V.ildn 3 dX1_leastPossible_45 rfl rfl ?_
          refine V.ald_8 dX1_leastPossible_46 (ix_nI (by omega) (by decide)) ?_
          refine V.top (y := F 9 i) (congrFun (hC 8 rfl) i) ?_
          refine V.iload dX1_leastPossible_47 rfl ?_
          refine V.imul dX1_leastPossible_49 ?_
          refine V.iadd dX1_leastPossible_50 (V.top (y := sm G (i + 1)) (by rw [sm, ← hG]) ?_)
          refine V.istn 2 dX1_leastPossible_51 rfl (Nat.le_of_ble_eq_true rfl) ?_
          first | refine V.iincN dX1_leastPossible_52 rfl ?_ | refine V.iinc dX1_leastPossible_52 rfl rfl ?_
          refine V.goto 18 dX1_leastPossible_55 (by decide) ?_
          exact ih _ (by omega) (i + 1) _ rfl (by omega)
    refine V.aldn 0 dX1_leastPossible_0 rfl rfl ?_
    refine V.gf1_1 dX1_leastPossible_1 f_X1_15 ?_
    refine V.cVi (gm) dX1_leastPossible_4 k_X1_76 rfl rfl rfl (Nat.le_of_ble_eq_true rfl) rfl ?_
    refine V.istn 1 dX1_leastPossible_7 rfl (Nat.le_of_ble_eq_true rfl) ?_
    refine V.ildn 1 dX1_leastPossible_8 rfl rfl ?_
    refine V.if_gt 14 dX1_leastPossible_9 (by decide) (fun c9 => ?_) (fun c9 => ?_)
    · refine V.iconst (nI 0) dX1_leastPossible_14 (by decide +kernel) ?_
      refine V.istn 2 dX1_leastPossible_15 rfl (Nat.le_of_ble_eq_true rfl) ?_
      refine V.iconst (nI 0) dX1_leastPossible_16 (by decide +kernel) ?_
      refine V.istn 3 dX1_leastPossible_17 rfl (Nat.le_of_ble_eq_true rfl) ?_
      exact loop _ 0 _ rfl (Nat.zero_le _)
    · exact absurd h0 c9
  · have ev : blw F n nd D = nI 0 := by rw [blw, hg, if_neg h0]
    rw [ev]
    refine V.aldn 0 dX1_leastPossible_0 rfl rfl ?_
    refine V.gf1_1 dX1_leastPossible_1 f_X1_15 ?_
    refine V.cVi (gm) dX1_leastPossible_4 k_X1_76 rfl rfl rfl (Nat.le_of_ble_eq_true rfl) rfl ?_
    refine V.istn 1 dX1_leastPossible_7 rfl (Nat.le_of_ble_eq_true rfl) ?_
    refine V.ildn 1 dX1_leastPossible_8 rfl rfl ?_
    refine V.if_gt 14 dX1_leastPossible_9 (by decide) (fun c9 => ?_) (fun c9 => ?_)
    · exact absurd c9 h0
    · refine V.iconst (nI 0) dX1_leastPossible_12 (by decide +kernel) ?_
      exact V.ireturn dX1_leastPossible_13 rfl (by first | rfl | decide +kernel) (⟨rfl, rfl⟩)
end CLASS
