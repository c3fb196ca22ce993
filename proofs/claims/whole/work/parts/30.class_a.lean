/-! the class: its small functions, Film, Row -/
def cF (i : Nat) : Nat := if i = 8 then 9 else if i = 9 then 10 else if i = 10 then 11 else if i = 11 then 12 else i
def isC (i : Nat) : Bool := [2, 3, 4, 5, 6, 7, 8, 9, 10, 11, 14, 15].contains i
def CF (F f : Nat → Nat → Int32) : Prop := ∀ i, isC i = true → f i = F (cF i)
def mbr (l : List Nat) : Nat → Int32
  | 0 => nI 0
  | k + 1 => mbr l k ||| (nI 1 <<< (nI (l.getD k 0) &&& 31))
def ndr (F : Nat → Nat → Int32) (l : List Nat) : Nat → Int32
  | 0 => nI 0
  | k + 1 => ndr F l k ||| F 7 (l.getD k 0)
def plr (F : Nat → Nat → Int32) (l : List Nat) : Nat → Int32
  | 0 => nI 0
  | k + 1 => plr F l k ||| (nI 1 <<< (F 3 (l.getD k 0) &&& 31))
def nit (F : Nat → Nat → Int32) (l : List Nat) : Nat → Bool
  | 0 => false
  | k + 1 => nit F l k || decide (F 4 (l.getD k 0) = nI 2)
def tc (l : List Nat) : Nat → Int32
  | 0 => mbr l l.length
  | k + 1 => tc l k &&& ((nI 1 <<< (nI (l.getD k 0) &&& 31)) ^^^ (-1))
def inT (F : Nat → Nat → Int32) (l : List Nat) : Prop := ∀ i, i < l.length → (F 7 (l.getD i 0) &&& tc l i) = 0
def RS (l : List Nat) (r sc : Nat → Int32) : Prop := r 1 = nI l.length ∧ l.length ≤ 5 ∧ ∀ i, i < l.length → sc i = nI (l.getD i 0) ∧ l.getD i 0 < 20
/-- row measured up to its k-th scene -/
def RM (F : Nat → Nat → Int32) (l : List Nat) (k : Nat) (r : Nat → Int32) : Prop := r 2 = mbr l k ∧ r 3 = ndr F l k ∧ r 4 = mn F l k ∧ r 5 = sn F l k ∧ r 6 = orP F l k ∧ r 7 = plr F l k ∧ r 8 = bI (nit F l k)
def RowIs (F : Nat → Nat → Int32) (l : List Nat) (r sc : Nat → Int32) : Prop := RS l r sc ∧ RM F l l.length r ∧ r 9 = bI (dB (inT F l))
section CLASS
variable {f ro rs : Nat → Nat → Int32} {rw rb : Nat → Nat} {m : Nat → Nat → Int32} {dp : Nat} {F : Nat → Nat → Int32} {n nd : Nat} {R : Nat → List Nat}
theorem c_within {h : List AC} (v lo hi : Int32) : Mt (dp + 1) 0 0 mX6_within [.int v, .int lo, .int hi] h (RI (bI (inB v lo hi)) h) := by
  refine Mt.of rfl rfl (Nat.le_of_ble_eq_true rfl) rfl ?_
  refine V.ildn 0 dX6_within_0 rfl rfl ?_
  refine V.ildn 1 dX6_within_1 rfl rfl ?_
  refine V.icmp_lt 14 dX6_within_2 (by decide) (fun c2 => ?_) (fun c2 => ?_)
  · refine V.iconst (nI 0) dX6_within_14 (by decide +kernel) ?_
    exact V.ireturn dX6_within_15 rfl (by first | rfl | decide +kernel) (⟨congrArg (fun x => some (Value.int x)) (bI_f (by simp [inB, Int32.not_le.mpr c2])), rfl⟩)
  · refine V.ildn 0 dX6_within_5 rfl rfl ?_
    refine V.ildn 2 dX6_within_6 rfl rfl ?_
    refine V.icmp_gt 14 dX6_within_7 (by decide) (fun c7 => ?_) (fun c7 => ?_)
    · refine V.iconst (nI 0) dX6_within_14 (by decide +kernel) ?_
      exact V.ireturn dX6_within_15 rfl (by first | rfl | decide +kernel) (⟨congrArg (fun x => some (Value.int x)) (bI_f (by simp [inB, Int32.not_le.mpr c7])), rfl⟩)
    · refine V.iconst (nI 1) dX6_within_10 (by decide +kernel) ?_
      refine V.goto 15 dX6_within_11 (by decide) ?_
      exact V.ireturn dX6_within_15 rfl (by first | rfl | decide +kernel) (⟨congrArg (fun x => some (Value.int x)) (bI_t (by simp [inB, Int32.not_lt.mp c2, Int32.not_lt.mp c7])), rfl⟩)
theorem c_isPlace {h : List AC} (v : Int32) : Mt (dp + 2) 0 0 mX6_isPlace [.int v] h (RI (bI (isIn v 8)) h) := by
  refine Mt.of rfl rfl (Nat.le_of_ble_eq_true rfl) rfl ?_
  refine V.ildn 0 dX6_isPlace_0 rfl rfl ?_
  refine V.iconst (nI 0) dX6_isPlace_1 (by decide +kernel) ?_
  refine V.bipush (nI 7) dX6_isPlace_2 (by decide +kernel) ?_
  refine V.cSi (c_within v (nI 0) (nI 7)) dX6_isPlace_4 k_X6_43 rfl rfl (Nat.le_of_ble_eq_true rfl) rfl ?_
  rw [inB_7]
  exact V.retB dX6_isPlace_7 rfl ⟨rfl, rfl⟩
theorem c_isPlayer {h : List AC} (v : Int32) : Mt (dp + 2) 0 0 mX6_isPlayer [.int v] h (RI (bI (isIn v 8)) h) := by
  refine Mt.of rfl rfl (Nat.le_of_ble_eq_true rfl) rfl ?_
  refine V.ildn 0 dX6_isPlayer_0 rfl rfl ?_
  refine V.iconst (nI 0) dX6_isPlayer_1 (by decide +kernel) ?_
  refine V.bipush (nI 7) dX6_isPlayer_2 (by decide +kernel) ?_
  refine V.cSi (c_within v (nI 0) (nI 7)) dX6_isPlayer_4 k_X6_43 rfl rfl (Nat.le_of_ble_eq_true rfl) rfl ?_
  rw [inB_7]
  exact V.retB dX6_isPlayer_7 rfl ⟨rfl, rfl⟩
theorem c_isDayLength {h : List AC} (a b : Int32) : Mt (dp + 2) 0 0 mX6_isDayLength [.int a, .int b] h (RI (bI (inB a (nI 60) (nI 900) && inB b (nI 0) (nI 900))) h) := by
  refine Mt.of rfl rfl (Nat.le_of_ble_eq_true rfl) rfl ?_
  refine V.ildn 0 dX6_isDayLength_0 rfl rfl ?_
  refine V.bipush (nI 60) dX6_isDayLength_1 (by decide +kernel) ?_
  refine V.sipush (nI 900) dX6_isDayLength_3 (by decide +kernel) ?_
  refine V.cSi (c_within a (nI 60) (nI 900)) dX6_isDayLength_6 k_X6_43 rfl rfl (Nat.le_of_ble_eq_true rfl) rfl ?_
  first | refine V.if_eqB 27 dX6_isDayLength_9 (by decide) (fun c9 => ?_) (fun c9 => ?_) | refine V.if_eqN 27 dX6_isDayLength_9 (by decide) (by omega) (fun c9 => ?_) (fun c9 => ?_) | refine V.if_eq 27 dX6_isDayLength_9 (by decide) (fun c9 => ?_) (fun c9 => ?_)
  · refine V.iconst (nI 0) dX6_isDayLength_27 (by decide +kernel) ?_
    exact V.ireturn dX6_isDayLength_28 rfl (by first | rfl | decide +kernel) (⟨by rw [c9]; rfl, rfl⟩)
  · refine V.ildn 1 dX6_isDayLength_12 rfl rfl ?_
    refine V.iconst (nI 0) dX6_isDayLength_13 (by decide +kernel) ?_
    refine V.sipush (nI 900) dX6_isDayLength_14 (by decide +kernel) ?_
    refine V.cSi (c_within b (nI 0) (nI 900)) dX6_isDayLength_17 k_X6_43 rfl rfl (Nat.le_of_ble_eq_true rfl) rfl ?_
    first | refine V.if_eqB 27 dX6_isDayLength_20 (by decide) (fun c20 => ?_) (fun c20 => ?_) | refine V.if_eqN 27 dX6_isDayLength_20 (by decide) (by omega) (fun c20 => ?_) (fun c20 => ?_) | refine V.if_eq 27 dX6_isDayLength_20 (by decide) (fun c20 => ?_) (fun c20 => ?_)
    · refine V.iconst (nI 0) dX6_isDayLength_27 (by decide +kernel) ?_
      exact V.ireturn dX6_isDayLength_28 rfl (by first | rfl | decide +kernel) (⟨by rw [c9, c20]; rfl, rfl⟩)
    · refine V.iconst (nI 1) dX6_isDayLength_23 (by decide +kernel) ?_
      refine V.goto 28 dX6_isDayLength_24 (by decide) ?_
      exact V.ireturn dX6_isDayLength_28 rfl (by first | rfl | decide +kernel) (⟨by rw [c9, c20]; rfl, rfl⟩)
theorem c_hasBit {h : List AC} (x : Int32) (p : Nat) : Mt (dp + 1) 0 0 mX6_hasBit [.int x, .int (nI p)] h (RI (bI (btB x p)) h) := by
  refine Mt.of rfl rfl (Nat.le_of_ble_eq_true rfl) rfl ?_
  refine V.ildn 0 dX6_hasBit_0 rfl rfl ?_
  refine V.ildn 1 dX6_hasBit_1 rfl rfl ?_
  refine V.ishr dX6_hasBit_2 ?_
  refine V.iconst (nI 1) dX6_hasBit_3 (by decide +kernel) ?_
  refine V.iand dX6_hasBit_4 ?_
  refine V.if_eq 12 dX6_hasBit_5 (by decide) (fun c5 => ?_) (fun c5 => ?_)
  · refine V.iconst (nI 0) dX6_hasBit_12 (by decide +kernel) ?_
    exact V.ireturn dX6_hasBit_13 rfl (by first | rfl | decide +kernel) (⟨congrArg (fun x => some (Value.int x)) (bI_f (btB_f.mpr c5)), rfl⟩)
  · refine V.iconst (nI 1) dX6_hasBit_8 (by decide +kernel) ?_
    refine V.goto 13 dX6_hasBit_9 (by decide) ?_
    exact V.ireturn dX6_hasBit_13 rfl (by first | rfl | decide +kernel) (⟨congrArg (fun x => some (Value.int x)) (bI_t (btB_t.mpr c5)), rfl⟩)
theorem c_hasScene (h1 : f 1 10 = nI n) (x : Int32) : Mt (dp + 1) 0 0 mX2_hasScene [.ref 1, .int x] (HH f ro rs rw rb m) (RI (bI (isIn x n)) (HH f ro rs rw rb m)) := by
  refine Mt.of rfl rfl (Nat.le_of_ble_eq_true rfl) rfl ?_
  refine V.ildn 1 dX2_hasScene_0 rfl rfl ?_
  refine V.if_lt 16 dX2_hasScene_1 (by decide) (fun c1 => ?_) (fun c1 => ?_)
  · refine V.iconst (nI 0) dX2_hasScene_16 (by decide +kernel) ?_
    exact V.ireturn dX2_hasScene_17 rfl (by first | rfl | decide +kernel) (⟨congrArg (fun x => some (Value.int x)) (bI_f (by simp [isIn, Int32.not_le.mpr c1])), rfl⟩)
  · refine V.ildn 1 dX2_hasScene_4 rfl rfl ?_
    refine V.aldn 0 dX2_hasScene_5 rfl rfl ?_
    refine V.gf2_10 dX2_hasScene_6 f_X2_42 ?_
    refine V.top h1 ?_
    refine V.icmp_ge 16 dX2_hasScene_9 (by decide) (fun c9 => ?_) (fun c9 => ?_)
    · refine V.iconst (nI 0) dX2_hasScene_16 (by decide +kernel) ?_
      exact V.ireturn dX2_hasScene_17 rfl (by first | rfl | decide +kernel) (⟨congrArg (fun x => some (Value.int x)) (bI_f (by simp [isIn, Int32.not_lt.mpr c9])), rfl⟩)
    · refine V.iconst (nI 1) dX2_hasScene_12 (by decide +kernel) ?_
      refine V.goto 17 dX2_hasScene_13 (by decide) ?_
      exact V.ireturn dX2_hasScene_17 rfl (by first | rfl | decide +kernel) (⟨congrArg (fun x => some (Value.int x)) (bI_t (by simp [isIn, Int32.not_lt.mp c1, Int32.not_le.mp c9])), rfl⟩)
theorem c_hasDay (h1 : f 12 4 = nI n) (x : Int32) : Mt (dp + 1) 0 0 mX3_hasDay [.ref 12, .int x] (HH f ro rs rw rb m) (RI (bI (isIn x n)) (HH f ro rs rw rb m)) := by
  refine Mt.of rfl rfl (Nat.le_of_ble_eq_true rfl) rfl ?_
  refine V.ildn 1 dX3_hasDay_0 rfl rfl ?_
  refine V.if_lt 16 dX3_hasDay_1 (by decide) (fun c1 => ?_) (fun c1 => ?_)
  · refine V.iconst (nI 0) dX3_hasDay_16 (by decide +kernel) ?_
    exact V.ireturn dX3_hasDay_17 rfl (by first | rfl | decide +kernel) (⟨congrArg (fun x => some (Value.int x)) (bI_f (by simp [isIn, Int32.not_le.mpr c1])), rfl⟩)
  · refine V.ildn 1 dX3_hasDay_4 rfl rfl ?_
    refine V.aldn 0 dX3_hasDay_5 rfl rfl ?_
    refine V.gf3_4 dX3_hasDay_6 f_X3_29 ?_
    refine V.top h1 ?_
    refine V.icmp_ge 16 dX3_hasDay_9 (by decide) (fun c9 => ?_) (fun c9 => ?_)
    · refine V.iconst (nI 0) dX3_hasDay_16 (by decide +kernel) ?_
      exact V.ireturn dX3_hasDay_17 rfl (by first | rfl | decide +kernel) (⟨congrArg (fun x => some (Value.int x)) (bI_f (by simp [isIn, Int32.not_lt.mpr c9])), rfl⟩)
    · refine V.iconst (nI 1) dX3_hasDay_12 (by decide +kernel) ?_
      refine V.goto 17 dX3_hasDay_13 (by decide) ?_
      exact V.ireturn dX3_hasDay_17 rfl (by first | rfl | decide +kernel) (⟨congrArg (fun x => some (Value.int x)) (bI_t (by simp [isIn, Int32.not_lt.mp c1, Int32.not_le.mp c9])), rfl⟩)
theorem c_way (hC : CF F f) (hB : FB F) (hp : PlV F) {a b : Nat} (ha : a < 20) (hb : b < 20) : Mt (dp + 1) 0 0 mX2_way [.ref 1, .int (nI a), .int (nI b)] (HH f ro rs rw rb m) (RI (wy F a b) (HH f ro rs rw rb m)) := by
  refine Mt.of rfl rfl (Nat.le_of_ble_eq_true rfl) rfl ?_
  obtain ⟨pa1, pa2⟩ := hp a ha
  obtain ⟨pb1, pb2⟩ := hp b hb
  obtain ⟨u, hu, eu⟩ := hB.2 _ pa2
  obtain ⟨v, hv, ev⟩ := hB.2 _ pb2
  have e0 : wy F a b = dst (nI v) (nI u) := by rw [wy, ev, eu]
  have ti : (nI v - nI u).toInt = (v : Int) - u := pk_sub_toInt (by omega) (by omega)
  have lt0 : (nI v - nI u < 0) ↔ v < u := by rw [Int32.lt_iff_toInt_lt, ti, Int32.toInt_zero]; omega
  refine V.aldn 0 dX2_way_0 rfl rfl ?_
  refine V.gf2_9 dX2_way_1 f_X2_39 ?_
  refine V.aldn 0 dX2_way_4 rfl rfl ?_
  refine V.gf2_1 dX2_way_5 f_X2_15 ?_
  refine V.ildn 2 dX2_way_8 rfl rfl ?_
  refine V.ald_3 dX2_way_9 (ix_nI (by omega) (by decide)) ?_
  refine V.top ((congrFun (hC 3 rfl) b).trans pb1) ?_
  refine V.ald_11 dX2_way_10 (ix_nI (by omega) (by decide)) ?_
  refine V.top ((congrFun (hC 11 rfl) _).trans ev) ?_
  refine V.aldn 0 dX2_way_11 rfl rfl ?_
  refine V.gf2_9 dX2_way_12 f_X2_39 ?_
  refine V.aldn 0 dX2_way_15 rfl rfl ?_
  refine V.gf2_1 dX2_way_16 f_X2_15 ?_
  refine V.ildn 1 dX2_way_19 rfl rfl ?_
  refine V.ald_3 dX2_way_20 (ix_nI (by omega) (by decide)) ?_
  refine V.top ((congrFun (hC 3 rfl) a).trans pa1) ?_
  refine V.ald_11 dX2_way_21 (ix_nI (by omega) (by decide)) ?_
  refine V.top ((congrFun (hC 11 rfl) _).trans eu) ?_
  refine V.isub dX2_way_22 ?_
  refine V.istn 3 dX2_way_23 rfl (Nat.le_of_ble_eq_true rfl) ?_
  refine V.ildn 3 dX2_way_24 rfl rfl ?_
  refine V.if_ge 33 dX2_way_25 (by decide) (fun c25 => ?_) (fun c25 => ?_)
  · refine V.ildn 3 dX2_way_33 rfl rfl ?_
    exact V.ireturn dX2_way_34 rfl (by first | rfl | decide +kernel) (⟨by rw [e0, dst, if_pos]; exact (nI_leI (by omega) (by omega)).mpr (by have : ¬ v < u := fun q => absurd (lt0.mpr q) (Int32.not_lt.mpr c25); omega), rfl⟩)
  · refine V.ildn 3 dX2_way_28 rfl rfl ?_
    refine V.ineg dX2_way_29 ?_
    refine V.goto 34 dX2_way_30 (by decide) ?_
    exact V.ireturn dX2_way_34 rfl (by first | rfl | decide +kernel) (⟨by rw [e0, dst, if_neg]; exact congrArg (fun x => some (Value.int x)) (Int32.neg_sub (a := nI v) (b := nI u)); intro q; have q := (nI_leI (by omega) (by omega)).mp q; have : v < u := lt0.mp (Int32.not_le.mp c25); omega, rfl⟩)
theorem c_sceneAt {l : List Nat} {k : Nat} (hk : k < 10) (hl : RS l (ro k) (rs k)) (x : Int32) : Mt (dp + 1) 0 0 mX5_sceneAt [.ref (16 + 2 * k), .int x] (HH f ro rs rw rb m) (RI (if isIn x l.length = true then nI (l.getD x.toNatClampNeg 0) else -1) (HH f ro rs rw rb m)) := by
  refine Mt.of rfl rfl (Nat.le_of_ble_eq_true rfl) rfl ?_
  obtain ⟨h1, h5, hs⟩ := hl
  generalize hv : (if isIn x l.length = true then nI (l.getD x.toNatClampNeg 0) else -1) = v
  by_cases hx : isIn x l.length = true
  · obtain ⟨j, hj, rfl⟩ := (isIn_iff (by omega)).mp hx
    rw [if_pos hx, nI_clamp (by omega)] at hv
    refine V.ildn 1 dX5_sceneAt_0 rfl rfl ?_
    refine V.if_ltN 21 dX5_sceneAt_1 (by decide) (by omega) ?_
    refine V.ildn 1 dX5_sceneAt_4 rfl rfl ?_
    refine V.aldn 0 dX5_sceneAt_5 rfl rfl ?_
    refine V.gf5_1 dX5_sceneAt_6 f_X5_19 (by omega) ?_
    refine V.top h1 ?_
    first | refine V.icmp_geN 21 dX5_sceneAt_9 (by decide) (by omega) (by omega) (fun c9 => ?_) (fun c9 => ?_) | refine V.icmp_ge 21 dX5_sceneAt_9 (by decide) (fun c9 => ?_) (fun c9 => ?_)
    · exact absurd c9 (by omega)
    · refine V.aldn 0 dX5_sceneAt_12 rfl rfl ?_
      refine V.gf5_0 dX5_sceneAt_13 f_X5_9 (by omega) ?_
      refine V.ildn 1 dX5_sceneAt_16 rfl rfl ?_
      refine V.ald_rs dX5_sceneAt_17 (by omega) (ix_nI (by omega) (by decide)) ?_
      refine V.top ((hs j hj).1.trans hv) ?_
      refine V.goto 22 dX5_sceneAt_18 (by decide) ?_
      exact V.ireturn dX5_sceneAt_22 rfl (by first | rfl | decide +kernel) (⟨rfl, rfl⟩)
  · rw [if_neg hx] at hv
    have hf : isIn x l.length = false := by simpa using hx
    refine V.ildn 1 dX5_sceneAt_0 rfl rfl ?_
    refine V.if_lt 21 dX5_sceneAt_1 (by decide) (fun c1 => ?_) (fun c1 => ?_)
    · refine V.iconst (-1) dX5_sceneAt_21 (by decide +kernel) ?_
      exact V.ireturn dX5_sceneAt_22 rfl rfl ⟨by rw [hv], rfl⟩
    · refine V.ildn 1 dX5_sceneAt_4 rfl rfl ?_
      refine V.aldn 0 dX5_sceneAt_5 rfl rfl ?_
      refine V.gf5_1 dX5_sceneAt_6 f_X5_19 (by omega) ?_
      refine V.top h1 ?_
      refine V.icmp_ge 21 dX5_sceneAt_9 (by decide) (fun c9 => ?_) (fun c9 => ?_)
      · refine V.iconst (-1) dX5_sceneAt_21 (by decide +kernel) ?_
        exact V.ireturn dX5_sceneAt_22 rfl rfl ⟨by rw [hv], rfl⟩
      · exfalso
        apply hx
        simp [isIn, Int32.not_lt.mp c1, Int32.not_le.mp c9]
theorem c_isFull {l : List Nat} {k : Nat} (hk : k < 10) (hl : RS l (ro k) (rs k)) : Mt (dp + 1) 0 0 mX5_isFull [.ref (16 + 2 * k)] (HH f ro rs rw rb m) (RI (bI (decide (l.length = 5))) (HH f ro rs rw rb m)) := by
  refine Mt.of rfl rfl (Nat.le_of_ble_eq_true rfl) rfl ?_
  obtain ⟨h1, h5, hs⟩ := hl
  refine V.aldn 0 dX5_isFull_0 rfl rfl ?_
  refine V.gf5_1 dX5_isFull_1 f_X5_19 (by omega) ?_
  refine V.top h1 ?_
  refine V.iconst (nI 5) dX5_isFull_4 (by decide +kernel) ?_
  first | refine V.icmp_ltN 12 dX5_isFull_5 (by decide) (by omega) (by omega) (fun c5 => ?_) (fun c5 => ?_) | refine V.icmp_lt 12 dX5_isFull_5 (by decide) (fun c5 => ?_) (fun c5 => ?_)
  · refine V.iconst (nI 0) dX5_isFull_12 (by decide +kernel) ?_
    exact V.ireturn dX5_isFull_13 rfl (by first | rfl | decide +kernel) (⟨congrArg (fun x => some (Value.int x)) (bI_f (decide_eq_false (by omega))), rfl⟩)
  · refine V.iconst (nI 1) dX5_isFull_8 (by decide +kernel) ?_
    refine V.goto 13 dX5_isFull_9 (by decide) ?_
    exact V.ireturn dX5_isFull_13 rfl (by first | rfl | decide +kernel) (⟨congrArg (fun x => some (Value.int x)) (bI_t (decide_eq_true (by omega))), rfl⟩)
theorem c_clear {k : Nat} (hk : k < 10) : Mt (dp + 1) 0 0 mX5_clear [.ref (16 + 2 * k)] (HH f ro rs rw rb m) (RV (HH f (up2 ro k 1 (nI 0)) rs rw rb m)) := by
  refine Mt.of rfl rfl (Nat.le_of_ble_eq_true rfl) rfl ?_
  refine V.aldn 0 dX5_clear_0 rfl rfl ?_
  refine V.iconst (nI 0) dX5_clear_1 (by decide +kernel) ?_
  refine V.pf5_1 dX5_clear_2 (fp_X5_19 rfl) (by omega) ?_
  exact V.vreturn dX5_clear_5 rfl (⟨rfl, rfl⟩)
theorem c_append {z k s : Nat} (hk : k < 10) (hz : ro k 1 = nI z) (h5 : z < 5) : Mt (dp + 1) 0 0 mX5_append [.ref (16 + 2 * k), .int (nI s)] (HH f ro rs rw rb m) (RV (HH f (up2 ro k 1 (nI (z + 1))) (up2 rs k z (nI s)) rw rb m)) := by
  refine Mt.of rfl rfl (Nat.le_of_ble_eq_true rfl) rfl ?_
  refine V.aldn 0 dX5_append_0 rfl rfl ?_
  refine V.gf5_1 dX5_append_1 f_X5_19 (by omega) ?_
  refine V.top hz ?_
  refine V.iconst (nI 5) dX5_append_4 (by decide +kernel) ?_
  first | refine V.icmp_geN 28 dX5_append_5 (by decide) (by omega) (by omega) (fun c5 => ?_) (fun c5 => ?_) | refine V.icmp_ge 28 dX5_append_5 (by decide) (fun c5 => ?_) (fun c5 => ?_)
  · exact absurd c5 (by omega)
  · refine V.aldn 0 dX5_append_8 rfl rfl ?_
    refine V.gf5_0 dX5_append_9 f_X5_9 (by omega) ?_
    refine V.aldn 0 dX5_append_12 rfl rfl ?_
    refine V.gf5_1 dX5_append_13 f_X5_19 (by omega) ?_
    refine V.top hz ?_
    refine V.ildn 1 dX5_append_16 rfl rfl ?_
    refine V.ast_rs dX5_append_17 (by omega) (ix_nI (by omega) (by decide)) ?_
    refine V.aldn 0 dX5_append_18 rfl rfl ?_
    refine V.dupr dX5_append_19 ?_
    refine V.gf5_1 dX5_append_20 f_X5_19 (by omega) ?_
    refine V.top hz ?_
    refine V.iconst (nI 1) dX5_append_23 (by decide +kernel) ?_
    first | refine V.iaddN dX5_append_24 ?_ | refine V.iadd dX5_append_24 ?_
    refine V.pf5_1 dX5_append_25 (fp_X5_19 rfl) (by omega) ?_
    exact V.vreturn dX5_append_28 rfl (⟨rfl, rfl⟩)
theorem c_fitsInto {k : Nat} (hk : k < 10) (a b : Int32) : Mt (dp + 1) 0 0 mX5_fitsInto [.ref (16 + 2 * k), .int a, .int b] (HH f ro rs rw rb m) (RI (bI (decide (ro k 4 ≤ a) && decide (ro k 5 ≤ b))) (HH f ro rs rw rb m)) := by
  refine Mt.of rfl rfl (Nat.le_of_ble_eq_true rfl) rfl ?_
  refine V.aldn 0 dX5_fitsInto_0 rfl rfl ?_
  refine V.gf5_4 dX5_fitsInto_1 f_X5_30 (by omega) ?_
  refine V.ildn 1 dX5_fitsInto_4 rfl rfl ?_
  refine V.icmp_gt 20 dX5_fitsInto_5 (by decide) (fun c5 => ?_) (fun c5 => ?_)
  · refine V.iconst (nI 0) dX5_fitsInto_20 (by decide +kernel) ?_
    exact V.ireturn dX5_fitsInto_21 rfl (by first | rfl | decide +kernel) (⟨congrArg (fun x => some (Value.int x)) (bI_f (by simp [Int32.not_le.mpr c5])), rfl⟩)
  · refine V.aldn 0 dX5_fitsInto_8 rfl rfl ?_
    refine V.gf5_5 dX5_fitsInto_9 f_X5_49 (by omega) ?_
    refine V.ildn 2 dX5_fitsInto_12 rfl rfl ?_
    refine V.icmp_gt 20 dX5_fitsInto_13 (by decide) (fun c13 => ?_) (fun c13 => ?_)
    · refine V.iconst (nI 0) dX5_fitsInto_20 (by decide +kernel) ?_
      exact V.ireturn dX5_fitsInto_21 rfl (by first | rfl | decide +kernel) (⟨congrArg (fun x => some (Value.int x)) (bI_f (by simp [Int32.not_le.mpr c13])), rfl⟩)
    · refine V.iconst (nI 1) dX5_fitsInto_16 (by decide +kernel) ?_
      refine V.goto 21 dX5_fitsInto_17 (by decide) ?_
      exact V.ireturn dX5_fitsInto_21 rfl (by first | rfl | decide +kernel) (⟨congrArg (fun x => some (Value.int x)) (bI_t (by simp [Int32.not_lt.mp c5, Int32.not_lt.mp c13])), rfl⟩)
theorem c_hasDayLight {k : Nat} (hk : k < 10) : Mt (dp + 1) 0 0 mX5_hasDayLight [.ref (16 + 2 * k)] (HH f ro rs rw rb m) (RI (bI (decide (0 < ro k 5))) (HH f ro rs rw rb m)) := by
  refine Mt.of rfl rfl (Nat.le_of_ble_eq_true rfl) rfl ?_
  refine V.aldn 0 dX5_hasDayLight_0 rfl rfl ?_
  refine V.gf5_5 dX5_hasDayLight_1 f_X5_49 (by omega) ?_
  refine V.if_le 11 dX5_hasDayLight_4 (by decide) (fun c4 => ?_) (fun c4 => ?_)
  · refine V.iconst (nI 0) dX5_hasDayLight_11 (by decide +kernel) ?_
    exact V.ireturn dX5_hasDayLight_12 rfl (by first | rfl | decide +kernel) (⟨congrArg (fun x => some (Value.int x)) (bI_f (by simp [Int32.not_lt.mpr c4])), rfl⟩)
  · refine V.iconst (nI 1) dX5_hasDayLight_7 (by decide +kernel) ?_
    refine V.goto 12 dX5_hasDayLight_8 (by decide) ?_
    exact V.ireturn dX5_hasDayLight_12 rfl (by first | rfl | decide +kernel) (⟨congrArg (fun x => some (Value.int x)) (bI_t (by simp [Int32.not_le.mp c4])), rfl⟩)
theorem c_halfHoursOver {k t : Nat} (hk : k < 10) (h4 : ro k 4 = nI t) (ht : t ≤ 2100) : Mt (dp + 1) 0 0 mX5_halfHoursOver [.ref (16 + 2 * k)] (HH f ro rs rw rb m) (RI (ovr (nI t)) (HH f ro rs rw rb m)) := by
  refine Mt.of rfl rfl (Nat.le_of_ble_eq_true rfl) rfl ?_
  have ti : (nI t - nI 480).toInt = (t : Int) - (480 : Nat) := pk_sub_toInt (by omega) (by decide)
  have gt : (0 < nI t - nI 480) ↔ 480 < t := by rw [Int32.lt_iff_toInt_lt, ti, Int32.toInt_zero]; omega
  have e9 : nI t - nI 480 + nI 30 - nI 1 = nI t - nI 480 + nI 29 := by
    rw [Int32.sub_eq_add_neg (nI t - nI 480 + nI 30), Int32.add_assoc]
    congr 1
  refine V.aldn 0 dX5_halfHoursOver_0 rfl rfl ?_
  refine V.gf5_4 dX5_halfHoursOver_1 f_X5_30 (by omega) ?_
  refine V.top h4 ?_
  refine V.sipush (nI 480) dX5_halfHoursOver_4 (by decide +kernel) ?_
  refine V.isub dX5_halfHoursOver_7 ?_
  refine V.istn 1 dX5_halfHoursOver_8 rfl (Nat.le_of_ble_eq_true rfl) ?_
  refine V.ildn 1 dX5_halfHoursOver_9 rfl rfl ?_
  refine V.if_gt 17 dX5_halfHoursOver_10 (by decide) (fun c10 => ?_) (fun c10 => ?_)
  · refine V.ildn 1 dX5_halfHoursOver_17 rfl rfl ?_
    refine V.bipush (nI 30) dX5_halfHoursOver_18 (by decide +kernel) ?_
    refine V.iadd dX5_halfHoursOver_20 ?_
    refine V.iconst (nI 1) dX5_halfHoursOver_21 (by decide +kernel) ?_
    refine V.isub dX5_halfHoursOver_22 ?_
    refine V.top e9 ?_
    refine V.bipush (nI 30) dX5_halfHoursOver_23 (by decide +kernel) ?_
    refine V.idiv dX5_halfHoursOver_25 (by decide +kernel) ?_
    exact V.ireturn dX5_halfHoursOver_26 rfl (by first | rfl | decide +kernel) (⟨by rw [ovr, if_pos ((nI_ltI (by decide) (by omega)).mpr (gt.mp c10))], rfl⟩)
  · refine V.iconst (nI 0) dX5_halfHoursOver_13 (by decide +kernel) ?_
    refine V.goto 26 dX5_halfHoursOver_14 (by decide) ?_
    exact V.ireturn dX5_halfHoursOver_26 rfl (by first | rfl | decide +kernel) (⟨by rw [ovr, if_neg (fun q => c10 (gt.mpr ((nI_ltI (by decide) (by omega)).mp q)))], rfl⟩)
end CLASS
