/-! the class: a row measured; the film's needs -/
def noa (F : Nat → Nat → Int32) (x : Int32) : Nat → Int32
  | 0 => nI 0
  | s + 1 => if btB x s = true then noa F x s ||| F 7 s else noa F x s
def nbo (F : Nat → Nat → Int32) (n : Nat) (x : Int32) : Nat → Int32
  | 0 => x
  | r + 1 => nbo F n x r ||| noa F (nbo F n x r) n
theorem nit_any (F : Nat → Nat → Int32) (l : List Nat) : nit F l l.length = hasL F l (nI 2) := by
  have go : ∀ k, k ≤ l.length → (nit F l k = true ↔ ∃ i, i < k ∧ F 4 (l.getD i 0) = nI 2) := by
    intro k
    induction k with
    | zero => intro _; simp [nit]
    | succ k ih =>
      intro hk
      rw [nit, Bool.or_eq_true, ih (by omega), decide_eq_true_eq]
      constructor
      · rintro (⟨i, h1, h2⟩ | h)
        · exact ⟨i, by omega, h2⟩
        · exact ⟨k, by omega, h⟩
      · rintro ⟨i, h1, h2⟩
        rcases Nat.lt_succ_iff_lt_or_eq.mp h1 with q | q
        · exact Or.inl ⟨i, q, h2⟩
        · exact Or.inr (by rw [← q]; exact h2)
  cases h : hasL F l (nI 2) with
  | true =>
    rw [hasL, List.any_eq_true] at h
    obtain ⟨x, hx, h2⟩ := h
    obtain ⟨i, hi, rfl⟩ := mem_getD hx
    exact (go _ (Nat.le_refl _)).mpr ⟨i, hi, by simpa using h2⟩
  | false =>
    rw [hasL, List.any_eq_false] at h
    cases h2 : nit F l l.length with
    | false => rfl
    | true =>
      obtain ⟨i, hi, h3⟩ := (go _ (Nat.le_refl _)).mp h2
      exact absurd (by simpa using h3) (h _ (getD_mem hi))
section CLASS
variable {f ro rs : Nat → Nat → Int32} {rw rb : Nat → Nat} {m : Nat → Nat → Int32} {dp : Nat} {F : Nat → Nat → Int32} {n nd : Nat} {R : Nat → List Nat}
theorem c_forget {k : Nat} (hk : k < 10) : Mt (dp + 1) 0 0 mX5_forget [.ref (16 + 2 * k)] (HH f ro rs rw rb m) (fun r h' => ∃ ro', r = none ∧ h' = HH f ro' rs rw rb m ∧ (∀ q, q ≠ k → ro' q = ro q) ∧ ro' k 1 = ro k 1 ∧ RM F [] 0 (ro' k)) := by
  refine Mt.of rfl rfl (Nat.le_of_ble_eq_true rfl) rfl ?_
  refine V.aldn 0 dX5_forget_0 rfl rfl ?_
  refine V.iconst (nI 0) dX5_forget_1 (by decide +kernel) ?_
  refine V.pf5_2 dX5_forget_2 (fp_X5_43 rfl) (by omega) ?_
  refine V.aldn 0 dX5_forget_5 rfl rfl ?_
  refine V.iconst (nI 0) dX5_forget_6 (by decide +kernel) ?_
  refine V.pf5_3 dX5_forget_7 (fp_X5_46 rfl) (by omega) ?_
  refine V.aldn 0 dX5_forget_10 rfl rfl ?_
  refine V.iconst (nI 0) dX5_forget_11 (by decide +kernel) ?_
  refine V.pf5_4 dX5_forget_12 (fp_X5_30 rfl) (by omega) ?_
  refine V.aldn 0 dX5_forget_15 rfl rfl ?_
  refine V.iconst (nI 0) dX5_forget_16 (by decide +kernel) ?_
  refine V.pf5_5 dX5_forget_17 (fp_X5_49 rfl) (by omega) ?_
  refine V.aldn 0 dX5_forget_20 rfl rfl ?_
  refine V.iconst (nI 0) dX5_forget_21 (by decide +kernel) ?_
  refine V.pf5_6 dX5_forget_22 (fp_X5_52 rfl) (by omega) ?_
  refine V.aldn 0 dX5_forget_25 rfl rfl ?_
  refine V.iconst (nI 0) dX5_forget_26 (by decide +kernel) ?_
  refine V.pf5_7 dX5_forget_27 (fp_X5_55 rfl) (by omega) ?_
  refine V.aldn 0 dX5_forget_30 rfl rfl ?_
  refine V.iconst (nI 0) dX5_forget_31 (by decide +kernel) ?_
  refine V.pf5_8 dX5_forget_32 (fp_X5_58 rfl) (by omega) (by first | exact Or.inl nI_0 | exact Or.inr rfl | (right; decide +kernel) | assumption) ?_
  exact V.vreturn dX5_forget_35 rfl (⟨_, rfl, rfl, fun q hq => by rw [up2_ne hq, up2_ne hq, up2_ne hq, up2_ne hq, up2_ne hq, up2_ne hq, up2_ne hq], by simp [up2_at], by simp [RM, up2_at, mbr, ndr, mn, sn, orP, plr, nit, bI]⟩)
theorem c_measureScene (hC : CF F f) {k s : Nat} (hk : k < 10) (hs : s < 20) : Mt (dp + 1) 0 0 mX5_measureScene [.ref (16 + 2 * k), .ref 1, .int (nI s)] (HH f ro rs rw rb m) (fun r h' => ∃ ro', r = none ∧ h' = HH f ro' rs rw rb m ∧ (∀ q, q ≠ k → ro' q = ro q) ∧ ro' k 1 = ro k 1 ∧ ro' k 2 = ro k 2 ||| (nI 1 <<< (nI s &&& 31)) ∧ ro' k 3 = ro k 3 ||| F 7 s ∧ ro' k 4 = ro k 4 + F 2 s ∧ ro' k 5 = ro k 5 + (if F 4 s = nI 1 then F 2 s else nI 0) ∧ ro' k 6 = ro k 6 ||| F 6 s ∧ ro' k 7 = ro k 7 ||| (nI 1 <<< (F 3 s &&& 31)) ∧ ro' k 8 = (if F 4 s = nI 2 then nI 1 else ro k 8)) := by
  refine Mt.of rfl rfl (Nat.le_of_ble_eq_true rfl) rfl ?_
  generalize hQ : (fun (r : Option Value) (h' : List AC) => ∃ ro', r = none ∧ h' = HH f ro' rs rw rb m ∧ (∀ q, q ≠ k → ro' q = ro q) ∧ ro' k 1 = ro k 1 ∧ ro' k 2 = ro k 2 ||| (nI 1 <<< (nI s &&& 31)) ∧ ro' k 3 = ro k 3 ||| F 7 s ∧ ro' k 4 = ro k 4 + F 2 s ∧ ro' k 5 = ro k 5 + (if F 4 s = nI 1 then F 2 s else nI 0) ∧ ro' k 6 = ro k 6 ||| F 6 s ∧ ro' k 7 = ro k 7 ||| (nI 1 <<< (F 3 s &&& 31)) ∧ ro' k 8 = (if F 4 s = nI 2 then nI 1 else ro k 8)) = Q
  have st3 : ∀ ro1 : Nat → Nat → Int32, (∀ q, q ≠ k → ro1 q = ro q) → ro1 k 1 = ro k 1 → ro1 k 2 = ro k 2 ||| (nI 1 <<< (nI s &&& 31)) → ro1 k 3 = ro k 3 ||| F 7 s → ro1 k 4 = ro k 4 + F 2 s → ro1 k 5 = ro k 5 + (if F 4 s = nI 1 then F 2 s else nI 0) → ro1 k 6 = ro k 6 ||| F 6 s → ro1 k 7 = ro k 7 ||| (nI 1 <<< (F 3 s &&& 31)) → ro1 k 8 = ro k 8 → V mX5_measureScene (dp + 1) 0 0 99 [some (.ref (16 + 2 * k)), some (.ref 1), some (.int (nI s))] [] (HH f ro1 rs rw rb m) Q := by
    intro ro1 b0 b1 b2 b3 b4 b5 b6 b7 b8
    refine V.aldn 1 dX5_measureScene_99 rfl rfl ?_
    refine V.gf2_2 dX5_measureScene_100 f_X5_70 ?_
    refine V.ildn 2 dX5_measureScene_103 rfl rfl ?_
    refine V.ald_4 dX5_measureScene_104 (ix_nI (by omega) (by decide)) ?_
    refine V.top (y := F 4 s) (congrFun (hC 4 rfl) s) ?_
    refine V.iconst (nI 2) dX5_measureScene_105 (by decide +kernel) ?_
    refine V.icmp_ne 114 dX5_measureScene_106 (by decide) (fun c106 => ?_) (fun c106 => ?_)
    · exact V.vreturn dX5_measureScene_114 rfl (by rw [← hQ]; exact ⟨ro1, rfl, rfl, b0, b1, b2, b3, b4, b5, b6, b7, by rw [if_neg c106]; exact b8⟩)
    · refine V.aldn 0 dX5_measureScene_109 rfl rfl ?_
      refine V.iconst (nI 1) dX5_measureScene_110 (by decide +kernel) ?_
      refine V.pf5_8 dX5_measureScene_111 (fp_X5_58 rfl) (by omega) (by first | exact Or.inl nI_0 | exact Or.inr rfl | (right; decide +kernel) | assumption) ?_
      exact V.vreturn dX5_measureScene_114 rfl (by rw [← hQ]; exact ⟨_, rfl, rfl, fun q hq => by rw [up2_ne hq]; exact b0 q hq, by simp [up2_at, b1], by simp [up2_at, b2], by simp [up2_at, b3], by simp [up2_at, b4], by simp [up2_at, b5], by simp [up2_at, b6], by simp [up2_at, b7], by rw [if_pos c106]; simp [up2_at]⟩)
  refine V.aldn 0 dX5_measureScene_0 rfl rfl ?_
  refine V.dupr dX5_measureScene_1 ?_
  refine V.gf5_2 dX5_measureScene_2 f_X5_43 (by omega) ?_
  refine V.iconst (nI 1) dX5_measureScene_5 (by decide +kernel) ?_
  refine V.ildn 2 dX5_measureScene_6 rfl rfl ?_
  refine V.ishl dX5_measureScene_7 ?_
  refine V.ior dX5_measureScene_8 ?_
  refine V.pf5_2 dX5_measureScene_9 (fp_X5_43 rfl) (by omega) ?_
  refine V.aldn 0 dX5_measureScene_12 rfl rfl ?_
  refine V.dupr dX5_measureScene_13 ?_
  refine V.gf5_3 dX5_measureScene_14 f_X5_46 (by omega) ?_
  refine V.aldn 1 dX5_measureScene_17 rfl rfl ?_
  refine V.gf2_5 dX5_measureScene_18 f_X5_61 ?_
  refine V.ildn 2 dX5_measureScene_21 rfl rfl ?_
  refine V.ald_7 dX5_measureScene_22 (ix_nI (by omega) (by decide)) ?_
  refine V.top (y := F 7 s) (congrFun (hC 7 rfl) s) ?_
  refine V.ior dX5_measureScene_23 ?_
  refine V.pf5_3 dX5_measureScene_24 (fp_X5_46 rfl) (by omega) ?_
  refine V.aldn 0 dX5_measureScene_27 rfl rfl ?_
  refine V.dupr dX5_measureScene_28 ?_
  refine V.gf5_4 dX5_measureScene_29 f_X5_30 (by omega) ?_
  refine V.aldn 1 dX5_measureScene_32 rfl rfl ?_
  refine V.gf2_0 dX5_measureScene_33 f_X5_63 ?_
  refine V.ildn 2 dX5_measureScene_36 rfl rfl ?_
  refine V.ald_2 dX5_measureScene_37 (ix_nI (by omega) (by decide)) ?_
  refine V.top (y := F 2 s) (congrFun (hC 2 rfl) s) ?_
  refine V.iadd dX5_measureScene_38 ?_
  refine V.pf5_4 dX5_measureScene_39 (fp_X5_30 rfl) (by omega) ?_
  refine V.aldn 0 dX5_measureScene_42 rfl rfl ?_
  refine V.dupr dX5_measureScene_43 ?_
  refine V.gf5_6 dX5_measureScene_44 f_X5_52 (by omega) ?_
  refine V.aldn 1 dX5_measureScene_47 rfl rfl ?_
  refine V.gf2_4 dX5_measureScene_48 f_X5_65 ?_
  refine V.ildn 2 dX5_measureScene_51 rfl rfl ?_
  refine V.ald_6 dX5_measureScene_52 (ix_nI (by omega) (by decide)) ?_
  refine V.top (y := F 6 s) (congrFun (hC 6 rfl) s) ?_
  refine V.ior dX5_measureScene_53 ?_
  refine V.pf5_6 dX5_measureScene_54 (fp_X5_52 rfl) (by omega) ?_
  refine V.aldn 0 dX5_measureScene_57 rfl rfl ?_
  refine V.dupr dX5_measureScene_58 ?_
  refine V.gf5_7 dX5_measureScene_59 f_X5_55 (by omega) ?_
  refine V.iconst (nI 1) dX5_measureScene_62 (by decide +kernel) ?_
  refine V.aldn 1 dX5_measureScene_63 rfl rfl ?_
  refine V.gf2_1 dX5_measureScene_64 f_X5_67 ?_
  refine V.ildn 2 dX5_measureScene_67 rfl rfl ?_
  refine V.ald_3 dX5_measureScene_68 (ix_nI (by omega) (by decide)) ?_
  refine V.top (y := F 3 s) (congrFun (hC 3 rfl) s) ?_
  refine V.ishl dX5_measureScene_69 ?_
  refine V.ior dX5_measureScene_70 ?_
  refine V.pf5_7 dX5_measureScene_71 (fp_X5_55 rfl) (by omega) ?_
  refine V.aldn 1 dX5_measureScene_74 rfl rfl ?_
  refine V.gf2_2 dX5_measureScene_75 f_X5_70 ?_
  refine V.ildn 2 dX5_measureScene_78 rfl rfl ?_
  refine V.ald_4 dX5_measureScene_79 (ix_nI (by omega) (by decide)) ?_
  refine V.top (y := F 4 s) (congrFun (hC 4 rfl) s) ?_
  refine V.iconst (nI 1) dX5_measureScene_80 (by decide +kernel) ?_
  refine V.icmp_ne 99 dX5_measureScene_81 (by decide) (fun c81 => ?_) (fun c81 => ?_)
  · refine st3 _ (fun q hq => by rw [up2_ne hq, up2_ne hq, up2_ne hq, up2_ne hq, up2_ne hq]) ?_ ?_ ?_ ?_ ?_ ?_ ?_ ?_ <;> simp [up2_at, nI_0, c81]
  · refine V.aldn 0 dX5_measureScene_84 rfl rfl ?_
    refine V.dupr dX5_measureScene_85 ?_
    refine V.gf5_5 dX5_measureScene_86 f_X5_49 (by omega) ?_
    refine V.aldn 1 dX5_measureScene_89 rfl rfl ?_
    refine V.gf2_0 dX5_measureScene_90 f_X5_63 ?_
    refine V.ildn 2 dX5_measureScene_93 rfl rfl ?_
    refine V.ald_2 dX5_measureScene_94 (ix_nI (by omega) (by decide)) ?_
    refine V.top (y := F 2 s) (congrFun (hC 2 rfl) s) ?_
    refine V.iadd dX5_measureScene_95 ?_
    refine V.pf5_5 dX5_measureScene_96 (fp_X5_49 rfl) (by omega) ?_
    refine st3 _ (fun q hq => by rw [up2_ne hq, up2_ne hq, up2_ne hq, up2_ne hq, up2_ne hq, up2_ne hq]) ?_ ?_ ?_ ?_ ?_ ?_ ?_ ?_ <;> simp [up2_at, c81]
theorem c_isInTurn (hC : CF F f) {l : List Nat} {k : Nat} (hk : k < 10) (hl : RS l (ro k) (rs k)) (h2 : ro k 2 = mbr l l.length) : Mt (dp + 1) 0 0 mX5_isInTurn [.ref (16 + 2 * k), .ref 1] (HH f ro rs rw rb m) (RI (bI (dB (inT F l))) (HH f ro rs rw rb m)) := by
  refine Mt.of rfl rfl (Nat.le_of_ble_eq_true rfl) rfl ?_
  obtain ⟨h1, h5, hs⟩ := hl
  have loop : ∀ (j i : Nat), l.length - i = j → i ≤ l.length → (∀ q, q < i → (F 7 (l.getD q 0) &&& tc l q) = 0) → V mX5_isInTurn (dp + 1) 0 0 7 [some (.ref (16 + 2 * k)), some (.ref 1), some (.int (tc l i)), some (.int (nI i))] [] (HH f ro rs rw rb m) (RI (bI (dB (inT F l))) (HH f ro rs rw rb m)) := by
    intro j
    induction j using Nat.strongRecOn with
    | _ j ih =>
      intro i hj hi hno
      refine V.ildn 3 dX5_isInTurn_7 rfl rfl ?_
      refine V.aldn 0 dX5_isInTurn_8 rfl rfl ?_
      refine V.gf5_1 dX5_isInTurn_9 f_X5_19 (by omega) ?_
      refine V.top h1 ?_
      first | refine V.icmp_geN 52 dX5_isInTurn_12 (by decide) (by omega) (by omega) (fun c12 => ?_) (fun c12 => ?_) | refine V.icmp_ge 52 dX5_isInTurn_12 (by decide) (fun c12 => ?_) (fun c12 => ?_)
      · refine V.iconst (nI 1) dX5_isInTurn_52 (by decide +kernel) ?_
        exact V.ireturn dX5_isInTurn_53 rfl (by first | rfl | decide +kernel) (⟨congrArg (fun x => some (Value.int x)) (bI_t (dB_t (fun q hq => hno q (by omega)))), rfl⟩)
      · have hs20 := (hs i c12).2
        refine V.aldn 1 dX5_isInTurn_15 rfl rfl ?_
        refine V.gf2_5 dX5_isInTurn_16 f_X5_61 ?_
        refine V.aldn 0 dX5_isInTurn_19 rfl rfl ?_
        refine V.gf5_0 dX5_isInTurn_20 f_X5_9 (by omega) ?_
        refine V.ildn 3 dX5_isInTurn_23 rfl rfl ?_
        refine V.ald_rs dX5_isInTurn_24 (by omega) (ix_nI (by omega) (by decide)) ?_
        refine V.top (hs i c12).1 ?_
        refine V.ald_7 dX5_isInTurn_25 (ix_nI (by omega) (by decide)) ?_
        refine V.top (congrFun (hC 7 rfl) _) ?_
        refine V.ildn 2 dX5_isInTurn_26 rfl rfl ?_
        refine V.iand dX5_isInTurn_27 ?_
        refine V.if_eq 33 dX5_isInTurn_28 (by decide) (fun c28 => ?_) (fun c28 => ?_)
        · refine V.ildn 2 dX5_isInTurn_33 rfl rfl ?_
          refine V.iconst (nI 1) dX5_isInTurn_34 (by decide +kernel) ?_
          refine V.aldn 0 dX5_isInTurn_35 rfl rfl ?_
          refine V.gf5_0 dX5_isInTurn_36 f_X5_9 (by omega) ?_
          refine V.ildn 3 dX5_isInTurn_39 rfl rfl ?_
          refine V.ald_rs dX5_isInTurn_40 (by omega) (ix_nI (by omega) (by decide)) ?_
          refine V.top (hs i c12).1 ?_
          refine V.ishl dX5_isInTurn_41 ?_
          refine V.iconst (-1) dX5_isInTurn_42 (by decide +kernel) ?_
          refine V.ixor dX5_isInTurn_43 ?_
          refine V.iand dX5_isInTurn_44 ?_
          refine V.istn 2 dX5_isInTurn_45 rfl (Nat.le_of_ble_eq_true rfl) ?_
          first | refine V.iincN dX5_isInTurn_46 rfl ?_ | refine V.iinc dX5_isInTurn_46 rfl rfl ?_
          refine V.goto 7 dX5_isInTurn_49 (by decide) ?_
          exact ih _ (by omega) (i + 1) rfl (by omega) (fun q hq => by rcases Nat.lt_succ_iff_lt_or_eq.mp hq with z | z; exact hno q z; rw [z]; exact c28)
        · refine V.iconst (nI 0) dX5_isInTurn_31 (by decide +kernel) ?_
          exact V.ireturn dX5_isInTurn_32 rfl (by first | rfl | decide +kernel) (⟨congrArg (fun x => some (Value.int x)) (bI_f (dB_f (fun q => c28 (q i c12)))), rfl⟩)
  refine V.aldn 0 dX5_isInTurn_0 rfl rfl ?_
  refine V.gf5_2 dX5_isInTurn_1 f_X5_43 (by omega) ?_
  refine V.top h2 ?_
  refine V.istn 2 dX5_isInTurn_4 rfl (Nat.le_of_ble_eq_true rfl) ?_
  refine V.iconst (nI 0) dX5_isInTurn_5 (by decide +kernel) ?_
  refine V.istn 3 dX5_isInTurn_6 rfl (Nat.le_of_ble_eq_true rfl) ?_
  exact loop _ 0 rfl (Nat.zero_le _) (fun q hq => absurd hq (Nat.not_lt_zero q))
theorem c_measure (hC : CF F f) (hB : FB F) (hp : PlV F) {l : List Nat} {k : Nat} (hk : k < 10) (hl : RS l (ro k) (rs k)) : Mt (dp + 2) 0 0 mX5_measure [.ref (16 + 2 * k), .ref 1] (HH f ro rs rw rb m) (fun r h' => ∃ ro', r = none ∧ h' = HH f ro' rs rw rb m ∧ (∀ q, q ≠ k → ro' q = ro q) ∧ RowIs F l (ro' k) (rs k)) := by
  refine Mt.of rfl rfl (Nat.le_of_ble_eq_true rfl) rfl ?_
  obtain ⟨h1, h5, hs⟩ := hl
  generalize hQ : (fun (r : Option Value) (h' : List AC) => ∃ ro', r = none ∧ h' = HH f ro' rs rw rb m ∧ (∀ q, q ≠ k → ro' q = ro q) ∧ RowIs F l (ro' k) (rs k)) = Q
  have loop : ∀ (j i : Nat) (ro1 : Nat → Nat → Int32), l.length - i = j → i ≤ l.length → (∀ q, q ≠ k → ro1 q = ro q) → ro1 k 1 = nI l.length → RM F l i (ro1 k) → V mX5_measure (dp + 2) 0 0 6 [some (.ref (16 + 2 * k)), some (.ref 1), some (.int (nI i))] [] (HH f ro1 rs rw rb m) Q := by
    intro j
    induction j using Nat.strongRecOn with
    | _ j ih =>
      intro i ro1 hj hi b0 b1 hM
      have fin : i = l.length → V mX5_measure (dp + 2) 0 0 62 [some (.ref (16 + 2 * k)), some (.ref 1), some (.int (nI i))] [] (HH f ro1 rs rw rb m) Q := by
        intro he
        subst he
        refine V.aldn 0 dX5_measure_62 rfl rfl ?_
        refine V.aldn 0 dX5_measure_63 rfl rfl ?_
        refine V.aldn 1 dX5_measure_64 rfl rfl ?_
        refine V.cVi ((c_isInTurn hC hk ⟨b1, h5, hs⟩ hM.1 : Mt (dp + 1) 0 0 _ _ _ _)) dX5_measure_65 k_X5_39 rfl rfl (HH_row (by omega)) (Nat.le_of_ble_eq_true rfl) rfl ?_
        refine V.pf5_9 dX5_measure_68 (fp_X5_15 rfl) (by omega) (bI_01 _) ?_
        exact V.vreturn dX5_measure_71 rfl (by rw [← hQ]; exact ⟨_, rfl, rfl, fun q hq => by rw [up2_ne hq]; exact b0 q hq, ⟨by simp [up2_at, b1], h5, hs⟩, by obtain ⟨c1, c2, c3, c4, c5, c6, c7⟩ := hM; exact ⟨by simp [up2_at, c1], by simp [up2_at, c2], by simp [up2_at, c3], by simp [up2_at, c4], by simp [up2_at, c5], by simp [up2_at, c6], by simp [up2_at, c7]⟩, by simp [up2_at]⟩)
      refine V.ildn 2 dX5_measure_6 rfl rfl ?_
      refine V.aldn 0 dX5_measure_7 rfl rfl ?_
      refine V.gf5_1 dX5_measure_8 f_X5_19 (by omega) ?_
      refine V.top b1 ?_
      first | refine V.icmp_geN 62 dX5_measure_11 (by decide) (by omega) (by omega) (fun c11 => ?_) (fun c11 => ?_) | refine V.icmp_ge 62 dX5_measure_11 (by decide) (fun c11 => ?_) (fun c11 => ?_)
      · exact fin (by omega)
      · have hs20 := (hs i c11).2
        refine V.aldn 0 dX5_measure_14 rfl rfl ?_
        refine V.aldn 1 dX5_measure_15 rfl rfl ?_
        refine V.aldn 0 dX5_measure_16 rfl rfl ?_
        refine V.gf5_0 dX5_measure_17 f_X5_9 (by omega) ?_
        refine V.ildn 2 dX5_measure_20 rfl rfl ?_
        refine V.ald_rs dX5_measure_21 (by omega) (ix_nI (by omega) (by decide)) ?_
        refine V.top (hs i c11).1 ?_
        refine V.cVe (c_measureScene (dp := dp) hC hk hs20) dX5_measure_22 k_X5_26 rfl rfl (HH_row hk) (Nat.le_of_ble_eq_true rfl) rfl ?_
        rintro _ _ ⟨ro2, rfl, rfl, e0, e1, e2, e3, e4, e5, e6, e7, e8⟩
        refine V.eqs (st' := []) rfl ?_
        obtain ⟨c1, c2, c3, c4, c5, c6, c7⟩ := hM
        have hr2 : ro2 k 2 = mbr l (i + 1) := by rw [e2, c1]; rfl
        have hr3 : ro2 k 3 = ndr F l (i + 1) := by rw [e3, c2]; rfl
        have hr5 : ro2 k 5 = sn F l (i + 1) := by rw [e5, c4]; rfl
        have hr6 : ro2 k 6 = orP F l (i + 1) := by rw [e6, c5]; rfl
        have hr7 : ro2 k 7 = plr F l (i + 1) := by rw [e7, c6]; rfl
        have hr8 : ro2 k 8 = bI (nit F l (i + 1)) := by rw [e8, c7, nit]; split; (rename_i q; rw [decide_eq_true q, Bool.or_true]; rfl); (rename_i q; rw [decide_eq_false q, Bool.or_false])
        refine V.ildn 2 dX5_measure_25 rfl rfl ?_
        first | refine V.if_leN 56 dX5_measure_26 (by decide) (by omega) (fun c26 => ?_) (fun c26 => ?_) | refine V.if_le 56 dX5_measure_26 (by decide) (fun c26 => ?_) (fun c26 => ?_)
        · refine V.iincN dX5_measure_56 rfl ?_
          refine V.goto 6 dX5_measure_59 (by decide) ?_
          refine ih _ (by omega) (i + 1) ro2 rfl (by omega) (fun q hq => (e0 q hq).trans (b0 q hq)) (e1.trans b1) ⟨hr2, hr3, ?_, hr5, hr6, hr7, hr8⟩
          rw [e4, c3, mn, if_pos c26, nI_0, Int32.add_zero]
        · have hs21 := (hs (i - 1) (by omega)).2
          refine V.aldn 0 dX5_measure_29 rfl rfl ?_
          refine V.dupr dX5_measure_30 ?_
          refine V.gf5_4 dX5_measure_31 f_X5_30 (by omega) ?_
          refine V.top e4 ?_
          refine V.aldn 1 dX5_measure_34 rfl rfl ?_
          refine V.aldn 0 dX5_measure_35 rfl rfl ?_
          refine V.gf5_0 dX5_measure_36 f_X5_9 (by omega) ?_
          refine V.ildn 2 dX5_measure_39 rfl rfl ?_
          refine V.iconst (nI 1) dX5_measure_40 (by decide +kernel) ?_
          first | refine V.isubN dX5_measure_41 (by omega) ?_ | refine V.isub dX5_measure_41 ?_
          refine V.ald_rs dX5_measure_42 (by omega) (ix_nI (by omega) (by decide)) ?_
          refine V.top (hs (i - 1) (by omega)).1 ?_
          refine V.aldn 0 dX5_measure_43 rfl rfl ?_
          refine V.gf5_0 dX5_measure_44 f_X5_9 (by omega) ?_
          refine V.ildn 2 dX5_measure_47 rfl rfl ?_
          refine V.ald_rs dX5_measure_48 (by omega) (ix_nI (by omega) (by decide)) ?_
          refine V.top (hs i c11).1 ?_
          refine V.cVi ((c_way hC hB hp hs21 hs20 : Mt (dp + 1) 0 0 _ _ _ _)) dX5_measure_49 k_X5_33 rfl rfl rfl (Nat.le_of_ble_eq_true rfl) rfl ?_
          refine V.iadd dX5_measure_52 ?_
          refine V.pf5_4 dX5_measure_53 (fp_X5_30 rfl) (by omega) ?_
          first | refine V.iincN dX5_measure_56 rfl ?_ | refine V.iinc dX5_measure_56 rfl rfl ?_
          refine V.goto 6 dX5_measure_59 (by decide) ?_
          refine ih _ (by omega) (i + 1) _ rfl (by omega) (fun q hq => by rw [up2_ne hq]; exact (e0 q hq).trans (b0 q hq)) (by simp [up2_at]; exact e1.trans b1) ⟨by simp [up2_at, hr2], by simp [up2_at, hr3], ?_, by simp [up2_at, hr5], by simp [up2_at, hr6], by simp [up2_at, hr7], by simp [up2_at, hr8]⟩
          rw [up2_at, if_pos ⟨rfl, rfl⟩, c3, mn, if_neg (by omega), Int32.add_assoc]
  refine V.aldn 0 dX5_measure_0 rfl rfl ?_
  refine V.cVe (c_forget (F := F) (dp := dp) hk) dX5_measure_1 k_X5_23 rfl rfl (HH_row hk) (Nat.le_of_ble_eq_true rfl) rfl ?_
  rintro _ _ ⟨ro2, rfl, rfl, e0, e1, hM0⟩
  refine V.eqs (st' := []) rfl ?_
  refine V.iconst (nI 0) dX5_measure_4 (by decide +kernel) ?_
  refine V.istn 2 dX5_measure_5 rfl (Nat.le_of_ble_eq_true rfl) ?_
  exact loop _ 0 ro2 rfl (Nat.zero_le _) e0 (e1.trans h1) hM0
theorem c_needsOfAll (hC : CF F f) (hn : n ≤ 20) (h1 : f 1 10 = nI n) (x : Int32) : Mt (dp + 2) 0 0 mX2_needsOfAll [.ref 1, .int x] (HH f ro rs rw rb m) (RI (noa F x n) (HH f ro rs rw rb m)) := by
  refine Mt.of rfl rfl (Nat.le_of_ble_eq_true rfl) rfl ?_
  have loop : ∀ (j i : Nat), n - i = j → i ≤ n → V mX2_needsOfAll (dp + 2) 0 0 4 [some (.ref 1), some (.int x), some (.int (noa F x i)), some (.int (nI i))] [] (HH f ro rs rw rb m) (RI (noa F x n) (HH f ro rs rw rb m)) := by
    intro j
    induction j using Nat.strongRecOn with
    | _ j ih =>
      intro i hj hi
      refine V.ildn 3 dX2_needsOfAll_4 rfl rfl ?_
      refine V.aldn 0 dX2_needsOfAll_5 rfl rfl ?_
      refine V.gf2_10 dX2_needsOfAll_6 f_X2_42 ?_
      refine V.top h1 ?_
      first | refine V.icmp_geN 35 dX2_needsOfAll_9 (by decide) (by omega) (by omega) (fun c9 => ?_) (fun c9 => ?_) | refine V.icmp_ge 35 dX2_needsOfAll_9 (by decide) (fun c9 => ?_) (fun c9 => ?_)
      · obtain rfl : i = n := by omega
        refine V.ildn 2 dX2_needsOfAll_35 rfl rfl ?_
        exact V.ireturn dX2_needsOfAll_36 rfl (by first | rfl | decide +kernel) (⟨rfl, rfl⟩)
      · refine V.ildn 1 dX2_needsOfAll_12 rfl rfl ?_
        refine V.ildn 3 dX2_needsOfAll_13 rfl rfl ?_
        refine V.cSi (c_hasBit x i) dX2_needsOfAll_14 k_X2_50 rfl rfl (Nat.le_of_ble_eq_true rfl) rfl ?_
        first | refine V.if_eqB 29 dX2_needsOfAll_17 (by decide) (fun c17 => ?_) (fun c17 => ?_) | refine V.if_eqN 29 dX2_needsOfAll_17 (by decide) (by omega) (fun c17 => ?_) (fun c17 => ?_) | refine V.if_eq 29 dX2_needsOfAll_17 (by decide) (fun c17 => ?_) (fun c17 => ?_)
        · have e : noa F x i = noa F x (i + 1) := by rw [noa, if_neg (by rw [c17]; decide)]
          rw [e]
          refine V.iincN dX2_needsOfAll_29 rfl ?_
          refine V.goto 4 dX2_needsOfAll_32 (by decide) ?_
          exact ih _ (by omega) (i + 1) rfl (by omega)
        · refine V.ildn 2 dX2_needsOfAll_20 rfl rfl ?_
          refine V.aldn 0 dX2_needsOfAll_21 rfl rfl ?_
          refine V.gf2_5 dX2_needsOfAll_22 f_X2_27 ?_
          refine V.ildn 3 dX2_needsOfAll_25 rfl rfl ?_
          refine V.ald_7 dX2_needsOfAll_26 (ix_nI (by omega) (by decide)) ?_
          refine V.top (congrFun (hC 7 rfl) _) ?_
          refine V.ior dX2_needsOfAll_27 ?_
          refine V.top (y := noa F x (i + 1)) (by rw [noa, if_pos c17]; rfl) ?_
          refine V.istn 2 dX2_needsOfAll_28 rfl (Nat.le_of_ble_eq_true rfl) ?_
          first | refine V.iincN dX2_needsOfAll_29 rfl ?_ | refine V.iinc dX2_needsOfAll_29 rfl rfl ?_
          refine V.goto 4 dX2_needsOfAll_32 (by decide) ?_
          exact ih _ (by omega) (i + 1) rfl (by omega)
  refine V.iconst (nI 0) dX2_needsOfAll_0 (by decide +kernel) ?_
  refine V.istn 2 dX2_needsOfAll_1 rfl (Nat.le_of_ble_eq_true rfl) ?_
  refine V.iconst (nI 0) dX2_needsOfAll_2 (by decide +kernel) ?_
  refine V.istn 3 dX2_needsOfAll_3 rfl (Nat.le_of_ble_eq_true rfl) ?_
  exact loop _ 0 rfl (Nat.zero_le _)
theorem c_needsByOthersToo (hC : CF F f) (hn : n ≤ 20) (h1 : f 1 10 = nI n) {a : Nat} (ha : a < 20) : Mt (dp + 3) 0 0 mX2_needsByOthersToo [.ref 1, .int (nI a)] (HH f ro rs rw rb m) (RI (nbo F n (F 7 a) n) (HH f ro rs rw rb m)) := by
  refine Mt.of rfl rfl (Nat.le_of_ble_eq_true rfl) rfl ?_
  have loop : ∀ (j i : Nat), n - i = j → i ≤ n → V mX2_needsByOthersToo (dp + 3) 0 0 9 [some (.ref 1), some (.int (nI a)), some (.int (nbo F n (F 7 a) i)), some (.int (nI i))] [] (HH f ro rs rw rb m) (RI (nbo F n (F 7 a) n) (HH f ro rs rw rb m)) := by
    intro j
    induction j using Nat.strongRecOn with
    | _ j ih =>
      intro i hj hi
      refine V.ildn 3 dX2_needsByOthersToo_9 rfl rfl ?_
      refine V.aldn 0 dX2_needsByOthersToo_10 rfl rfl ?_
      refine V.gf2_10 dX2_needsByOthersToo_11 f_X2_42 ?_
      refine V.top h1 ?_
      first | refine V.icmp_geN 31 dX2_needsByOthersToo_14 (by decide) (by omega) (by omega) (fun c14 => ?_) (fun c14 => ?_) | refine V.icmp_ge 31 dX2_needsByOthersToo_14 (by decide) (fun c14 => ?_) (fun c14 => ?_)
      · obtain rfl : i = n := by omega
        refine V.ildn 2 dX2_needsByOthersToo_31 rfl rfl ?_
        exact V.ireturn dX2_needsByOthersToo_32 rfl (by first | rfl | decide +kernel) (⟨rfl, rfl⟩)
      · refine V.ildn 2 dX2_needsByOthersToo_17 rfl rfl ?_
        refine V.aldn 0 dX2_needsByOthersToo_18 rfl rfl ?_
        refine V.ildn 2 dX2_needsByOthersToo_19 rfl rfl ?_
        refine V.cVi (c_needsOfAll hC hn h1 (nbo F n (F 7 a) i)) dX2_needsByOthersToo_20 k_X2_46 rfl rfl rfl (Nat.le_of_ble_eq_true rfl) rfl ?_
        refine V.ior dX2_needsByOthersToo_23 ?_
        refine V.istn 2 dX2_needsByOthersToo_24 rfl (Nat.le_of_ble_eq_true rfl) ?_
        first | refine V.iincN dX2_needsByOthersToo_25 rfl ?_ | refine V.iinc dX2_needsByOthersToo_25 rfl rfl ?_
        refine V.goto 9 dX2_needsByOthersToo_28 (by decide) ?_
        exact ih _ (by omega) (i + 1) rfl (by omega)
  refine V.aldn 0 dX2_needsByOthersToo_0 rfl rfl ?_
  refine V.gf2_5 dX2_needsByOthersToo_1 f_X2_27 ?_
  refine V.ildn 1 dX2_needsByOthersToo_4 rfl rfl ?_
  refine V.ald_7 dX2_needsByOthersToo_5 (ix_nI (by omega) (by decide)) ?_
  refine V.top (congrFun (hC 7 rfl) _) ?_
  refine V.istn 2 dX2_needsByOthersToo_6 rfl (Nat.le_of_ble_eq_true rfl) ?_
  refine V.iconst (nI 0) dX2_needsByOthersToo_7 (by decide +kernel) ?_
  refine V.istn 3 dX2_needsByOthersToo_8 rfl (Nat.le_of_ble_eq_true rfl) ?_
  exact loop _ 0 rfl (Nat.zero_le _)
theorem c_scenesAheadOfSome (hC : CF F f) (hn : n ≤ 20) (h1 : f 1 10 = nI n) : Mt (dp + 1) 0 0 mX2_scenesAheadOfSome [.ref 1] (HH f ro rs rw rb m) (RI (orN F n) (HH f ro rs rw rb m)) := by
  refine Mt.of rfl rfl (Nat.le_of_ble_eq_true rfl) rfl ?_
  have loop : ∀ (j i : Nat), n - i = j → i ≤ n → V mX2_scenesAheadOfSome (dp + 1) 0 0 4 [some (.ref 1), some (.int (orN F i)), some (.int (nI i))] [] (HH f ro rs rw rb m) (RI (orN F n) (HH f ro rs rw rb m)) := by
    intro j
    induction j using Nat.strongRecOn with
    | _ j ih =>
      intro i hj hi
      refine V.ildn 2 dX2_scenesAheadOfSome_4 rfl rfl ?_
      refine V.aldn 0 dX2_scenesAheadOfSome_5 rfl rfl ?_
      refine V.gf2_10 dX2_scenesAheadOfSome_6 f_X2_42 ?_
      refine V.top h1 ?_
      first | refine V.icmp_geN 27 dX2_scenesAheadOfSome_9 (by decide) (by omega) (by omega) (fun c9 => ?_) (fun c9 => ?_) | refine V.icmp_ge 27 dX2_scenesAheadOfSome_9 (by decide) (fun c9 => ?_) (fun c9 => ?_)
      · obtain rfl : i = n := by omega
        refine V.ildn 1 dX2_scenesAheadOfSome_27 rfl rfl ?_
        exact V.ireturn dX2_scenesAheadOfSome_28 rfl (by first | rfl | decide +kernel) (⟨rfl, rfl⟩)
      · refine V.ildn 1 dX2_scenesAheadOfSome_12 rfl rfl ?_
        refine V.aldn 0 dX2_scenesAheadOfSome_13 rfl rfl ?_
        refine V.gf2_5 dX2_scenesAheadOfSome_14 f_X2_27 ?_
        refine V.ildn 2 dX2_scenesAheadOfSome_17 rfl rfl ?_
        refine V.ald_7 dX2_scenesAheadOfSome_18 (ix_nI (by omega) (by decide)) ?_
        refine V.top (congrFun (hC 7 rfl) _) ?_
        refine V.ior dX2_scenesAheadOfSome_19 ?_
        refine V.istn 1 dX2_scenesAheadOfSome_20 rfl (Nat.le_of_ble_eq_true rfl) ?_
        first | refine V.iincN dX2_scenesAheadOfSome_21 rfl ?_ | refine V.iinc dX2_scenesAheadOfSome_21 rfl rfl ?_
        refine V.goto 4 dX2_scenesAheadOfSome_24 (by decide) ?_
        exact ih _ (by omega) (i + 1) rfl (by omega)
  refine V.iconst (nI 0) dX2_scenesAheadOfSome_0 (by decide +kernel) ?_
  refine V.istn 1 dX2_scenesAheadOfSome_1 rfl (Nat.le_of_ble_eq_true rfl) ?_
  refine V.iconst (nI 0) dX2_scenesAheadOfSome_2 (by decide +kernel) ?_
  refine V.istn 2 dX2_scenesAheadOfSome_3 rfl (Nat.le_of_ble_eq_true rfl) ?_
  exact loop _ 0 rfl (Nat.zero_le _)
end CLASS
