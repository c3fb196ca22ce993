/-! the constructors -/
abbrev zA (n : Nat) : AC := .inr (0, n, .inl (fun _ => 0))
abbrev zB (n : Nat) : AC := .inr (1, n, .inl (fun _ => 0))
abbrev dRow : AC := .inl (5, [.null, .int 0, .int 0, .int 0, .int 0, .int 0, .int 0, .int 0, .int 0, .int 0])
abbrev oRow (k : Nat) : AC := .inl (5, [.ref k, .int 0, .int 0, .int 0, .int 0, .int 0, .int 0, .int 0, .int 0, .int (nI 1)])
def qF : Nat → (Nat → Option Nat)
  | 0 => fun _ => none
  | k + 1 => va_up (qF k) k (some (16 + 2 * k))
abbrev hA0 (a b c d : Value) : AC := .inl (6, [a, b, c, d])
abbrev cFilm : List AC := [.inl (2, [.ref 2, .ref 3, .ref 4, .ref 5, .ref 6, .ref 7, .ref 8, .ref 9, .ref 10, .ref 11, .int 0]), zA 20, zA 20, zA 20, zA 20, zA 20, zA 20, zA 8, zA 8, zA 8, zA 8]
abbrev cPlan : List AC := [.inl (3, [.ref 1, .ref 13, .ref 14, .ref 15, .int 0]), .inr (2, 10, .inr (qF 10)), zA 8, zA 8, oRow 17, zA 5, oRow 19, zA 5, oRow 21, zA 5, oRow 23, zA 5, oRow 25, zA 5, oRow 27, zA 5, oRow 29, zA 5, oRow 31, zA 5, oRow 33, zA 5, oRow 35, zA 5]
abbrev cBill : AC := .inl (1, [.ref 1, .ref 12])
abbrev cPlanner : List AC := [.inl (4, [.ref 1, .ref 12, .ref 36, .ref 41, .ref 38, .ref 39, .ref 40]), .inr (2, 8, .inr (qF 8)), zA 8, zA 8, .inl (0, [.ref 1, .ref 42, .ref 43, .ref 44, .int 0, .int 0, .int 0]), zA 5, zA 5, zA 5]
theorem c_X5_init {h : List AC} {i : Nat} (hi : h[i]? = some dRow) : Mt 1 1 5 mX5_init [.ref i] h (fun r h' => r = none ∧ h' = (h ++ [zA 5]).set i (oRow h.length)) := by
  refine Mt.of rfl rfl (Nat.le_of_ble_eq_true rfl) rfl ?_
  have hl : i < h.length := (List.getElem?_eq_some_iff.mp hi).1
  refine V.aldn 0 dX5_init_0 rfl rfl ?_
  refine V.objInit dX5_init_1 o_X5_3 o_inst o_code (Nat.le_refl _) (Nat.le_of_ble_eq_true rfl) ?_
  refine V.aldn 0 dX5_init_4 rfl rfl ?_
  refine V.iconst (nI 5) dX5_init_5 (by decide +kernel) ?_
  refine V.newi (N := 5) (rc := 0) (rs := 0) dX5_init_6 w_ai (by decide +kernel) (by decide +kernel) (by decide) ?_
  refine V.putf dX5_init_8 (fp_X5_9 rfl rfl) (by rw [List.getElem?_append_left hl]; exact hi) (Nat.le_of_ble_eq_true rfl) (fun _ => ⟨rfl, rfl⟩) ?_
  refine V.aldn 0 dX5_init_11 rfl rfl ?_
  refine V.iconst (nI 1) dX5_init_12 (by decide +kernel) ?_
  refine V.putf dX5_init_13 (fp_X5_15 rfl) (List.getElem?_set_self (by simp; omega)) (Nat.le_of_ble_eq_true rfl) (fun _ => ⟨rfl, rfl⟩) ?_
  exact V.vreturn dX5_init_16 rfl ⟨rfl, by rw [List.set_set]; rfl⟩
theorem c_X2_init : Mt 1 10 152 mX2_init [.ref 1] ([hA0 .null .null .null .null] ++ [.inl (2, [.null, .null, .null, .null, .null, .null, .null, .null, .null, .null, .int 0])]) (fun r h' => r = none ∧ h' = hA0 .null .null .null .null :: cFilm) := by
  refine Mt.of rfl rfl (Nat.le_of_ble_eq_true rfl) rfl ?_
  refine V.aldn 0 dX2_init_0 rfl rfl ?_
  refine V.objInit dX2_init_1 o_X2_3 o_inst o_code (Nat.le_of_ble_eq_true rfl) (Nat.le_of_ble_eq_true rfl) ?_
  refine V.aldn 0 dX2_init_4 rfl rfl ?_
  refine V.bipush (nI 20) dX2_init_5 (by decide +kernel) ?_
  refine V.newi (N := 20) dX2_init_7 w_ai (by decide +kernel) (by decide +kernel) (by decide) ?_
  refine V.eqh (h' := [hA0 .null .null .null .null] ++ [.inl (2, [.null, .null, .null, .null, .null, .null, .null, .null, .null, .null, .int 0]), zA 20]) rfl ?_
  refine V.topr (y := 2) rfl ?_
  refine V.putf dX2_init_9 (fp_X2_9 rfl rfl) rfl (Nat.le_of_ble_eq_true rfl) (fun _ => ⟨rfl, rfl⟩) ?_
  refine V.eqh (h' := [hA0 .null .null .null .null] ++ [.inl (2, [.ref 2, .null, .null, .null, .null, .null, .null, .null, .null, .null, .int 0]), zA 20]) rfl ?_
  refine V.aldn 0 dX2_init_12 rfl rfl ?_
  refine V.bipush (nI 20) dX2_init_13 (by decide +kernel) ?_
  refine V.newi (N := 20) dX2_init_15 w_ai (by decide +kernel) (by decide +kernel) (by decide) ?_
  refine V.eqh (h' := [hA0 .null .null .null .null] ++ [.inl (2, [.ref 2, .null, .null, .null, .null, .null, .null, .null, .null, .null, .int 0]), zA 20, zA 20]) rfl ?_
  refine V.topr (y := 3) rfl ?_
  refine V.putf dX2_init_17 (fp_X2_15 rfl rfl) rfl (Nat.le_of_ble_eq_true rfl) (fun _ => ⟨rfl, rfl⟩) ?_
  refine V.eqh (h' := [hA0 .null .null .null .null] ++ [.inl (2, [.ref 2, .ref 3, .null, .null, .null, .null, .null, .null, .null, .null, .int 0]), zA 20, zA 20]) rfl ?_
  refine V.aldn 0 dX2_init_20 rfl rfl ?_
  refine V.bipush (nI 20) dX2_init_21 (by decide +kernel) ?_
  refine V.newi (N := 20) dX2_init_23 w_ai (by decide +kernel) (by decide +kernel) (by decide) ?_
  refine V.eqh (h' := [hA0 .null .null .null .null] ++ [.inl (2, [.ref 2, .ref 3, .null, .null, .null, .null, .null, .null, .null, .null, .int 0]), zA 20, zA 20, zA 20]) rfl ?_
  refine V.topr (y := 4) rfl ?_
  refine V.putf dX2_init_25 (fp_X2_18 rfl rfl) rfl (Nat.le_of_ble_eq_true rfl) (fun _ => ⟨rfl, rfl⟩) ?_
  refine V.eqh (h' := [hA0 .null .null .null .null] ++ [.inl (2, [.ref 2, .ref 3, .ref 4, .null, .null, .null, .null, .null, .null, .null, .int 0]), zA 20, zA 20, zA 20]) rfl ?_
  refine V.aldn 0 dX2_init_28 rfl rfl ?_
  refine V.bipush (nI 20) dX2_init_29 (by decide +kernel) ?_
  refine V.newi (N := 20) dX2_init_31 w_ai (by decide +kernel) (by decide +kernel) (by decide) ?_
  refine V.eqh (h' := [hA0 .null .null .null .null] ++ [.inl (2, [.ref 2, .ref 3, .ref 4, .null, .null, .null, .null, .null, .null, .null, .int 0]), zA 20, zA 20, zA 20, zA 20]) rfl ?_
  refine V.topr (y := 5) rfl ?_
  refine V.putf dX2_init_33 (fp_X2_21 rfl rfl) rfl (Nat.le_of_ble_eq_true rfl) (fun _ => ⟨rfl, rfl⟩) ?_
  refine V.eqh (h' := [hA0 .null .null .null .null] ++ [.inl (2, [.ref 2, .ref 3, .ref 4, .ref 5, .null, .null, .null, .null, .null, .null, .int 0]), zA 20, zA 20, zA 20, zA 20]) rfl ?_
  refine V.aldn 0 dX2_init_36 rfl rfl ?_
  refine V.bipush (nI 20) dX2_init_37 (by decide +kernel) ?_
  refine V.newi (N := 20) dX2_init_39 w_ai (by decide +kernel) (by decide +kernel) (by decide) ?_
  refine V.eqh (h' := [hA0 .null .null .null .null] ++ [.inl (2, [.ref 2, .ref 3, .ref 4, .ref 5, .null, .null, .null, .null, .null, .null, .int 0]), zA 20, zA 20, zA 20, zA 20, zA 20]) rfl ?_
  refine V.topr (y := 6) rfl ?_
  refine V.putf dX2_init_41 (fp_X2_24 rfl rfl) rfl (Nat.le_of_ble_eq_true rfl) (fun _ => ⟨rfl, rfl⟩) ?_
  refine V.eqh (h' := [hA0 .null .null .null .null] ++ [.inl (2, [.ref 2, .ref 3, .ref 4, .ref 5, .ref 6, .null, .null, .null, .null, .null, .int 0]), zA 20, zA 20, zA 20, zA 20, zA 20]) rfl ?_
  refine V.aldn 0 dX2_init_44 rfl rfl ?_
  refine V.bipush (nI 20) dX2_init_45 (by decide +kernel) ?_
  refine V.newi (N := 20) dX2_init_47 w_ai (by decide +kernel) (by decide +kernel) (by decide) ?_
  refine V.eqh (h' := [hA0 .null .null .null .null] ++ [.inl (2, [.ref 2, .ref 3, .ref 4, .ref 5, .ref 6, .null, .null, .null, .null, .null, .int 0]), zA 20, zA 20, zA 20, zA 20, zA 20, zA 20]) rfl ?_
  refine V.topr (y := 7) rfl ?_
  refine V.putf dX2_init_49 (fp_X2_27 rfl rfl) rfl (Nat.le_of_ble_eq_true rfl) (fun _ => ⟨rfl, rfl⟩) ?_
  refine V.eqh (h' := [hA0 .null .null .null .null] ++ [.inl (2, [.ref 2, .ref 3, .ref 4, .ref 5, .ref 6, .ref 7, .null, .null, .null, .null, .int 0]), zA 20, zA 20, zA 20, zA 20, zA 20, zA 20]) rfl ?_
  refine V.aldn 0 dX2_init_52 rfl rfl ?_
  refine V.bipush (nI 8) dX2_init_53 (by decide +kernel) ?_
  refine V.newi (N := 8) dX2_init_55 w_ai (by decide +kernel) (by decide +kernel) (by decide) ?_
  refine V.eqh (h' := [hA0 .null .null .null .null] ++ [.inl (2, [.ref 2, .ref 3, .ref 4, .ref 5, .ref 6, .ref 7, .null, .null, .null, .null, .int 0]), zA 20, zA 20, zA 20, zA 20, zA 20, zA 20, zA 8]) rfl ?_
  refine V.topr (y := 8) rfl ?_
  refine V.putf dX2_init_57 (fp_X2_30 rfl rfl) rfl (Nat.le_of_ble_eq_true rfl) (fun _ => ⟨rfl, rfl⟩) ?_
  refine V.eqh (h' := [hA0 .null .null .null .null] ++ [.inl (2, [.ref 2, .ref 3, .ref 4, .ref 5, .ref 6, .ref 7, .ref 8, .null, .null, .null, .int 0]), zA 20, zA 20, zA 20, zA 20, zA 20, zA 20, zA 8]) rfl ?_
  refine V.aldn 0 dX2_init_60 rfl rfl ?_
  refine V.bipush (nI 8) dX2_init_61 (by decide +kernel) ?_
  refine V.newi (N := 8) dX2_init_63 w_ai (by decide +kernel) (by decide +kernel) (by decide) ?_
  refine V.eqh (h' := [hA0 .null .null .null .null] ++ [.inl (2, [.ref 2, .ref 3, .ref 4, .ref 5, .ref 6, .ref 7, .ref 8, .null, .null, .null, .int 0]), zA 20, zA 20, zA 20, zA 20, zA 20, zA 20, zA 8, zA 8]) rfl ?_
  refine V.topr (y := 9) rfl ?_
  refine V.putf dX2_init_65 (fp_X2_33 rfl rfl) rfl (Nat.le_of_ble_eq_true rfl) (fun _ => ⟨rfl, rfl⟩) ?_
  refine V.eqh (h' := [hA0 .null .null .null .null] ++ [.inl (2, [.ref 2, .ref 3, .ref 4, .ref 5, .ref 6, .ref 7, .ref 8, .ref 9, .null, .null, .int 0]), zA 20, zA 20, zA 20, zA 20, zA 20, zA 20, zA 8, zA 8]) rfl ?_
  refine V.aldn 0 dX2_init_68 rfl rfl ?_
  refine V.bipush (nI 8) dX2_init_69 (by decide +kernel) ?_
  refine V.newi (N := 8) dX2_init_71 w_ai (by decide +kernel) (by decide +kernel) (by decide) ?_
  refine V.eqh (h' := [hA0 .null .null .null .null] ++ [.inl (2, [.ref 2, .ref 3, .ref 4, .ref 5, .ref 6, .ref 7, .ref 8, .ref 9, .null, .null, .int 0]), zA 20, zA 20, zA 20, zA 20, zA 20, zA 20, zA 8, zA 8, zA 8]) rfl ?_
  refine V.topr (y := 10) rfl ?_
  refine V.putf dX2_init_73 (fp_X2_36 rfl rfl) rfl (Nat.le_of_ble_eq_true rfl) (fun _ => ⟨rfl, rfl⟩) ?_
  refine V.eqh (h' := [hA0 .null .null .null .null] ++ [.inl (2, [.ref 2, .ref 3, .ref 4, .ref 5, .ref 6, .ref 7, .ref 8, .ref 9, .ref 10, .null, .int 0]), zA 20, zA 20, zA 20, zA 20, zA 20, zA 20, zA 8, zA 8, zA 8]) rfl ?_
  refine V.aldn 0 dX2_init_76 rfl rfl ?_
  refine V.bipush (nI 8) dX2_init_77 (by decide +kernel) ?_
  refine V.newi (N := 8) dX2_init_79 w_ai (by decide +kernel) (by decide +kernel) (by decide) ?_
  refine V.eqh (h' := [hA0 .null .null .null .null] ++ [.inl (2, [.ref 2, .ref 3, .ref 4, .ref 5, .ref 6, .ref 7, .ref 8, .ref 9, .ref 10, .null, .int 0]), zA 20, zA 20, zA 20, zA 20, zA 20, zA 20, zA 8, zA 8, zA 8, zA 8]) rfl ?_
  refine V.topr (y := 11) rfl ?_
  refine V.putf dX2_init_81 (fp_X2_39 rfl rfl) rfl (Nat.le_of_ble_eq_true rfl) (fun _ => ⟨rfl, rfl⟩) ?_
  refine V.eqh (h' := [hA0 .null .null .null .null] ++ [.inl (2, [.ref 2, .ref 3, .ref 4, .ref 5, .ref 6, .ref 7, .ref 8, .ref 9, .ref 10, .ref 11, .int 0]), zA 20, zA 20, zA 20, zA 20, zA 20, zA 20, zA 8, zA 8, zA 8, zA 8]) rfl ?_
  exact V.vreturn dX2_init_84 rfl ⟨rfl, rfl⟩
abbrev hP1 : List AC := hA0 (.ref 1) .null .null .null :: cFilm
theorem c_X3_init : Mt 2 23 176 mX3_init [.ref 12, .ref 1] (hP1 ++ [.inl (3, [.null, .null, .null, .null, .int 0])]) (fun r h' => r = none ∧ h' = hP1 ++ cPlan) := by
  refine Mt.of rfl rfl (Nat.le_of_ble_eq_true rfl) rfl ?_
  refine V.aldn 0 dX3_init_0 rfl rfl ?_
  refine V.objInit dX3_init_1 o_X3_3 o_inst o_code (Nat.le_of_ble_eq_true rfl) (Nat.le_of_ble_eq_true rfl) ?_
  refine V.aldn 0 dX3_init_4 rfl rfl ?_
  refine V.bipush (nI 10) dX3_init_5 (by decide +kernel) ?_
  refine V.newq (N := 10) dX3_init_7 l_X3_9 (by decide +kernel) (by decide +kernel) (by decide) ?_
  refine V.eqh (h' := hP1 ++ [.inl (3, [.null, .null, .null, .null, .int 0]), .inr (2, 10, .inr (qF 0))]) rfl ?_
  refine V.topr (y := 13) rfl ?_
  refine V.putf dX3_init_10 (fp_X3_11 rfl rfl) rfl (Nat.le_of_ble_eq_true rfl) (fun _ => ⟨rfl, rfl⟩) ?_
  refine V.eqh (h' := hP1 ++ [.inl (3, [.null, .ref 13, .null, .null, .int 0]), .inr (2, 10, .inr (qF 0))]) rfl ?_
  refine V.aldn 0 dX3_init_13 rfl rfl ?_
  refine V.bipush (nI 8) dX3_init_14 (by decide +kernel) ?_
  refine V.newi (N := 8) dX3_init_16 w_ai (by decide +kernel) (by decide +kernel) (by decide) ?_
  refine V.eqh (h' := hP1 ++ [.inl (3, [.null, .ref 13, .null, .null, .int 0]), .inr (2, 10, .inr (qF 0)), zA 8]) rfl ?_
  refine V.topr (y := 14) rfl ?_
  refine V.putf dX3_init_18 (fp_X3_17 rfl rfl) rfl (Nat.le_of_ble_eq_true rfl) (fun _ => ⟨rfl, rfl⟩) ?_
  refine V.eqh (h' := hP1 ++ [.inl (3, [.null, .ref 13, .ref 14, .null, .int 0]), .inr (2, 10, .inr (qF 0)), zA 8]) rfl ?_
  refine V.aldn 0 dX3_init_21 rfl rfl ?_
  refine V.bipush (nI 8) dX3_init_22 (by decide +kernel) ?_
  refine V.newi (N := 8) dX3_init_24 w_ai (by decide +kernel) (by decide +kernel) (by decide) ?_
  refine V.eqh (h' := hP1 ++ [.inl (3, [.null, .ref 13, .ref 14, .null, .int 0]), .inr (2, 10, .inr (qF 0)), zA 8, zA 8]) rfl ?_
  refine V.topr (y := 15) rfl ?_
  refine V.putf dX3_init_26 (fp_X3_21 rfl rfl) rfl (Nat.le_of_ble_eq_true rfl) (fun _ => ⟨rfl, rfl⟩) ?_
  refine V.eqh (h' := hP1 ++ [.inl (3, [.null, .ref 13, .ref 14, .ref 15, .int 0]), .inr (2, 10, .inr (qF 0)), zA 8, zA 8]) rfl ?_
  refine V.aldn 0 dX3_init_29 rfl rfl ?_
  refine V.aldn 1 dX3_init_30 rfl rfl ?_
  refine V.putf dX3_init_31 (fp_X3_24 rfl rfl) rfl (Nat.le_of_ble_eq_true rfl) (fun _ => ⟨rfl, rfl⟩) ?_
  refine V.eqh (h' := hP1 ++ [.inl (3, [.ref 1, .ref 13, .ref 14, .ref 15, .int 0]), .inr (2, 10, .inr (qF 0)), zA 8, zA 8]) rfl ?_
  refine V.iconst (nI 0) dX3_init_34 (by decide +kernel) ?_
  refine V.istn 2 dX3_init_35 rfl (Nat.le_of_ble_eq_true rfl) ?_
  refine V.ildn 2 dX3_init_36 rfl rfl ?_
  refine V.aldn 0 dX3_init_37 rfl rfl ?_
  refine V.getf (v := .ref 13) dX3_init_38 f_X3_11 rfl rfl ?_
  refine V.alen (v := nI 10) dX3_init_41 (by decide) rfl rfl ?_
  refine V.icmp_geN 64 dX3_init_42 (by decide) (by decide) (by decide) (fun q => absurd q (by decide)) (fun _ => ?_)
  refine V.aldn 0 dX3_init_45 rfl rfl ?_
  refine V.getf (v := .ref 13) dX3_init_46 f_X3_11 rfl rfl ?_
  refine V.ildn 2 dX3_init_49 rfl rfl ?_
  refine V.new (M := mX3_init) (N := 10) dX3_init_50 n_X3_9 ?_
  refine V.eqh (h' := hP1 ++ [.inl (3, [.ref 1, .ref 13, .ref 14, .ref 15, .int 0]), .inr (2, 10, .inr (qF 0)), zA 8, zA 8, dRow]) rfl ?_
  refine V.topr (y := 16) rfl ?_
  refine V.dupr dX3_init_53 ?_
  refine V.callI (As := []) (i := 16) (nc := 1) (ns := 5) (d' := 1) dX3_init_54 k_X3_28 rfl rfl (Nat.le_of_ble_eq_true rfl) (by decide) (c_X5_init rfl) ?_
  rintro _ _ ⟨rfl, rfl⟩
  refine V.eqh (h' := hP1 ++ [.inl (3, [.ref 1, .ref 13, .ref 14, .ref 15, .int 0]), .inr (2, 10, .inr (qF 0)), zA 8, zA 8, oRow 17, zA 5]) rfl ?_
  refine V.eqs (st' := [.ref 16, .int (nI 0), .ref 13]) rfl ?_
  refine V.aast dX3_init_57 rfl rfl (ix_nI (by decide) (by decide)) ?_
  refine V.eqh (h' := hP1 ++ [.inl (3, [.ref 1, .ref 13, .ref 14, .ref 15, .int 0]), .inr (2, 10, .inr (qF 1)), zA 8, zA 8, oRow 17, zA 5]) rfl ?_
  refine V.iincN dX3_init_58 rfl ?_
  refine V.eql (ls' := [some (.ref 12), some (.ref 1), some (.int (nI 1))]) rfl ?_
  refine V.goto 36 dX3_init_61 (by decide) ?_
  refine V.ildn 2 dX3_init_36 rfl rfl ?_
  refine V.aldn 0 dX3_init_37 rfl rfl ?_
  refine V.getf (v := .ref 13) dX3_init_38 f_X3_11 rfl rfl ?_
  refine V.alen (v := nI 10) dX3_init_41 (by decide) rfl rfl ?_
  refine V.icmp_geN 64 dX3_init_42 (by decide) (by decide) (by decide) (fun q => absurd q (by decide)) (fun _ => ?_)
  refine V.aldn 0 dX3_init_45 rfl rfl ?_
  refine V.getf (v := .ref 13) dX3_init_46 f_X3_11 rfl rfl ?_
  refine V.ildn 2 dX3_init_49 rfl rfl ?_
  refine V.new (M := mX3_init) (N := 10) dX3_init_50 n_X3_9 ?_
  refine V.eqh (h' := hP1 ++ [.inl (3, [.ref 1, .ref 13, .ref 14, .ref 15, .int 0]), .inr (2, 10, .inr (qF 1)), zA 8, zA 8, oRow 17, zA 5, dRow]) rfl ?_
  refine V.topr (y := 18) rfl ?_
  refine V.dupr dX3_init_53 ?_
  refine V.callI (As := []) (i := 18) (nc := 1) (ns := 5) (d' := 1) dX3_init_54 k_X3_28 rfl rfl (Nat.le_of_ble_eq_true rfl) (by decide) (c_X5_init rfl) ?_
  rintro _ _ ⟨rfl, rfl⟩
  refine V.eqh (h' := hP1 ++ [.inl (3, [.ref 1, .ref 13, .ref 14, .ref 15, .int 0]), .inr (2, 10, .inr (qF 1)), zA 8, zA 8, oRow 17, zA 5, oRow 19, zA 5]) rfl ?_
  refine V.eqs (st' := [.ref 18, .int (nI 1), .ref 13]) rfl ?_
  refine V.aast dX3_init_57 rfl rfl (ix_nI (by decide) (by decide)) ?_
  refine V.eqh (h' := hP1 ++ [.inl (3, [.ref 1, .ref 13, .ref 14, .ref 15, .int 0]), .inr (2, 10, .inr (qF 2)), zA 8, zA 8, oRow 17, zA 5, oRow 19, zA 5]) rfl ?_
  refine V.iincN dX3_init_58 rfl ?_
  refine V.eql (ls' := [some (.ref 12), some (.ref 1), some (.int (nI 2))]) rfl ?_
  refine V.goto 36 dX3_init_61 (by decide) ?_
  refine V.ildn 2 dX3_init_36 rfl rfl ?_
  refine V.aldn 0 dX3_init_37 rfl rfl ?_
  refine V.getf (v := .ref 13) dX3_init_38 f_X3_11 rfl rfl ?_
  refine V.alen (v := nI 10) dX3_init_41 (by decide) rfl rfl ?_
  refine V.icmp_geN 64 dX3_init_42 (by decide) (by decide) (by decide) (fun q => absurd q (by decide)) (fun _ => ?_)
  refine V.aldn 0 dX3_init_45 rfl rfl ?_
  refine V.getf (v := .ref 13) dX3_init_46 f_X3_11 rfl rfl ?_
  refine V.ildn 2 dX3_init_49 rfl rfl ?_
  refine V.new (M := mX3_init) (N := 10) dX3_init_50 n_X3_9 ?_
  refine V.eqh (h' := hP1 ++ [.inl (3, [.ref 1, .ref 13, .ref 14, .ref 15, .int 0]), .inr (2, 10, .inr (qF 2)), zA 8, zA 8, oRow 17, zA 5, oRow 19, zA 5, dRow]) rfl ?_
  refine V.topr (y := 20) rfl ?_
  refine V.dupr dX3_init_53 ?_
  refine V.callI (As := []) (i := 20) (nc := 1) (ns := 5) (d' := 1) dX3_init_54 k_X3_28 rfl rfl (Nat.le_of_ble_eq_true rfl) (by decide) (c_X5_init rfl) ?_
  rintro _ _ ⟨rfl, rfl⟩
  refine V.eqh (h' := hP1 ++ [.inl (3, [.ref 1, .ref 13, .ref 14, .ref 15, .int 0]), .inr (2, 10, .inr (qF 2)), zA 8, zA 8, oRow 17, zA 5, oRow 19, zA 5, oRow 21, zA 5]) rfl ?_
  refine V.eqs (st' := [.ref 20, .int (nI 2), .ref 13]) rfl ?_
  refine V.aast dX3_init_57 rfl rfl (ix_nI (by decide) (by decide)) ?_
  refine V.eqh (h' := hP1 ++ [.inl (3, [.ref 1, .ref 13, .ref 14, .ref 15, .int 0]), .inr (2, 10, .inr (qF 3)), zA 8, zA 8, oRow 17, zA 5, oRow 19, zA 5, oRow 21, zA 5]) rfl ?_
  refine V.iincN dX3_init_58 rfl ?_
  refine V.eql (ls' := [some (.ref 12), some (.ref 1), some (.int (nI 3))]) rfl ?_
  refine V.goto 36 dX3_init_61 (by decide) ?_
  refine V.ildn 2 dX3_init_36 rfl rfl ?_
  refine V.aldn 0 dX3_init_37 rfl rfl ?_
  refine V.getf (v := .ref 13) dX3_init_38 f_X3_11 rfl rfl ?_
  refine V.alen (v := nI 10) dX3_init_41 (by decide) rfl rfl ?_
  refine V.icmp_geN 64 dX3_init_42 (by decide) (by decide) (by decide) (fun q => absurd q (by decide)) (fun _ => ?_)
  refine V.aldn 0 dX3_init_45 rfl rfl ?_
  refine V.getf (v := .ref 13) dX3_init_46 f_X3_11 rfl rfl ?_
  refine V.ildn 2 dX3_init_49 rfl rfl ?_
  refine V.new (M := mX3_init) (N := 10) dX3_init_50 n_X3_9 ?_
  refine V.eqh (h' := hP1 ++ [.inl (3, [.ref 1, .ref 13, .ref 14, .ref 15, .int 0]), .inr (2, 10, .inr (qF 3)), zA 8, zA 8, oRow 17, zA 5, oRow 19, zA 5, oRow 21, zA 5, dRow]) rfl ?_
  refine V.topr (y := 22) rfl ?_
  refine V.dupr dX3_init_53 ?_
  refine V.callI (As := []) (i := 22) (nc := 1) (ns := 5) (d' := 1) dX3_init_54 k_X3_28 rfl rfl (Nat.le_of_ble_eq_true rfl) (by decide) (c_X5_init rfl) ?_
  rintro _ _ ⟨rfl, rfl⟩
  refine V.eqh (h' := hP1 ++ [.inl (3, [.ref 1, .ref 13, .ref 14, .ref 15, .int 0]), .inr (2, 10, .inr (qF 3)), zA 8, zA 8, oRow 17, zA 5, oRow 19, zA 5, oRow 21, zA 5, oRow 23, zA 5]) rfl ?_
  refine V.eqs (st' := [.ref 22, .int (nI 3), .ref 13]) rfl ?_
  refine V.aast dX3_init_57 rfl rfl (ix_nI (by decide) (by decide)) ?_
  refine V.eqh (h' := hP1 ++ [.inl (3, [.ref 1, .ref 13, .ref 14, .ref 15, .int 0]), .inr (2, 10, .inr (qF 4)), zA 8, zA 8, oRow 17, zA 5, oRow 19, zA 5, oRow 21, zA 5, oRow 23, zA 5]) rfl ?_
  refine V.iincN dX3_init_58 rfl ?_
  refine V.eql (ls' := [some (.ref 12), some (.ref 1), some (.int (nI 4))]) rfl ?_
  refine V.goto 36 dX3_init_61 (by decide) ?_
  refine V.ildn 2 dX3_init_36 rfl rfl ?_
  refine V.aldn 0 dX3_init_37 rfl rfl ?_
  refine V.getf (v := .ref 13) dX3_init_38 f_X3_11 rfl rfl ?_
  refine V.alen (v := nI 10) dX3_init_41 (by decide) rfl rfl ?_
  refine V.icmp_geN 64 dX3_init_42 (by decide) (by decide) (by decide) (fun q => absurd q (by decide)) (fun _ => ?_)
  refine V.aldn 0 dX3_init_45 rfl rfl ?_
  refine V.getf (v := .ref 13) dX3_init_46 f_X3_11 rfl rfl ?_
  refine V.ildn 2 dX3_init_49 rfl rfl ?_
  refine V.new (M := mX3_init) (N := 10) dX3_init_50 n_X3_9 ?_
  refine V.eqh (h' := hP1 ++ [.inl (3, [.ref 1, .ref 13, .ref 14, .ref 15, .int 0]), .inr (2, 10, .inr (qF 4)), zA 8, zA 8, oRow 17, zA 5, oRow 19, zA 5, oRow 21, zA 5, oRow 23, zA 5, dRow]) rfl ?_
  refine V.topr (y := 24) rfl ?_
  refine V.dupr dX3_init_53 ?_
  refine V.callI (As := []) (i := 24) (nc := 1) (ns := 5) (d' := 1) dX3_init_54 k_X3_28 rfl rfl (Nat.le_of_ble_eq_true rfl) (by decide) (c_X5_init rfl) ?_
  rintro _ _ ⟨rfl, rfl⟩
  refine V.eqh (h' := hP1 ++ [.inl (3, [.ref 1, .ref 13, .ref 14, .ref 15, .int 0]), .inr (2, 10, .inr (qF 4)), zA 8, zA 8, oRow 17, zA 5, oRow 19, zA 5, oRow 21, zA 5, oRow 23, zA 5, oRow 25, zA 5]) rfl ?_
  refine V.eqs (st' := [.ref 24, .int (nI 4), .ref 13]) rfl ?_
  refine V.aast dX3_init_57 rfl rfl (ix_nI (by decide) (by decide)) ?_
  refine V.eqh (h' := hP1 ++ [.inl (3, [.ref 1, .ref 13, .ref 14, .ref 15, .int 0]), .inr (2, 10, .inr (qF 5)), zA 8, zA 8, oRow 17, zA 5, oRow 19, zA 5, oRow 21, zA 5, oRow 23, zA 5, oRow 25, zA 5]) rfl ?_
  refine V.iincN dX3_init_58 rfl ?_
  refine V.eql (ls' := [some (.ref 12), some (.ref 1), some (.int (nI 5))]) rfl ?_
  refine V.goto 36 dX3_init_61 (by decide) ?_
  refine V.ildn 2 dX3_init_36 rfl rfl ?_
  refine V.aldn 0 dX3_init_37 rfl rfl ?_
  refine V.getf (v := .ref 13) dX3_init_38 f_X3_11 rfl rfl ?_
  refine V.alen (v := nI 10) dX3_init_41 (by decide) rfl rfl ?_
  refine V.icmp_geN 64 dX3_init_42 (by decide) (by decide) (by decide) (fun q => absurd q (by decide)) (fun _ => ?_)
  refine V.aldn 0 dX3_init_45 rfl rfl ?_
  refine V.getf (v := .ref 13) dX3_init_46 f_X3_11 rfl rfl ?_
  refine V.ildn 2 dX3_init_49 rfl rfl ?_
  refine V.new (M := mX3_init) (N := 10) dX3_init_50 n_X3_9 ?_
  refine V.eqh (h' := hP1 ++ [.inl (3, [.ref 1, .ref 13, .ref 14, .ref 15, .int 0]), .inr (2, 10, .inr (qF 5)), zA 8, zA 8, oRow 17, zA 5, oRow 19, zA 5, oRow 21, zA 5, oRow 23, zA 5, oRow 25, zA 5, dRow]) rfl ?_
  refine V.topr (y := 26) rfl ?_
  refine V.dupr dX3_init_53 ?_
  refine V.callI (As := []) (i := 26) (nc := 1) (ns := 5) (d' := 1) dX3_init_54 k_X3_28 rfl rfl (Nat.le_of_ble_eq_true rfl) (by decide) (c_X5_init rfl) ?_
  rintro _ _ ⟨rfl, rfl⟩
  refine V.eqh (h' := hP1 ++ [.inl (3, [.ref 1, .ref 13, .ref 14, .ref 15, .int 0]), .inr (2, 10, .inr (qF 5)), zA 8, zA 8, oRow 17, zA 5, oRow 19, zA 5, oRow 21, zA 5, oRow 23, zA 5, oRow 25, zA 5, oRow 27, zA 5]) rfl ?_
  refine V.eqs (st' := [.ref 26, .int (nI 5), .ref 13]) rfl ?_
  refine V.aast dX3_init_57 rfl rfl (ix_nI (by decide) (by decide)) ?_
  refine V.eqh (h' := hP1 ++ [.inl (3, [.ref 1, .ref 13, .ref 14, .ref 15, .int 0]), .inr (2, 10, .inr (qF 6)), zA 8, zA 8, oRow 17, zA 5, oRow 19, zA 5, oRow 21, zA 5, oRow 23, zA 5, oRow 25, zA 5, oRow 27, zA 5]) rfl ?_
  refine V.iincN dX3_init_58 rfl ?_
  refine V.eql (ls' := [some (.ref 12), some (.ref 1), some (.int (nI 6))]) rfl ?_
  refine V.goto 36 dX3_init_61 (by decide) ?_
  refine V.ildn 2 dX3_init_36 rfl rfl ?_
  refine V.aldn 0 dX3_init_37 rfl rfl ?_
  refine V.getf (v := .ref 13) dX3_init_38 f_X3_11 rfl rfl ?_
  refine V.alen (v := nI 10) dX3_init_41 (by decide) rfl rfl ?_
  refine V.icmp_geN 64 dX3_init_42 (by decide) (by decide) (by decide) (fun q => absurd q (by decide)) (fun _ => ?_)
  refine V.aldn 0 dX3_init_45 rfl rfl ?_
  refine V.getf (v := .ref 13) dX3_init_46 f_X3_11 rfl rfl ?_
  refine V.ildn 2 dX3_init_49 rfl rfl ?_
  refine V.new (M := mX3_init) (N := 10) dX3_init_50 n_X3_9 ?_
  refine V.eqh (h' := hP1 ++ [.inl (3, [.ref 1, .ref 13, .ref 14, .ref 15, .int 0]), .inr (2, 10, .inr (qF 6)), zA 8, zA 8, oRow 17, zA 5, oRow 19, zA 5, oRow 21, zA 5, oRow 23, zA 5, oRow 25, zA 5, oRow 27, zA 5, dRow]) rfl ?_
  refine V.topr (y := 28) rfl ?_
  refine V.dupr dX3_init_53 ?_
  refine V.callI (As := []) (i := 28) (nc := 1) (ns := 5) (d' := 1) dX3_init_54 k_X3_28 rfl rfl (Nat.le_of_ble_eq_true rfl) (by decide) (c_X5_init rfl) ?_
  rintro _ _ ⟨rfl, rfl⟩
  refine V.eqh (h' := hP1 ++ [.inl (3, [.ref 1, .ref 13, .ref 14, .ref 15, .int 0]), .inr (2, 10, .inr (qF 6)), zA 8, zA 8, oRow 17, zA 5, oRow 19, zA 5, oRow 21, zA 5, oRow 23, zA 5, oRow 25, zA 5, oRow 27, zA 5, oRow 29, zA 5]) rfl ?_
  refine V.eqs (st' := [.ref 28, .int (nI 6), .ref 13]) rfl ?_
  refine V.aast dX3_init_57 rfl rfl (ix_nI (by decide) (by decide)) ?_
  refine V.eqh (h' := hP1 ++ [.inl (3, [.ref 1, .ref 13, .ref 14, .ref 15, .int 0]), .inr (2, 10, .inr (qF 7)), zA 8, zA 8, oRow 17, zA 5, oRow 19, zA 5, oRow 21, zA 5, oRow 23, zA 5, oRow 25, zA 5, oRow 27, zA 5, oRow 29, zA 5]) rfl ?_
  refine V.iincN dX3_init_58 rfl ?_
  refine V.eql (ls' := [some (.ref 12), some (.ref 1), some (.int (nI 7))]) rfl ?_
  refine V.goto 36 dX3_init_61 (by decide) ?_
  refine V.ildn 2 dX3_init_36 rfl rfl ?_
  refine V.aldn 0 dX3_init_37 rfl rfl ?_
  refine V.getf (v := .ref 13) dX3_init_38 f_X3_11 rfl rfl ?_
  refine V.alen (v := nI 10) dX3_init_41 (by decide) rfl rfl ?_
  refine V.icmp_geN 64 dX3_init_42 (by decide) (by decide) (by decide) (fun q => absurd q (by decide)) (fun _ => ?_)
  refine V.aldn 0 dX3_init_45 rfl rfl ?_
  refine V.getf (v := .ref 13) dX3_init_46 f_X3_11 rfl rfl ?_
  refine V.ildn 2 dX3_init_49 rfl rfl ?_
  refine V.new (M := mX3_init) (N := 10) dX3_init_50 n_X3_9 ?_
  refine V.eqh (h' := hP1 ++ [.inl (3, [.ref 1, .ref 13, .ref 14, .ref 15, .int 0]), .inr (2, 10, .inr (qF 7)), zA 8, zA 8, oRow 17, zA 5, oRow 19, zA 5, oRow 21, zA 5, oRow 23, zA 5, oRow 25, zA 5, oRow 27, zA 5, oRow 29, zA 5, dRow]) rfl ?_
  refine V.topr (y := 30) rfl ?_
  refine V.dupr dX3_init_53 ?_
  refine V.callI (As := []) (i := 30) (nc := 1) (ns := 5) (d' := 1) dX3_init_54 k_X3_28 rfl rfl (Nat.le_of_ble_eq_true rfl) (by decide) (c_X5_init rfl) ?_
  rintro _ _ ⟨rfl, rfl⟩
  refine V.eqh (h' := hP1 ++ [.inl (3, [.ref 1, .ref 13, .ref 14, .ref 15, .int 0]), .inr (2, 10, .inr (qF 7)), zA 8, zA 8, oRow 17, zA 5, oRow 19, zA 5, oRow 21, zA 5, oRow 23, zA 5, oRow 25, zA 5, oRow 27, zA 5, oRow 29, zA 5, oRow 31, zA 5]) rfl ?_
  refine V.eqs (st' := [.ref 30, .int (nI 7), .ref 13]) rfl ?_
  refine V.aast dX3_init_57 rfl rfl (ix_nI (by decide) (by decide)) ?_
  refine V.eqh (h' := hP1 ++ [.inl (3, [.ref 1, .ref 13, .ref 14, .ref 15, .int 0]), .inr (2, 10, .inr (qF 8)), zA 8, zA 8, oRow 17, zA 5, oRow 19, zA 5, oRow 21, zA 5, oRow 23, zA 5, oRow 25, zA 5, oRow 27, zA 5, oRow 29, zA 5, oRow 31, zA 5]) rfl ?_
  refine V.iincN dX3_init_58 rfl ?_
  refine V.eql (ls' := [some (.ref 12), some (.ref 1), some (.int (nI 8))]) rfl ?_
  refine V.goto 36 dX3_init_61 (by decide) ?_
  refine V.ildn 2 dX3_init_36 rfl rfl ?_
  refine V.aldn 0 dX3_init_37 rfl rfl ?_
  refine V.getf (v := .ref 13) dX3_init_38 f_X3_11 rfl rfl ?_
  refine V.alen (v := nI 10) dX3_init_41 (by decide) rfl rfl ?_
  refine V.icmp_geN 64 dX3_init_42 (by decide) (by decide) (by decide) (fun q => absurd q (by decide)) (fun _ => ?_)
  refine V.aldn 0 dX3_init_45 rfl rfl ?_
  refine V.getf (v := .ref 13) dX3_init_46 f_X3_11 rfl rfl ?_
  refine V.ildn 2 dX3_init_49 rfl rfl ?_
  refine V.new (M := mX3_init) (N := 10) dX3_init_50 n_X3_9 ?_
  refine V.eqh (h' := hP1 ++ [.inl (3, [.ref 1, .ref 13, .ref 14, .ref 15, .int 0]), .inr (2, 10, .inr (qF 8)), zA 8, zA 8, oRow 17, zA 5, oRow 19, zA 5, oRow 21, zA 5, oRow 23, zA 5, oRow 25, zA 5, oRow 27, zA 5, oRow 29, zA 5, oRow 31, zA 5, dRow]) rfl ?_
  refine V.topr (y := 32) rfl ?_
  refine V.dupr dX3_init_53 ?_
  refine V.callI (As := []) (i := 32) (nc := 1) (ns := 5) (d' := 1) dX3_init_54 k_X3_28 rfl rfl (Nat.le_of_ble_eq_true rfl) (by decide) (c_X5_init rfl) ?_
  rintro _ _ ⟨rfl, rfl⟩
  refine V.eqh (h' := hP1 ++ [.inl (3, [.ref 1, .ref 13, .ref 14, .ref 15, .int 0]), .inr (2, 10, .inr (qF 8)), zA 8, zA 8, oRow 17, zA 5, oRow 19, zA 5, oRow 21, zA 5, oRow 23, zA 5, oRow 25, zA 5, oRow 27, zA 5, oRow 29, zA 5, oRow 31, zA 5, oRow 33, zA 5]) rfl ?_
  refine V.eqs (st' := [.ref 32, .int (nI 8), .ref 13]) rfl ?_
  refine V.aast dX3_init_57 rfl rfl (ix_nI (by decide) (by decide)) ?_
  refine V.eqh (h' := hP1 ++ [.inl (3, [.ref 1, .ref 13, .ref 14, .ref 15, .int 0]), .inr (2, 10, .inr (qF 9)), zA 8, zA 8, oRow 17, zA 5, oRow 19, zA 5, oRow 21, zA 5, oRow 23, zA 5, oRow 25, zA 5, oRow 27, zA 5, oRow 29, zA 5, oRow 31, zA 5, oRow 33, zA 5]) rfl ?_
  refine V.iincN dX3_init_58 rfl ?_
  refine V.eql (ls' := [some (.ref 12), some (.ref 1), some (.int (nI 9))]) rfl ?_
  refine V.goto 36 dX3_init_61 (by decide) ?_
  refine V.ildn 2 dX3_init_36 rfl rfl ?_
  refine V.aldn 0 dX3_init_37 rfl rfl ?_
  refine V.getf (v := .ref 13) dX3_init_38 f_X3_11 rfl rfl ?_
  refine V.alen (v := nI 10) dX3_init_41 (by decide) rfl rfl ?_
  refine V.icmp_geN 64 dX3_init_42 (by decide) (by decide) (by decide) (fun q => absurd q (by decide)) (fun _ => ?_)
  refine V.aldn 0 dX3_init_45 rfl rfl ?_
  refine V.getf (v := .ref 13) dX3_init_46 f_X3_11 rfl rfl ?_
  refine V.ildn 2 dX3_init_49 rfl rfl ?_
  refine V.new (M := mX3_init) (N := 10) dX3_init_50 n_X3_9 ?_
  refine V.eqh (h' := hP1 ++ [.inl (3, [.ref 1, .ref 13, .ref 14, .ref 15, .int 0]), .inr (2, 10, .inr (qF 9)), zA 8, zA 8, oRow 17, zA 5, oRow 19, zA 5, oRow 21, zA 5, oRow 23, zA 5, oRow 25, zA 5, oRow 27, zA 5, oRow 29, zA 5, oRow 31, zA 5, oRow 33, zA 5, dRow]) rfl ?_
  refine V.topr (y := 34) rfl ?_
  refine V.dupr dX3_init_53 ?_
  refine V.callI (As := []) (i := 34) (nc := 1) (ns := 5) (d' := 1) dX3_init_54 k_X3_28 rfl rfl (Nat.le_of_ble_eq_true rfl) (by decide) (c_X5_init rfl) ?_
  rintro _ _ ⟨rfl, rfl⟩
  refine V.eqh (h' := hP1 ++ [.inl (3, [.ref 1, .ref 13, .ref 14, .ref 15, .int 0]), .inr (2, 10, .inr (qF 9)), zA 8, zA 8, oRow 17, zA 5, oRow 19, zA 5, oRow 21, zA 5, oRow 23, zA 5, oRow 25, zA 5, oRow 27, zA 5, oRow 29, zA 5, oRow 31, zA 5, oRow 33, zA 5, oRow 35, zA 5]) rfl ?_
  refine V.eqs (st' := [.ref 34, .int (nI 9), .ref 13]) rfl ?_
  refine V.aast dX3_init_57 rfl rfl (ix_nI (by decide) (by decide)) ?_
  refine V.eqh (h' := hP1 ++ [.inl (3, [.ref 1, .ref 13, .ref 14, .ref 15, .int 0]), .inr (2, 10, .inr (qF 10)), zA 8, zA 8, oRow 17, zA 5, oRow 19, zA 5, oRow 21, zA 5, oRow 23, zA 5, oRow 25, zA 5, oRow 27, zA 5, oRow 29, zA 5, oRow 31, zA 5, oRow 33, zA 5, oRow 35, zA 5]) rfl ?_
  refine V.iincN dX3_init_58 rfl ?_
  refine V.eql (ls' := [some (.ref 12), some (.ref 1), some (.int (nI 10))]) rfl ?_
  refine V.goto 36 dX3_init_61 (by decide) ?_
  refine V.ildn 2 dX3_init_36 rfl rfl ?_
  refine V.aldn 0 dX3_init_37 rfl rfl ?_
  refine V.getf (v := .ref 13) dX3_init_38 f_X3_11 rfl rfl ?_
  refine V.alen (v := nI 10) dX3_init_41 (by decide) rfl rfl ?_
  refine V.icmp_geN 64 dX3_init_42 (by decide) (by decide) (by decide) (fun _ => ?_) (fun q => absurd q (by decide))
  exact V.vreturn dX3_init_64 rfl ⟨rfl, rfl⟩
abbrev hP2 : List AC := hA0 (.ref 1) (.ref 12) .null .null :: (cFilm ++ cPlan)
theorem c_X1_init : Mt 1 0 0 mX1_init [.ref 36, .ref 1, .ref 12] (hP2 ++ [.inl (1, [.null, .null])]) (fun r h' => r = none ∧ h' = hP2 ++ [cBill]) := by
  refine Mt.of rfl rfl (Nat.le_of_ble_eq_true rfl) rfl ?_
  refine V.aldn 0 dX1_init_0 rfl rfl ?_
  refine V.objInit dX1_init_1 o_X1_3 o_inst o_code (Nat.le_of_ble_eq_true rfl) (Nat.le_of_ble_eq_true rfl) ?_
  refine V.aldn 0 dX1_init_4 rfl rfl ?_
  refine V.aldn 1 dX1_init_5 rfl rfl ?_
  refine V.putf dX1_init_6 (fp_X1_9 rfl rfl) rfl (Nat.le_of_ble_eq_true rfl) (fun _ => ⟨rfl, rfl⟩) ?_
  refine V.eqh (h' := hP2 ++ [.inl (1, [.ref 1, .null])]) rfl ?_
  refine V.aldn 0 dX1_init_9 rfl rfl ?_
  refine V.aldn 2 dX1_init_10 rfl rfl ?_
  refine V.putf dX1_init_11 (fp_X1_15 rfl rfl) rfl (Nat.le_of_ble_eq_true rfl) (fun _ => ⟨rfl, rfl⟩) ?_
  refine V.eqh (h' := hP2 ++ [.inl (1, [.ref 1, .ref 12])]) rfl ?_
  exact V.vreturn dX1_init_14 rfl ⟨rfl, rfl⟩
abbrev hP3 : List AC := hA0 (.ref 1) (.ref 12) (.ref 36) .null :: (cFilm ++ (cPlan ++ [cBill]))
abbrev hP4 : List AC := hP3 ++ [.inl (4, [.ref 1, .ref 12, .ref 36, .null, .ref 38, .ref 39, .ref 40]), .inr (2, 8, .inr (qF 0)), zA 8, zA 8]
theorem c_X0_init : Mt 1 3 15 mX0_init [.ref 41, .ref 1] (hP4 ++ [.inl (0, [.null, .null, .null, .null, .int 0, .int 0, .int 0])]) (fun r h' => r = none ∧ h' = hP4 ++ [.inl (0, [.ref 1, .ref 42, .ref 43, .ref 44, .int 0, .int 0, .int 0]), zA 5, zA 5, zA 5]) := by
  refine Mt.of rfl rfl (Nat.le_of_ble_eq_true rfl) rfl ?_
  refine V.aldn 0 dX0_init_0 rfl rfl ?_
  refine V.objInit dX0_init_1 o_X0_3 o_inst o_code (Nat.le_of_ble_eq_true rfl) (Nat.le_of_ble_eq_true rfl) ?_
  refine V.aldn 0 dX0_init_4 rfl rfl ?_
  refine V.iconst (nI 5) dX0_init_5 (by decide +kernel) ?_
  refine V.newi (N := 5) dX0_init_6 w_ai (by decide +kernel) (by decide +kernel) (by decide) ?_
  refine V.eqh (h' := hP4 ++ [.inl (0, [.null, .null, .null, .null, .int 0, .int 0, .int 0]), zA 5]) rfl ?_
  refine V.topr (y := 42) rfl ?_
  refine V.putf dX0_init_8 (fp_X0_9 rfl rfl) rfl (Nat.le_of_ble_eq_true rfl) (fun _ => ⟨rfl, rfl⟩) ?_
  refine V.eqh (h' := hP4 ++ [.inl (0, [.null, .ref 42, .null, .null, .int 0, .int 0, .int 0]), zA 5]) rfl ?_
  refine V.aldn 0 dX0_init_11 rfl rfl ?_
  refine V.iconst (nI 5) dX0_init_12 (by decide +kernel) ?_
  refine V.newi (N := 5) dX0_init_13 w_ai (by decide +kernel) (by decide +kernel) (by decide) ?_
  refine V.eqh (h' := hP4 ++ [.inl (0, [.null, .ref 42, .null, .null, .int 0, .int 0, .int 0]), zA 5, zA 5]) rfl ?_
  refine V.topr (y := 43) rfl ?_
  refine V.putf dX0_init_15 (fp_X0_15 rfl rfl) rfl (Nat.le_of_ble_eq_true rfl) (fun _ => ⟨rfl, rfl⟩) ?_
  refine V.eqh (h' := hP4 ++ [.inl (0, [.null, .ref 42, .ref 43, .null, .int 0, .int 0, .int 0]), zA 5, zA 5]) rfl ?_
  refine V.aldn 0 dX0_init_18 rfl rfl ?_
  refine V.iconst (nI 5) dX0_init_19 (by decide +kernel) ?_
  refine V.newi (N := 5) dX0_init_20 w_ai (by decide +kernel) (by decide +kernel) (by decide) ?_
  refine V.eqh (h' := hP4 ++ [.inl (0, [.null, .ref 42, .ref 43, .null, .int 0, .int 0, .int 0]), zA 5, zA 5, zA 5]) rfl ?_
  refine V.topr (y := 44) rfl ?_
  refine V.putf dX0_init_22 (fp_X0_18 rfl rfl) rfl (Nat.le_of_ble_eq_true rfl) (fun _ => ⟨rfl, rfl⟩) ?_
  refine V.eqh (h' := hP4 ++ [.inl (0, [.null, .ref 42, .ref 43, .ref 44, .int 0, .int 0, .int 0]), zA 5, zA 5, zA 5]) rfl ?_
  refine V.aldn 0 dX0_init_25 rfl rfl ?_
  refine V.aldn 1 dX0_init_26 rfl rfl ?_
  refine V.putf dX0_init_27 (fp_X0_21 rfl rfl) rfl (Nat.le_of_ble_eq_true rfl) (fun _ => ⟨rfl, rfl⟩) ?_
  refine V.eqh (h' := hP4 ++ [.inl (0, [.ref 1, .ref 42, .ref 43, .ref 44, .int 0, .int 0, .int 0]), zA 5, zA 5, zA 5]) rfl ?_
  exact V.vreturn dX0_init_30 rfl ⟨rfl, rfl⟩
theorem c_X4_init : Mt 2 7 46 mX4_init [.ref 37, .ref 1, .ref 12, .ref 36] (hP3 ++ [.inl (4, [.null, .null, .null, .null, .null, .null, .null])]) (fun r h' => r = none ∧ h' = hP3 ++ cPlanner) := by
  refine Mt.of rfl rfl (Nat.le_of_ble_eq_true rfl) rfl ?_
  refine V.aldn 0 dX4_init_0 rfl rfl ?_
  refine V.objInit dX4_init_1 o_X4_3 o_inst o_code (Nat.le_of_ble_eq_true rfl) (Nat.le_of_ble_eq_true rfl) ?_
  refine V.aldn 0 dX4_init_4 rfl rfl ?_
  refine V.bipush (nI 8) dX4_init_5 (by decide +kernel) ?_
  refine V.newq (N := 8) dX4_init_7 l_X4_9 (by decide +kernel) (by decide +kernel) (by decide) ?_
  refine V.eqh (h' := hP3 ++ [.inl (4, [.null, .null, .null, .null, .null, .null, .null]), .inr (2, 8, .inr (qF 0))]) rfl ?_
  refine V.topr (y := 38) rfl ?_
  refine V.putf dX4_init_10 (fp_X4_11 rfl rfl) rfl (Nat.le_of_ble_eq_true rfl) (fun _ => ⟨rfl, rfl⟩) ?_
  refine V.eqh (h' := hP3 ++ [.inl (4, [.null, .null, .null, .null, .ref 38, .null, .null]), .inr (2, 8, .inr (qF 0))]) rfl ?_
  refine V.aldn 0 dX4_init_13 rfl rfl ?_
  refine V.bipush (nI 8) dX4_init_14 (by decide +kernel) ?_
  refine V.newi (N := 8) dX4_init_16 w_ai (by decide +kernel) (by decide +kernel) (by decide) ?_
  refine V.eqh (h' := hP3 ++ [.inl (4, [.null, .null, .null, .null, .ref 38, .null, .null]), .inr (2, 8, .inr (qF 0)), zA 8]) rfl ?_
  refine V.topr (y := 39) rfl ?_
  refine V.putf dX4_init_18 (fp_X4_17 rfl rfl) rfl (Nat.le_of_ble_eq_true rfl) (fun _ => ⟨rfl, rfl⟩) ?_
  refine V.eqh (h' := hP3 ++ [.inl (4, [.null, .null, .null, .null, .ref 38, .ref 39, .null]), .inr (2, 8, .inr (qF 0)), zA 8]) rfl ?_
  refine V.aldn 0 dX4_init_21 rfl rfl ?_
  refine V.bipush (nI 8) dX4_init_22 (by decide +kernel) ?_
  refine V.newi (N := 8) dX4_init_24 w_ai (by decide +kernel) (by decide +kernel) (by decide) ?_
  refine V.eqh (h' := hP3 ++ [.inl (4, [.null, .null, .null, .null, .ref 38, .ref 39, .null]), .inr (2, 8, .inr (qF 0)), zA 8, zA 8]) rfl ?_
  refine V.topr (y := 40) rfl ?_
  refine V.putf dX4_init_26 (fp_X4_21 rfl rfl) rfl (Nat.le_of_ble_eq_true rfl) (fun _ => ⟨rfl, rfl⟩) ?_
  refine V.eqh (h' := hP3 ++ [.inl (4, [.null, .null, .null, .null, .ref 38, .ref 39, .ref 40]), .inr (2, 8, .inr (qF 0)), zA 8, zA 8]) rfl ?_
  refine V.aldn 0 dX4_init_29 rfl rfl ?_
  refine V.aldn 1 dX4_init_30 rfl rfl ?_
  refine V.putf dX4_init_31 (fp_X4_24 rfl rfl) rfl (Nat.le_of_ble_eq_true rfl) (fun _ => ⟨rfl, rfl⟩) ?_
  refine V.eqh (h' := hP3 ++ [.inl (4, [.ref 1, .null, .null, .null, .ref 38, .ref 39, .ref 40]), .inr (2, 8, .inr (qF 0)), zA 8, zA 8]) rfl ?_
  refine V.aldn 0 dX4_init_34 rfl rfl ?_
  refine V.aldn 2 dX4_init_35 rfl rfl ?_
  refine V.putf dX4_init_36 (fp_X4_28 rfl rfl) rfl (Nat.le_of_ble_eq_true rfl) (fun _ => ⟨rfl, rfl⟩) ?_
  refine V.eqh (h' := hP3 ++ [.inl (4, [.ref 1, .ref 12, .null, .null, .ref 38, .ref 39, .ref 40]), .inr (2, 8, .inr (qF 0)), zA 8, zA 8]) rfl ?_
  refine V.aldn 0 dX4_init_39 rfl rfl ?_
  refine V.aldn 3 dX4_init_40 rfl rfl ?_
  refine V.putf dX4_init_41 (fp_X4_32 rfl rfl) rfl (Nat.le_of_ble_eq_true rfl) (fun _ => ⟨rfl, rfl⟩) ?_
  refine V.eqh (h' := hP3 ++ [.inl (4, [.ref 1, .ref 12, .ref 36, .null, .ref 38, .ref 39, .ref 40]), .inr (2, 8, .inr (qF 0)), zA 8, zA 8]) rfl ?_
  refine V.aldn 0 dX4_init_44 rfl rfl ?_
  refine V.new (M := mX4_init) (N := 7) dX4_init_45 n_X4_36 ?_
  refine V.eqh (h' := hP3 ++ [.inl (4, [.ref 1, .ref 12, .ref 36, .null, .ref 38, .ref 39, .ref 40]), .inr (2, 8, .inr (qF 0)), zA 8, zA 8, .inl (0, [.null, .null, .null, .null, .int 0, .int 0, .int 0])]) rfl ?_
  refine V.topr (y := 41) rfl ?_
  refine V.dupr dX4_init_48 ?_
  refine V.aldn 1 dX4_init_49 rfl rfl ?_
  refine V.callI (As := [.ref 1]) (i := 41) (nc := 3) (ns := 15) (d' := 1) dX4_init_50 k_X4_38 rfl rfl (Nat.le_of_ble_eq_true rfl) (by decide) c_X0_init ?_
  rintro _ _ ⟨rfl, rfl⟩
  refine V.eqh (h' := hP3 ++ [.inl (4, [.ref 1, .ref 12, .ref 36, .null, .ref 38, .ref 39, .ref 40]), .inr (2, 8, .inr (qF 0)), zA 8, zA 8, .inl (0, [.ref 1, .ref 42, .ref 43, .ref 44, .int 0, .int 0, .int 0]), zA 5, zA 5, zA 5]) rfl ?_
  refine V.eqs (st' := [.ref 41, .ref 37]) rfl ?_
  refine V.putf dX4_init_53 (fp_X4_41 rfl rfl) rfl (Nat.le_of_ble_eq_true rfl) (fun _ => ⟨rfl, rfl⟩) ?_
  refine V.eqh (h' := hP3 ++ [.inl (4, [.ref 1, .ref 12, .ref 36, .ref 41, .ref 38, .ref 39, .ref 40]), .inr (2, 8, .inr (qF 0)), zA 8, zA 8, .inl (0, [.ref 1, .ref 42, .ref 43, .ref 44, .int 0, .int 0, .int 0]), zA 5, zA 5, zA 5]) rfl ?_
  refine V.iconst (nI 0) dX4_init_56 (by decide +kernel) ?_
  refine V.istore dX4_init_57 (Nat.le_of_ble_eq_true rfl) ?_
  refine V.iload dX4_init_59 rfl ?_
  refine V.bipush (nI 8) dX4_init_61 (by decide +kernel) ?_
  refine V.icmp_geN 86 dX4_init_63 (by decide) (by decide) (by decide) (fun q => absurd q (by decide)) (fun _ => ?_)
  refine V.aldn 0 dX4_init_66 rfl rfl ?_
  refine V.getf (v := .ref 38) dX4_init_67 f_X4_11 rfl rfl ?_
  refine V.iload dX4_init_70 rfl ?_
  refine V.aldn 2 dX4_init_72 rfl rfl ?_
  refine V.getf (v := .ref 13) dX4_init_73 f_X4_45 rfl rfl ?_
  refine V.iload dX4_init_76 rfl ?_
  refine V.aald (r := 16) dX4_init_78 rfl (ix_nI (by decide) (by decide)) rfl ?_
  refine V.aast dX4_init_79 rfl rfl (ix_nI (by decide) (by decide)) ?_
  refine V.eqh (h' := hP3 ++ [.inl (4, [.ref 1, .ref 12, .ref 36, .ref 41, .ref 38, .ref 39, .ref 40]), .inr (2, 8, .inr (qF 1)), zA 8, zA 8, .inl (0, [.ref 1, .ref 42, .ref 43, .ref 44, .int 0, .int 0, .int 0]), zA 5, zA 5, zA 5]) rfl ?_
  refine V.iincN dX4_init_80 rfl ?_
  refine V.eql (ls' := [some (.ref 37), some (.ref 1), some (.ref 12), some (.ref 36), some (.int (nI 1))]) rfl ?_
  refine V.goto 59 dX4_init_83 (by decide) ?_
  refine V.iload dX4_init_59 rfl ?_
  refine V.bipush (nI 8) dX4_init_61 (by decide +kernel) ?_
  refine V.icmp_geN 86 dX4_init_63 (by decide) (by decide) (by decide) (fun q => absurd q (by decide)) (fun _ => ?_)
  refine V.aldn 0 dX4_init_66 rfl rfl ?_
  refine V.getf (v := .ref 38) dX4_init_67 f_X4_11 rfl rfl ?_
  refine V.iload dX4_init_70 rfl ?_
  refine V.aldn 2 dX4_init_72 rfl rfl ?_
  refine V.getf (v := .ref 13) dX4_init_73 f_X4_45 rfl rfl ?_
  refine V.iload dX4_init_76 rfl ?_
  refine V.aald (r := 18) dX4_init_78 rfl (ix_nI (by decide) (by decide)) rfl ?_
  refine V.aast dX4_init_79 rfl rfl (ix_nI (by decide) (by decide)) ?_
  refine V.eqh (h' := hP3 ++ [.inl (4, [.ref 1, .ref 12, .ref 36, .ref 41, .ref 38, .ref 39, .ref 40]), .inr (2, 8, .inr (qF 2)), zA 8, zA 8, .inl (0, [.ref 1, .ref 42, .ref 43, .ref 44, .int 0, .int 0, .int 0]), zA 5, zA 5, zA 5]) rfl ?_
  refine V.iincN dX4_init_80 rfl ?_
  refine V.eql (ls' := [some (.ref 37), some (.ref 1), some (.ref 12), some (.ref 36), some (.int (nI 2))]) rfl ?_
  refine V.goto 59 dX4_init_83 (by decide) ?_
  refine V.iload dX4_init_59 rfl ?_
  refine V.bipush (nI 8) dX4_init_61 (by decide +kernel) ?_
  refine V.icmp_geN 86 dX4_init_63 (by decide) (by decide) (by decide) (fun q => absurd q (by decide)) (fun _ => ?_)
  refine V.aldn 0 dX4_init_66 rfl rfl ?_
  refine V.getf (v := .ref 38) dX4_init_67 f_X4_11 rfl rfl ?_
  refine V.iload dX4_init_70 rfl ?_
  refine V.aldn 2 dX4_init_72 rfl rfl ?_
  refine V.getf (v := .ref 13) dX4_init_73 f_X4_45 rfl rfl ?_
  refine V.iload dX4_init_76 rfl ?_
  refine V.aald (r := 20) dX4_init_78 rfl (ix_nI (by decide) (by decide)) rfl ?_
  refine V.aast dX4_init_79 rfl rfl (ix_nI (by decide) (by decide)) ?_
  refine V.eqh (h' := hP3 ++ [.inl (4, [.ref 1, .ref 12, .ref 36, .ref 41, .ref 38, .ref 39, .ref 40]), .inr (2, 8, .inr (qF 3)), zA 8, zA 8, .inl (0, [.ref 1, .ref 42, .ref 43, .ref 44, .int 0, .int 0, .int 0]), zA 5, zA 5, zA 5]) rfl ?_
  refine V.iincN dX4_init_80 rfl ?_
  refine V.eql (ls' := [some (.ref 37), some (.ref 1), some (.ref 12), some (.ref 36), some (.int (nI 3))]) rfl ?_
  refine V.goto 59 dX4_init_83 (by decide) ?_
  refine V.iload dX4_init_59 rfl ?_
  refine V.bipush (nI 8) dX4_init_61 (by decide +kernel) ?_
  refine V.icmp_geN 86 dX4_init_63 (by decide) (by decide) (by decide) (fun q => absurd q (by decide)) (fun _ => ?_)
  refine V.aldn 0 dX4_init_66 rfl rfl ?_
  refine V.getf (v := .ref 38) dX4_init_67 f_X4_11 rfl rfl ?_
  refine V.iload dX4_init_70 rfl ?_
  refine V.aldn 2 dX4_init_72 rfl rfl ?_
  refine V.getf (v := .ref 13) dX4_init_73 f_X4_45 rfl rfl ?_
  refine V.iload dX4_init_76 rfl ?_
  refine V.aald (r := 22) dX4_init_78 rfl (ix_nI (by decide) (by decide)) rfl ?_
  refine V.aast dX4_init_79 rfl rfl (ix_nI (by decide) (by decide)) ?_
  refine V.eqh (h' := hP3 ++ [.inl (4, [.ref 1, .ref 12, .ref 36, .ref 41, .ref 38, .ref 39, .ref 40]), .inr (2, 8, .inr (qF 4)), zA 8, zA 8, .inl (0, [.ref 1, .ref 42, .ref 43, .ref 44, .int 0, .int 0, .int 0]), zA 5, zA 5, zA 5]) rfl ?_
  refine V.iincN dX4_init_80 rfl ?_
  refine V.eql (ls' := [some (.ref 37), some (.ref 1), some (.ref 12), some (.ref 36), some (.int (nI 4))]) rfl ?_
  refine V.goto 59 dX4_init_83 (by decide) ?_
  refine V.iload dX4_init_59 rfl ?_
  refine V.bipush (nI 8) dX4_init_61 (by decide +kernel) ?_
  refine V.icmp_geN 86 dX4_init_63 (by decide) (by decide) (by decide) (fun q => absurd q (by decide)) (fun _ => ?_)
  refine V.aldn 0 dX4_init_66 rfl rfl ?_
  refine V.getf (v := .ref 38) dX4_init_67 f_X4_11 rfl rfl ?_
  refine V.iload dX4_init_70 rfl ?_
  refine V.aldn 2 dX4_init_72 rfl rfl ?_
  refine V.getf (v := .ref 13) dX4_init_73 f_X4_45 rfl rfl ?_
  refine V.iload dX4_init_76 rfl ?_
  refine V.aald (r := 24) dX4_init_78 rfl (ix_nI (by decide) (by decide)) rfl ?_
  refine V.aast dX4_init_79 rfl rfl (ix_nI (by decide) (by decide)) ?_
  refine V.eqh (h' := hP3 ++ [.inl (4, [.ref 1, .ref 12, .ref 36, .ref 41, .ref 38, .ref 39, .ref 40]), .inr (2, 8, .inr (qF 5)), zA 8, zA 8, .inl (0, [.ref 1, .ref 42, .ref 43, .ref 44, .int 0, .int 0, .int 0]), zA 5, zA 5, zA 5]) rfl ?_
  refine V.iincN dX4_init_80 rfl ?_
  refine V.eql (ls' := [some (.ref 37), some (.ref 1), some (.ref 12), some (.ref 36), some (.int (nI 5))]) rfl ?_
  refine V.goto 59 dX4_init_83 (by decide) ?_
  refine V.iload dX4_init_59 rfl ?_
  refine V.bipush (nI 8) dX4_init_61 (by decide +kernel) ?_
  refine V.icmp_geN 86 dX4_init_63 (by decide) (by decide) (by decide) (fun q => absurd q (by decide)) (fun _ => ?_)
  refine V.aldn 0 dX4_init_66 rfl rfl ?_
  refine V.getf (v := .ref 38) dX4_init_67 f_X4_11 rfl rfl ?_
  refine V.iload dX4_init_70 rfl ?_
  refine V.aldn 2 dX4_init_72 rfl rfl ?_
  refine V.getf (v := .ref 13) dX4_init_73 f_X4_45 rfl rfl ?_
  refine V.iload dX4_init_76 rfl ?_
  refine V.aald (r := 26) dX4_init_78 rfl (ix_nI (by decide) (by decide)) rfl ?_
  refine V.aast dX4_init_79 rfl rfl (ix_nI (by decide) (by decide)) ?_
  refine V.eqh (h' := hP3 ++ [.inl (4, [.ref 1, .ref 12, .ref 36, .ref 41, .ref 38, .ref 39, .ref 40]), .inr (2, 8, .inr (qF 6)), zA 8, zA 8, .inl (0, [.ref 1, .ref 42, .ref 43, .ref 44, .int 0, .int 0, .int 0]), zA 5, zA 5, zA 5]) rfl ?_
  refine V.iincN dX4_init_80 rfl ?_
  refine V.eql (ls' := [some (.ref 37), some (.ref 1), some (.ref 12), some (.ref 36), some (.int (nI 6))]) rfl ?_
  refine V.goto 59 dX4_init_83 (by decide) ?_
  refine V.iload dX4_init_59 rfl ?_
  refine V.bipush (nI 8) dX4_init_61 (by decide +kernel) ?_
  refine V.icmp_geN 86 dX4_init_63 (by decide) (by decide) (by decide) (fun q => absurd q (by decide)) (fun _ => ?_)
  refine V.aldn 0 dX4_init_66 rfl rfl ?_
  refine V.getf (v := .ref 38) dX4_init_67 f_X4_11 rfl rfl ?_
  refine V.iload dX4_init_70 rfl ?_
  refine V.aldn 2 dX4_init_72 rfl rfl ?_
  refine V.getf (v := .ref 13) dX4_init_73 f_X4_45 rfl rfl ?_
  refine V.iload dX4_init_76 rfl ?_
  refine V.aald (r := 28) dX4_init_78 rfl (ix_nI (by decide) (by decide)) rfl ?_
  refine V.aast dX4_init_79 rfl rfl (ix_nI (by decide) (by decide)) ?_
  refine V.eqh (h' := hP3 ++ [.inl (4, [.ref 1, .ref 12, .ref 36, .ref 41, .ref 38, .ref 39, .ref 40]), .inr (2, 8, .inr (qF 7)), zA 8, zA 8, .inl (0, [.ref 1, .ref 42, .ref 43, .ref 44, .int 0, .int 0, .int 0]), zA 5, zA 5, zA 5]) rfl ?_
  refine V.iincN dX4_init_80 rfl ?_
  refine V.eql (ls' := [some (.ref 37), some (.ref 1), some (.ref 12), some (.ref 36), some (.int (nI 7))]) rfl ?_
  refine V.goto 59 dX4_init_83 (by decide) ?_
  refine V.iload dX4_init_59 rfl ?_
  refine V.bipush (nI 8) dX4_init_61 (by decide +kernel) ?_
  refine V.icmp_geN 86 dX4_init_63 (by decide) (by decide) (by decide) (fun q => absurd q (by decide)) (fun _ => ?_)
  refine V.aldn 0 dX4_init_66 rfl rfl ?_
  refine V.getf (v := .ref 38) dX4_init_67 f_X4_11 rfl rfl ?_
  refine V.iload dX4_init_70 rfl ?_
  refine V.aldn 2 dX4_init_72 rfl rfl ?_
  refine V.getf (v := .ref 13) dX4_init_73 f_X4_45 rfl rfl ?_
  refine V.iload dX4_init_76 rfl ?_
  refine V.aald (r := 30) dX4_init_78 rfl (ix_nI (by decide) (by decide)) rfl ?_
  refine V.aast dX4_init_79 rfl rfl (ix_nI (by decide) (by decide)) ?_
  refine V.eqh (h' := hP3 ++ [.inl (4, [.ref 1, .ref 12, .ref 36, .ref 41, .ref 38, .ref 39, .ref 40]), .inr (2, 8, .inr (qF 8)), zA 8, zA 8, .inl (0, [.ref 1, .ref 42, .ref 43, .ref 44, .int 0, .int 0, .int 0]), zA 5, zA 5, zA 5]) rfl ?_
  refine V.iincN dX4_init_80 rfl ?_
  refine V.eql (ls' := [some (.ref 37), some (.ref 1), some (.ref 12), some (.ref 36), some (.int (nI 8))]) rfl ?_
  refine V.goto 59 dX4_init_83 (by decide) ?_
  refine V.iload dX4_init_59 rfl ?_
  refine V.bipush (nI 8) dX4_init_61 (by decide +kernel) ?_
  refine V.icmp_geN 86 dX4_init_63 (by decide) (by decide) (by decide) (fun _ => ?_) (fun q => absurd q (by decide))
  exact V.vreturn dX4_init_86 rfl ⟨rfl, rfl⟩
abbrev hC45 : List AC := hA0 (.ref 1) (.ref 12) (.ref 36) (.ref 37) :: (cFilm ++ (cPlan ++ ([cBill] ++ cPlanner)))
theorem c_X6_init : Mt 3 44 399 mX6_init [.ref 0] [hA0 .null .null .null .null] (fun r h' => r = none ∧ h' = hC45) := by
  refine Mt.of rfl rfl (Nat.le_of_ble_eq_true rfl) rfl ?_
  refine V.aldn 0 dX6_init_0 rfl rfl ?_
  refine V.objInit dX6_init_1 o_X6_1 o_inst o_code (Nat.le_of_ble_eq_true rfl) (Nat.le_of_ble_eq_true rfl) ?_
  refine V.aldn 0 dX6_init_4 rfl rfl ?_
  refine V.new (M := mX6_init) (N := 11) dX6_init_5 n_X6_7 ?_
  refine V.topr (y := 1) rfl ?_
  refine V.dupr dX6_init_8 ?_
  refine V.callI (As := []) (i := 1) (nc := 10) (ns := 152) (d' := 1) dX6_init_9 k_X6_9 rfl rfl (Nat.le_of_ble_eq_true rfl) (by decide) c_X2_init ?_
  rintro _ _ ⟨rfl, rfl⟩
  refine V.eqs (st' := [.ref 1, .ref 0]) rfl ?_
  refine V.putf dX6_init_12 (fp_X6_10 rfl rfl) rfl (Nat.le_of_ble_eq_true rfl) (fun _ => ⟨rfl, rfl⟩) ?_
  refine V.eqh (h' := hP1) rfl ?_
  refine V.aldn 0 dX6_init_15 rfl rfl ?_
  refine V.new (M := mX6_init) (N := 5) dX6_init_16 n_X6_16 ?_
  refine V.topr (y := 12) rfl ?_
  refine V.dupr dX6_init_19 ?_
  refine V.aldn 0 dX6_init_20 rfl rfl ?_
  refine V.getf (v := .ref 1) dX6_init_21 f_X6_10 rfl rfl ?_
  refine V.callI (As := [.ref 1]) (i := 12) (nc := 23) (ns := 176) (d' := 2) dX6_init_24 k_X6_18 rfl rfl (Nat.le_of_ble_eq_true rfl) (by decide) c_X3_init ?_
  rintro _ _ ⟨rfl, rfl⟩
  refine V.eqs (st' := [.ref 12, .ref 0]) rfl ?_
  refine V.putf dX6_init_27 (fp_X6_21 rfl rfl) rfl (Nat.le_of_ble_eq_true rfl) (fun _ => ⟨rfl, rfl⟩) ?_
  refine V.eqh (h' := hP2) rfl ?_
  refine V.aldn 0 dX6_init_30 rfl rfl ?_
  refine V.new (M := mX6_init) (N := 2) dX6_init_31 n_X6_25 ?_
  refine V.topr (y := 36) rfl ?_
  refine V.dupr dX6_init_34 ?_
  refine V.aldn 0 dX6_init_35 rfl rfl ?_
  refine V.getf (v := .ref 1) dX6_init_36 f_X6_10 rfl rfl ?_
  refine V.aldn 0 dX6_init_39 rfl rfl ?_
  refine V.getf (v := .ref 12) dX6_init_40 f_X6_21 rfl rfl ?_
  refine V.callI (As := [.ref 1, .ref 12]) (i := 36) (nc := 0) (ns := 0) (d' := 1) dX6_init_43 k_X6_27 rfl rfl (Nat.le_of_ble_eq_true rfl) (by decide) c_X1_init ?_
  rintro _ _ ⟨rfl, rfl⟩
  refine V.eqs (st' := [.ref 36, .ref 0]) rfl ?_
  refine V.putf dX6_init_46 (fp_X6_30 rfl rfl) rfl (Nat.le_of_ble_eq_true rfl) (fun _ => ⟨rfl, rfl⟩) ?_
  refine V.eqh (h' := hP3) rfl ?_
  refine V.aldn 0 dX6_init_49 rfl rfl ?_
  refine V.new (M := mX6_init) (N := 7) dX6_init_50 n_X6_34 ?_
  refine V.topr (y := 37) rfl ?_
  refine V.dupr dX6_init_53 ?_
  refine V.aldn 0 dX6_init_54 rfl rfl ?_
  refine V.getf (v := .ref 1) dX6_init_55 f_X6_10 rfl rfl ?_
  refine V.aldn 0 dX6_init_58 rfl rfl ?_
  refine V.getf (v := .ref 12) dX6_init_59 f_X6_21 rfl rfl ?_
  refine V.aldn 0 dX6_init_62 rfl rfl ?_
  refine V.getf (v := .ref 36) dX6_init_63 f_X6_30 rfl rfl ?_
  refine V.callI (As := [.ref 1, .ref 12, .ref 36]) (i := 37) (nc := 7) (ns := 46) (d' := 2) dX6_init_66 k_X6_36 rfl rfl (Nat.le_of_ble_eq_true rfl) (by decide) c_X4_init ?_
  rintro _ _ ⟨rfl, rfl⟩
  refine V.eqs (st' := [.ref 37, .ref 0]) rfl ?_
  refine V.putf dX6_init_69 (fp_X6_39 rfl rfl) rfl (Nat.le_of_ble_eq_true rfl) (fun _ => ⟨rfl, rfl⟩) ?_
  exact V.vreturn dX6_init_72 rfl ⟨rfl, rfl⟩
abbrev cModel : List AC := [.inl (7, [.int 0, .int 0, .ref 46, .ref 47, .ref 48, .ref 49, .ref 50, .ref 51, .ref 52, .ref 53, .ref 54, .ref 55, .ref 56, .int 0, .ref 57, .ref 58, .ref 59, .ref 60, .ref 61, .ref 62, .int 0, .ref 63, .ref 64, .ref 65, .ref 66, .ref 67, .ref 68, .int 0]), zA 20, zA 20, zA 20, zB 20, zA 20, zA 20, zA 20, zA 8, zA 8, zA 8, zA 8, zA 8, zA 8, zA 8, zA 40, zA 6, zA 5, zA 5, zA 40, zA 8, zA 20, zA 6, zA 6]
theorem c_X7_init : Mt 1 23 332 mX7_init [.ref 45] (hC45 ++ [.inl (7, [.int 0, .int 0, .null, .null, .null, .null, .null, .null, .null, .null, .null, .null, .null, .int 0, .null, .null, .null, .null, .null, .null, .int 0, .null, .null, .null, .null, .null, .null, .int 0])]) (fun r h' => r = none ∧ h' = hC45 ++ cModel) := by
  refine Mt.of rfl rfl (Nat.le_of_ble_eq_true rfl) rfl ?_
  refine V.aldn 0 dX7_init_0 rfl rfl ?_
  refine V.objInit dX7_init_1 o_X7_1 o_inst o_code (Nat.le_of_ble_eq_true rfl) (Nat.le_of_ble_eq_true rfl) ?_
  refine V.aldn 0 dX7_init_4 rfl rfl ?_
  refine V.bipush (nI 20) dX7_init_5 (by decide +kernel) ?_
  refine V.newi (N := 20) dX7_init_7 w_ai (by decide +kernel) (by decide +kernel) (by decide) ?_
  refine V.eqh (h' := hC45 ++ [.inl (7, [.int 0, .int 0, .null, .null, .null, .null, .null, .null, .null, .null, .null, .null, .null, .int 0, .null, .null, .null, .null, .null, .null, .int 0, .null, .null, .null, .null, .null, .null, .int 0]), zA 20]) rfl ?_
  refine V.topr (y := 46) rfl ?_
  refine V.putf dX7_init_9 (fp_X7_7 rfl rfl) rfl (Nat.le_of_ble_eq_true rfl) (fun _ => ⟨rfl, rfl⟩) ?_
  refine V.eqh (h' := hC45 ++ [.inl (7, [.int 0, .int 0, .ref 46, .null, .null, .null, .null, .null, .null, .null, .null, .null, .null, .int 0, .null, .null, .null, .null, .null, .null, .int 0, .null, .null, .null, .null, .null, .null, .int 0]), zA 20]) rfl ?_
  refine V.aldn 0 dX7_init_12 rfl rfl ?_
  refine V.bipush (nI 20) dX7_init_13 (by decide +kernel) ?_
  refine V.newi (N := 20) dX7_init_15 w_ai (by decide +kernel) (by decide +kernel) (by decide) ?_
  refine V.eqh (h' := hC45 ++ [.inl (7, [.int 0, .int 0, .ref 46, .null, .null, .null, .null, .null, .null, .null, .null, .null, .null, .int 0, .null, .null, .null, .null, .null, .null, .int 0, .null, .null, .null, .null, .null, .null, .int 0]), zA 20, zA 20]) rfl ?_
  refine V.topr (y := 47) rfl ?_
  refine V.putf dX7_init_17 (fp_X7_13 rfl rfl) rfl (Nat.le_of_ble_eq_true rfl) (fun _ => ⟨rfl, rfl⟩) ?_
  refine V.eqh (h' := hC45 ++ [.inl (7, [.int 0, .int 0, .ref 46, .ref 47, .null, .null, .null, .null, .null, .null, .null, .null, .null, .int 0, .null, .null, .null, .null, .null, .null, .int 0, .null, .null, .null, .null, .null, .null, .int 0]), zA 20, zA 20]) rfl ?_
  refine V.aldn 0 dX7_init_20 rfl rfl ?_
  refine V.bipush (nI 20) dX7_init_21 (by decide +kernel) ?_
  refine V.newi (N := 20) dX7_init_23 w_ai (by decide +kernel) (by decide +kernel) (by decide) ?_
  refine V.eqh (h' := hC45 ++ [.inl (7, [.int 0, .int 0, .ref 46, .ref 47, .null, .null, .null, .null, .null, .null, .null, .null, .null, .int 0, .null, .null, .null, .null, .null, .null, .int 0, .null, .null, .null, .null, .null, .null, .int 0]), zA 20, zA 20, zA 20]) rfl ?_
  refine V.topr (y := 48) rfl ?_
  refine V.putf dX7_init_25 (fp_X7_16 rfl rfl) rfl (Nat.le_of_ble_eq_true rfl) (fun _ => ⟨rfl, rfl⟩) ?_
  refine V.eqh (h' := hC45 ++ [.inl (7, [.int 0, .int 0, .ref 46, .ref 47, .ref 48, .null, .null, .null, .null, .null, .null, .null, .null, .int 0, .null, .null, .null, .null, .null, .null, .int 0, .null, .null, .null, .null, .null, .null, .int 0]), zA 20, zA 20, zA 20]) rfl ?_
  refine V.aldn 0 dX7_init_28 rfl rfl ?_
  refine V.bipush (nI 20) dX7_init_29 (by decide +kernel) ?_
  refine V.newz (N := 20) dX7_init_31 w_az (by decide +kernel) (by decide +kernel) (by decide) ?_
  refine V.eqh (h' := hC45 ++ [.inl (7, [.int 0, .int 0, .ref 46, .ref 47, .ref 48, .null, .null, .null, .null, .null, .null, .null, .null, .int 0, .null, .null, .null, .null, .null, .null, .int 0, .null, .null, .null, .null, .null, .null, .int 0]), zA 20, zA 20, zA 20, zB 20]) rfl ?_
  refine V.topr (y := 49) rfl ?_
  refine V.putf dX7_init_33 (fp_X7_19 rfl rfl) rfl (Nat.le_of_ble_eq_true rfl) (fun _ => ⟨rfl, rfl⟩) ?_
  refine V.eqh (h' := hC45 ++ [.inl (7, [.int 0, .int 0, .ref 46, .ref 47, .ref 48, .ref 49, .null, .null, .null, .null, .null, .null, .null, .int 0, .null, .null, .null, .null, .null, .null, .int 0, .null, .null, .null, .null, .null, .null, .int 0]), zA 20, zA 20, zA 20, zB 20]) rfl ?_
  refine V.aldn 0 dX7_init_36 rfl rfl ?_
  refine V.bipush (nI 20) dX7_init_37 (by decide +kernel) ?_
  refine V.newi (N := 20) dX7_init_39 w_ai (by decide +kernel) (by decide +kernel) (by decide) ?_
  refine V.eqh (h' := hC45 ++ [.inl (7, [.int 0, .int 0, .ref 46, .ref 47, .ref 48, .ref 49, .null, .null, .null, .null, .null, .null, .null, .int 0, .null, .null, .null, .null, .null, .null, .int 0, .null, .null, .null, .null, .null, .null, .int 0]), zA 20, zA 20, zA 20, zB 20, zA 20]) rfl ?_
  refine V.topr (y := 50) rfl ?_
  refine V.putf dX7_init_41 (fp_X7_23 rfl rfl) rfl (Nat.le_of_ble_eq_true rfl) (fun _ => ⟨rfl, rfl⟩) ?_
  refine V.eqh (h' := hC45 ++ [.inl (7, [.int 0, .int 0, .ref 46, .ref 47, .ref 48, .ref 49, .ref 50, .null, .null, .null, .null, .null, .null, .int 0, .null, .null, .null, .null, .null, .null, .int 0, .null, .null, .null, .null, .null, .null, .int 0]), zA 20, zA 20, zA 20, zB 20, zA 20]) rfl ?_
  refine V.aldn 0 dX7_init_44 rfl rfl ?_
  refine V.bipush (nI 20) dX7_init_45 (by decide +kernel) ?_
  refine V.newi (N := 20) dX7_init_47 w_ai (by decide +kernel) (by decide +kernel) (by decide) ?_
  refine V.eqh (h' := hC45 ++ [.inl (7, [.int 0, .int 0, .ref 46, .ref 47, .ref 48, .ref 49, .ref 50, .null, .null, .null, .null, .null, .null, .int 0, .null, .null, .null, .null, .null, .null, .int 0, .null, .null, .null, .null, .null, .null, .int 0]), zA 20, zA 20, zA 20, zB 20, zA 20, zA 20]) rfl ?_
  refine V.topr (y := 51) rfl ?_
  refine V.putf dX7_init_49 (fp_X7_26 rfl rfl) rfl (Nat.le_of_ble_eq_true rfl) (fun _ => ⟨rfl, rfl⟩) ?_
  refine V.eqh (h' := hC45 ++ [.inl (7, [.int 0, .int 0, .ref 46, .ref 47, .ref 48, .ref 49, .ref 50, .ref 51, .null, .null, .null, .null, .null, .int 0, .null, .null, .null, .null, .null, .null, .int 0, .null, .null, .null, .null, .null, .null, .int 0]), zA 20, zA 20, zA 20, zB 20, zA 20, zA 20]) rfl ?_
  refine V.aldn 0 dX7_init_52 rfl rfl ?_
  refine V.bipush (nI 20) dX7_init_53 (by decide +kernel) ?_
  refine V.newi (N := 20) dX7_init_55 w_ai (by decide +kernel) (by decide +kernel) (by decide) ?_
  refine V.eqh (h' := hC45 ++ [.inl (7, [.int 0, .int 0, .ref 46, .ref 47, .ref 48, .ref 49, .ref 50, .ref 51, .null, .null, .null, .null, .null, .int 0, .null, .null, .null, .null, .null, .null, .int 0, .null, .null, .null, .null, .null, .null, .int 0]), zA 20, zA 20, zA 20, zB 20, zA 20, zA 20, zA 20]) rfl ?_
  refine V.topr (y := 52) rfl ?_
  refine V.putf dX7_init_57 (fp_X7_29 rfl rfl) rfl (Nat.le_of_ble_eq_true rfl) (fun _ => ⟨rfl, rfl⟩) ?_
  refine V.eqh (h' := hC45 ++ [.inl (7, [.int 0, .int 0, .ref 46, .ref 47, .ref 48, .ref 49, .ref 50, .ref 51, .ref 52, .null, .null, .null, .null, .int 0, .null, .null, .null, .null, .null, .null, .int 0, .null, .null, .null, .null, .null, .null, .int 0]), zA 20, zA 20, zA 20, zB 20, zA 20, zA 20, zA 20]) rfl ?_
  refine V.aldn 0 dX7_init_60 rfl rfl ?_
  refine V.bipush (nI 8) dX7_init_61 (by decide +kernel) ?_
  refine V.newi (N := 8) dX7_init_63 w_ai (by decide +kernel) (by decide +kernel) (by decide) ?_
  refine V.eqh (h' := hC45 ++ [.inl (7, [.int 0, .int 0, .ref 46, .ref 47, .ref 48, .ref 49, .ref 50, .ref 51, .ref 52, .null, .null, .null, .null, .int 0, .null, .null, .null, .null, .null, .null, .int 0, .null, .null, .null, .null, .null, .null, .int 0]), zA 20, zA 20, zA 20, zB 20, zA 20, zA 20, zA 20, zA 8]) rfl ?_
  refine V.topr (y := 53) rfl ?_
  refine V.putf dX7_init_65 (fp_X7_32 rfl rfl) rfl (Nat.le_of_ble_eq_true rfl) (fun _ => ⟨rfl, rfl⟩) ?_
  refine V.eqh (h' := hC45 ++ [.inl (7, [.int 0, .int 0, .ref 46, .ref 47, .ref 48, .ref 49, .ref 50, .ref 51, .ref 52, .ref 53, .null, .null, .null, .int 0, .null, .null, .null, .null, .null, .null, .int 0, .null, .null, .null, .null, .null, .null, .int 0]), zA 20, zA 20, zA 20, zB 20, zA 20, zA 20, zA 20, zA 8]) rfl ?_
  refine V.aldn 0 dX7_init_68 rfl rfl ?_
  refine V.bipush (nI 8) dX7_init_69 (by decide +kernel) ?_
  refine V.newi (N := 8) dX7_init_71 w_ai (by decide +kernel) (by decide +kernel) (by decide) ?_
  refine V.eqh (h' := hC45 ++ [.inl (7, [.int 0, .int 0, .ref 46, .ref 47, .ref 48, .ref 49, .ref 50, .ref 51, .ref 52, .ref 53, .null, .null, .null, .int 0, .null, .null, .null, .null, .null, .null, .int 0, .null, .null, .null, .null, .null, .null, .int 0]), zA 20, zA 20, zA 20, zB 20, zA 20, zA 20, zA 20, zA 8, zA 8]) rfl ?_
  refine V.topr (y := 54) rfl ?_
  refine V.putf dX7_init_73 (fp_X7_35 rfl rfl) rfl (Nat.le_of_ble_eq_true rfl) (fun _ => ⟨rfl, rfl⟩) ?_
  refine V.eqh (h' := hC45 ++ [.inl (7, [.int 0, .int 0, .ref 46, .ref 47, .ref 48, .ref 49, .ref 50, .ref 51, .ref 52, .ref 53, .ref 54, .null, .null, .int 0, .null, .null, .null, .null, .null, .null, .int 0, .null, .null, .null, .null, .null, .null, .int 0]), zA 20, zA 20, zA 20, zB 20, zA 20, zA 20, zA 20, zA 8, zA 8]) rfl ?_
  refine V.aldn 0 dX7_init_76 rfl rfl ?_
  refine V.bipush (nI 8) dX7_init_77 (by decide +kernel) ?_
  refine V.newi (N := 8) dX7_init_79 w_ai (by decide +kernel) (by decide +kernel) (by decide) ?_
  refine V.eqh (h' := hC45 ++ [.inl (7, [.int 0, .int 0, .ref 46, .ref 47, .ref 48, .ref 49, .ref 50, .ref 51, .ref 52, .ref 53, .ref 54, .null, .null, .int 0, .null, .null, .null, .null, .null, .null, .int 0, .null, .null, .null, .null, .null, .null, .int 0]), zA 20, zA 20, zA 20, zB 20, zA 20, zA 20, zA 20, zA 8, zA 8, zA 8]) rfl ?_
  refine V.topr (y := 55) rfl ?_
  refine V.putf dX7_init_81 (fp_X7_38 rfl rfl) rfl (Nat.le_of_ble_eq_true rfl) (fun _ => ⟨rfl, rfl⟩) ?_
  refine V.eqh (h' := hC45 ++ [.inl (7, [.int 0, .int 0, .ref 46, .ref 47, .ref 48, .ref 49, .ref 50, .ref 51, .ref 52, .ref 53, .ref 54, .ref 55, .null, .int 0, .null, .null, .null, .null, .null, .null, .int 0, .null, .null, .null, .null, .null, .null, .int 0]), zA 20, zA 20, zA 20, zB 20, zA 20, zA 20, zA 20, zA 8, zA 8, zA 8]) rfl ?_
  refine V.aldn 0 dX7_init_84 rfl rfl ?_
  refine V.bipush (nI 8) dX7_init_85 (by decide +kernel) ?_
  refine V.newi (N := 8) dX7_init_87 w_ai (by decide +kernel) (by decide +kernel) (by decide) ?_
  refine V.eqh (h' := hC45 ++ [.inl (7, [.int 0, .int 0, .ref 46, .ref 47, .ref 48, .ref 49, .ref 50, .ref 51, .ref 52, .ref 53, .ref 54, .ref 55, .null, .int 0, .null, .null, .null, .null, .null, .null, .int 0, .null, .null, .null, .null, .null, .null, .int 0]), zA 20, zA 20, zA 20, zB 20, zA 20, zA 20, zA 20, zA 8, zA 8, zA 8, zA 8]) rfl ?_
  refine V.topr (y := 56) rfl ?_
  refine V.putf dX7_init_89 (fp_X7_41 rfl rfl) rfl (Nat.le_of_ble_eq_true rfl) (fun _ => ⟨rfl, rfl⟩) ?_
  refine V.eqh (h' := hC45 ++ [.inl (7, [.int 0, .int 0, .ref 46, .ref 47, .ref 48, .ref 49, .ref 50, .ref 51, .ref 52, .ref 53, .ref 54, .ref 55, .ref 56, .int 0, .null, .null, .null, .null, .null, .null, .int 0, .null, .null, .null, .null, .null, .null, .int 0]), zA 20, zA 20, zA 20, zB 20, zA 20, zA 20, zA 20, zA 8, zA 8, zA 8, zA 8]) rfl ?_
  refine V.aldn 0 dX7_init_92 rfl rfl ?_
  refine V.bipush (nI 8) dX7_init_93 (by decide +kernel) ?_
  refine V.newi (N := 8) dX7_init_95 w_ai (by decide +kernel) (by decide +kernel) (by decide) ?_
  refine V.eqh (h' := hC45 ++ [.inl (7, [.int 0, .int 0, .ref 46, .ref 47, .ref 48, .ref 49, .ref 50, .ref 51, .ref 52, .ref 53, .ref 54, .ref 55, .ref 56, .int 0, .null, .null, .null, .null, .null, .null, .int 0, .null, .null, .null, .null, .null, .null, .int 0]), zA 20, zA 20, zA 20, zB 20, zA 20, zA 20, zA 20, zA 8, zA 8, zA 8, zA 8, zA 8]) rfl ?_
  refine V.topr (y := 57) rfl ?_
  refine V.putf dX7_init_97 (fp_X7_44 rfl rfl) rfl (Nat.le_of_ble_eq_true rfl) (fun _ => ⟨rfl, rfl⟩) ?_
  refine V.eqh (h' := hC45 ++ [.inl (7, [.int 0, .int 0, .ref 46, .ref 47, .ref 48, .ref 49, .ref 50, .ref 51, .ref 52, .ref 53, .ref 54, .ref 55, .ref 56, .int 0, .ref 57, .null, .null, .null, .null, .null, .int 0, .null, .null, .null, .null, .null, .null, .int 0]), zA 20, zA 20, zA 20, zB 20, zA 20, zA 20, zA 20, zA 8, zA 8, zA 8, zA 8, zA 8]) rfl ?_
  refine V.aldn 0 dX7_init_100 rfl rfl ?_
  refine V.bipush (nI 8) dX7_init_101 (by decide +kernel) ?_
  refine V.newi (N := 8) dX7_init_103 w_ai (by decide +kernel) (by decide +kernel) (by decide) ?_
  refine V.eqh (h' := hC45 ++ [.inl (7, [.int 0, .int 0, .ref 46, .ref 47, .ref 48, .ref 49, .ref 50, .ref 51, .ref 52, .ref 53, .ref 54, .ref 55, .ref 56, .int 0, .ref 57, .null, .null, .null, .null, .null, .int 0, .null, .null, .null, .null, .null, .null, .int 0]), zA 20, zA 20, zA 20, zB 20, zA 20, zA 20, zA 20, zA 8, zA 8, zA 8, zA 8, zA 8, zA 8]) rfl ?_
  refine V.topr (y := 58) rfl ?_
  refine V.putf dX7_init_105 (fp_X7_47 rfl rfl) rfl (Nat.le_of_ble_eq_true rfl) (fun _ => ⟨rfl, rfl⟩) ?_
  refine V.eqh (h' := hC45 ++ [.inl (7, [.int 0, .int 0, .ref 46, .ref 47, .ref 48, .ref 49, .ref 50, .ref 51, .ref 52, .ref 53, .ref 54, .ref 55, .ref 56, .int 0, .ref 57, .ref 58, .null, .null, .null, .null, .int 0, .null, .null, .null, .null, .null, .null, .int 0]), zA 20, zA 20, zA 20, zB 20, zA 20, zA 20, zA 20, zA 8, zA 8, zA 8, zA 8, zA 8, zA 8]) rfl ?_
  refine V.aldn 0 dX7_init_108 rfl rfl ?_
  refine V.bipush (nI 8) dX7_init_109 (by decide +kernel) ?_
  refine V.newi (N := 8) dX7_init_111 w_ai (by decide +kernel) (by decide +kernel) (by decide) ?_
  refine V.eqh (h' := hC45 ++ [.inl (7, [.int 0, .int 0, .ref 46, .ref 47, .ref 48, .ref 49, .ref 50, .ref 51, .ref 52, .ref 53, .ref 54, .ref 55, .ref 56, .int 0, .ref 57, .ref 58, .null, .null, .null, .null, .int 0, .null, .null, .null, .null, .null, .null, .int 0]), zA 20, zA 20, zA 20, zB 20, zA 20, zA 20, zA 20, zA 8, zA 8, zA 8, zA 8, zA 8, zA 8, zA 8]) rfl ?_
  refine V.topr (y := 59) rfl ?_
  refine V.putf dX7_init_113 (fp_X7_50 rfl rfl) rfl (Nat.le_of_ble_eq_true rfl) (fun _ => ⟨rfl, rfl⟩) ?_
  refine V.eqh (h' := hC45 ++ [.inl (7, [.int 0, .int 0, .ref 46, .ref 47, .ref 48, .ref 49, .ref 50, .ref 51, .ref 52, .ref 53, .ref 54, .ref 55, .ref 56, .int 0, .ref 57, .ref 58, .ref 59, .null, .null, .null, .int 0, .null, .null, .null, .null, .null, .null, .int 0]), zA 20, zA 20, zA 20, zB 20, zA 20, zA 20, zA 20, zA 8, zA 8, zA 8, zA 8, zA 8, zA 8, zA 8]) rfl ?_
  refine V.aldn 0 dX7_init_116 rfl rfl ?_
  refine V.bipush (nI 40) dX7_init_117 (by decide +kernel) ?_
  refine V.newi (N := 40) dX7_init_119 w_ai (by decide +kernel) (by decide +kernel) (by decide) ?_
  refine V.eqh (h' := hC45 ++ [.inl (7, [.int 0, .int 0, .ref 46, .ref 47, .ref 48, .ref 49, .ref 50, .ref 51, .ref 52, .ref 53, .ref 54, .ref 55, .ref 56, .int 0, .ref 57, .ref 58, .ref 59, .null, .null, .null, .int 0, .null, .null, .null, .null, .null, .null, .int 0]), zA 20, zA 20, zA 20, zB 20, zA 20, zA 20, zA 20, zA 8, zA 8, zA 8, zA 8, zA 8, zA 8, zA 8, zA 40]) rfl ?_
  refine V.topr (y := 60) rfl ?_
  refine V.putf dX7_init_121 (fp_X7_53 rfl rfl) rfl (Nat.le_of_ble_eq_true rfl) (fun _ => ⟨rfl, rfl⟩) ?_
  refine V.eqh (h' := hC45 ++ [.inl (7, [.int 0, .int 0, .ref 46, .ref 47, .ref 48, .ref 49, .ref 50, .ref 51, .ref 52, .ref 53, .ref 54, .ref 55, .ref 56, .int 0, .ref 57, .ref 58, .ref 59, .ref 60, .null, .null, .int 0, .null, .null, .null, .null, .null, .null, .int 0]), zA 20, zA 20, zA 20, zB 20, zA 20, zA 20, zA 20, zA 8, zA 8, zA 8, zA 8, zA 8, zA 8, zA 8, zA 40]) rfl ?_
  refine V.aldn 0 dX7_init_124 rfl rfl ?_
  refine V.bipush (nI 6) dX7_init_125 (by decide +kernel) ?_
  refine V.newi (N := 6) dX7_init_127 w_ai (by decide +kernel) (by decide +kernel) (by decide) ?_
  refine V.eqh (h' := hC45 ++ [.inl (7, [.int 0, .int 0, .ref 46, .ref 47, .ref 48, .ref 49, .ref 50, .ref 51, .ref 52, .ref 53, .ref 54, .ref 55, .ref 56, .int 0, .ref 57, .ref 58, .ref 59, .ref 60, .null, .null, .int 0, .null, .null, .null, .null, .null, .null, .int 0]), zA 20, zA 20, zA 20, zB 20, zA 20, zA 20, zA 20, zA 8, zA 8, zA 8, zA 8, zA 8, zA 8, zA 8, zA 40, zA 6]) rfl ?_
  refine V.topr (y := 61) rfl ?_
  refine V.putf dX7_init_129 (fp_X7_56 rfl rfl) rfl (Nat.le_of_ble_eq_true rfl) (fun _ => ⟨rfl, rfl⟩) ?_
  refine V.eqh (h' := hC45 ++ [.inl (7, [.int 0, .int 0, .ref 46, .ref 47, .ref 48, .ref 49, .ref 50, .ref 51, .ref 52, .ref 53, .ref 54, .ref 55, .ref 56, .int 0, .ref 57, .ref 58, .ref 59, .ref 60, .ref 61, .null, .int 0, .null, .null, .null, .null, .null, .null, .int 0]), zA 20, zA 20, zA 20, zB 20, zA 20, zA 20, zA 20, zA 8, zA 8, zA 8, zA 8, zA 8, zA 8, zA 8, zA 40, zA 6]) rfl ?_
  refine V.aldn 0 dX7_init_132 rfl rfl ?_
  refine V.iconst (nI 5) dX7_init_133 (by decide +kernel) ?_
  refine V.newi (N := 5) dX7_init_134 w_ai (by decide +kernel) (by decide +kernel) (by decide) ?_
  refine V.eqh (h' := hC45 ++ [.inl (7, [.int 0, .int 0, .ref 46, .ref 47, .ref 48, .ref 49, .ref 50, .ref 51, .ref 52, .ref 53, .ref 54, .ref 55, .ref 56, .int 0, .ref 57, .ref 58, .ref 59, .ref 60, .ref 61, .null, .int 0, .null, .null, .null, .null, .null, .null, .int 0]), zA 20, zA 20, zA 20, zB 20, zA 20, zA 20, zA 20, zA 8, zA 8, zA 8, zA 8, zA 8, zA 8, zA 8, zA 40, zA 6, zA 5]) rfl ?_
  refine V.topr (y := 62) rfl ?_
  refine V.putf dX7_init_136 (fp_X7_59 rfl rfl) rfl (Nat.le_of_ble_eq_true rfl) (fun _ => ⟨rfl, rfl⟩) ?_
  refine V.eqh (h' := hC45 ++ [.inl (7, [.int 0, .int 0, .ref 46, .ref 47, .ref 48, .ref 49, .ref 50, .ref 51, .ref 52, .ref 53, .ref 54, .ref 55, .ref 56, .int 0, .ref 57, .ref 58, .ref 59, .ref 60, .ref 61, .ref 62, .int 0, .null, .null, .null, .null, .null, .null, .int 0]), zA 20, zA 20, zA 20, zB 20, zA 20, zA 20, zA 20, zA 8, zA 8, zA 8, zA 8, zA 8, zA 8, zA 8, zA 40, zA 6, zA 5]) rfl ?_
  refine V.aldn 0 dX7_init_139 rfl rfl ?_
  refine V.iconst (nI 5) dX7_init_140 (by decide +kernel) ?_
  refine V.newi (N := 5) dX7_init_141 w_ai (by decide +kernel) (by decide +kernel) (by decide) ?_
  refine V.eqh (h' := hC45 ++ [.inl (7, [.int 0, .int 0, .ref 46, .ref 47, .ref 48, .ref 49, .ref 50, .ref 51, .ref 52, .ref 53, .ref 54, .ref 55, .ref 56, .int 0, .ref 57, .ref 58, .ref 59, .ref 60, .ref 61, .ref 62, .int 0, .null, .null, .null, .null, .null, .null, .int 0]), zA 20, zA 20, zA 20, zB 20, zA 20, zA 20, zA 20, zA 8, zA 8, zA 8, zA 8, zA 8, zA 8, zA 8, zA 40, zA 6, zA 5, zA 5]) rfl ?_
  refine V.topr (y := 63) rfl ?_
  refine V.putf dX7_init_143 (fp_X7_62 rfl rfl) rfl (Nat.le_of_ble_eq_true rfl) (fun _ => ⟨rfl, rfl⟩) ?_
  refine V.eqh (h' := hC45 ++ [.inl (7, [.int 0, .int 0, .ref 46, .ref 47, .ref 48, .ref 49, .ref 50, .ref 51, .ref 52, .ref 53, .ref 54, .ref 55, .ref 56, .int 0, .ref 57, .ref 58, .ref 59, .ref 60, .ref 61, .ref 62, .int 0, .ref 63, .null, .null, .null, .null, .null, .int 0]), zA 20, zA 20, zA 20, zB 20, zA 20, zA 20, zA 20, zA 8, zA 8, zA 8, zA 8, zA 8, zA 8, zA 8, zA 40, zA 6, zA 5, zA 5]) rfl ?_
  refine V.aldn 0 dX7_init_146 rfl rfl ?_
  refine V.bipush (nI 40) dX7_init_147 (by decide +kernel) ?_
  refine V.newi (N := 40) dX7_init_149 w_ai (by decide +kernel) (by decide +kernel) (by decide) ?_
  refine V.eqh (h' := hC45 ++ [.inl (7, [.int 0, .int 0, .ref 46, .ref 47, .ref 48, .ref 49, .ref 50, .ref 51, .ref 52, .ref 53, .ref 54, .ref 55, .ref 56, .int 0, .ref 57, .ref 58, .ref 59, .ref 60, .ref 61, .ref 62, .int 0, .ref 63, .null, .null, .null, .null, .null, .int 0]), zA 20, zA 20, zA 20, zB 20, zA 20, zA 20, zA 20, zA 8, zA 8, zA 8, zA 8, zA 8, zA 8, zA 8, zA 40, zA 6, zA 5, zA 5, zA 40]) rfl ?_
  refine V.topr (y := 64) rfl ?_
  refine V.putf dX7_init_151 (fp_X7_65 rfl rfl) rfl (Nat.le_of_ble_eq_true rfl) (fun _ => ⟨rfl, rfl⟩) ?_
  refine V.eqh (h' := hC45 ++ [.inl (7, [.int 0, .int 0, .ref 46, .ref 47, .ref 48, .ref 49, .ref 50, .ref 51, .ref 52, .ref 53, .ref 54, .ref 55, .ref 56, .int 0, .ref 57, .ref 58, .ref 59, .ref 60, .ref 61, .ref 62, .int 0, .ref 63, .ref 64, .null, .null, .null, .null, .int 0]), zA 20, zA 20, zA 20, zB 20, zA 20, zA 20, zA 20, zA 8, zA 8, zA 8, zA 8, zA 8, zA 8, zA 8, zA 40, zA 6, zA 5, zA 5, zA 40]) rfl ?_
  refine V.aldn 0 dX7_init_154 rfl rfl ?_
  refine V.bipush (nI 8) dX7_init_155 (by decide +kernel) ?_
  refine V.newi (N := 8) dX7_init_157 w_ai (by decide +kernel) (by decide +kernel) (by decide) ?_
  refine V.eqh (h' := hC45 ++ [.inl (7, [.int 0, .int 0, .ref 46, .ref 47, .ref 48, .ref 49, .ref 50, .ref 51, .ref 52, .ref 53, .ref 54, .ref 55, .ref 56, .int 0, .ref 57, .ref 58, .ref 59, .ref 60, .ref 61, .ref 62, .int 0, .ref 63, .ref 64, .null, .null, .null, .null, .int 0]), zA 20, zA 20, zA 20, zB 20, zA 20, zA 20, zA 20, zA 8, zA 8, zA 8, zA 8, zA 8, zA 8, zA 8, zA 40, zA 6, zA 5, zA 5, zA 40, zA 8]) rfl ?_
  refine V.topr (y := 65) rfl ?_
  refine V.putf dX7_init_159 (fp_X7_68 rfl rfl) rfl (Nat.le_of_ble_eq_true rfl) (fun _ => ⟨rfl, rfl⟩) ?_
  refine V.eqh (h' := hC45 ++ [.inl (7, [.int 0, .int 0, .ref 46, .ref 47, .ref 48, .ref 49, .ref 50, .ref 51, .ref 52, .ref 53, .ref 54, .ref 55, .ref 56, .int 0, .ref 57, .ref 58, .ref 59, .ref 60, .ref 61, .ref 62, .int 0, .ref 63, .ref 64, .ref 65, .null, .null, .null, .int 0]), zA 20, zA 20, zA 20, zB 20, zA 20, zA 20, zA 20, zA 8, zA 8, zA 8, zA 8, zA 8, zA 8, zA 8, zA 40, zA 6, zA 5, zA 5, zA 40, zA 8]) rfl ?_
  refine V.aldn 0 dX7_init_162 rfl rfl ?_
  refine V.bipush (nI 20) dX7_init_163 (by decide +kernel) ?_
  refine V.newi (N := 20) dX7_init_165 w_ai (by decide +kernel) (by decide +kernel) (by decide) ?_
  refine V.eqh (h' := hC45 ++ [.inl (7, [.int 0, .int 0, .ref 46, .ref 47, .ref 48, .ref 49, .ref 50, .ref 51, .ref 52, .ref 53, .ref 54, .ref 55, .ref 56, .int 0, .ref 57, .ref 58, .ref 59, .ref 60, .ref 61, .ref 62, .int 0, .ref 63, .ref 64, .ref 65, .null, .null, .null, .int 0]), zA 20, zA 20, zA 20, zB 20, zA 20, zA 20, zA 20, zA 8, zA 8, zA 8, zA 8, zA 8, zA 8, zA 8, zA 40, zA 6, zA 5, zA 5, zA 40, zA 8, zA 20]) rfl ?_
  refine V.topr (y := 66) rfl ?_
  refine V.putf dX7_init_167 (fp_X7_71 rfl rfl) rfl (Nat.le_of_ble_eq_true rfl) (fun _ => ⟨rfl, rfl⟩) ?_
  refine V.eqh (h' := hC45 ++ [.inl (7, [.int 0, .int 0, .ref 46, .ref 47, .ref 48, .ref 49, .ref 50, .ref 51, .ref 52, .ref 53, .ref 54, .ref 55, .ref 56, .int 0, .ref 57, .ref 58, .ref 59, .ref 60, .ref 61, .ref 62, .int 0, .ref 63, .ref 64, .ref 65, .ref 66, .null, .null, .int 0]), zA 20, zA 20, zA 20, zB 20, zA 20, zA 20, zA 20, zA 8, zA 8, zA 8, zA 8, zA 8, zA 8, zA 8, zA 40, zA 6, zA 5, zA 5, zA 40, zA 8, zA 20]) rfl ?_
  refine V.aldn 0 dX7_init_170 rfl rfl ?_
  refine V.bipush (nI 6) dX7_init_171 (by decide +kernel) ?_
  refine V.newi (N := 6) dX7_init_173 w_ai (by decide +kernel) (by decide +kernel) (by decide) ?_
  refine V.eqh (h' := hC45 ++ [.inl (7, [.int 0, .int 0, .ref 46, .ref 47, .ref 48, .ref 49, .ref 50, .ref 51, .ref 52, .ref 53, .ref 54, .ref 55, .ref 56, .int 0, .ref 57, .ref 58, .ref 59, .ref 60, .ref 61, .ref 62, .int 0, .ref 63, .ref 64, .ref 65, .ref 66, .null, .null, .int 0]), zA 20, zA 20, zA 20, zB 20, zA 20, zA 20, zA 20, zA 8, zA 8, zA 8, zA 8, zA 8, zA 8, zA 8, zA 40, zA 6, zA 5, zA 5, zA 40, zA 8, zA 20, zA 6]) rfl ?_
  refine V.topr (y := 67) rfl ?_
  refine V.putf dX7_init_175 (fp_X7_74 rfl rfl) rfl (Nat.le_of_ble_eq_true rfl) (fun _ => ⟨rfl, rfl⟩) ?_
  refine V.eqh (h' := hC45 ++ [.inl (7, [.int 0, .int 0, .ref 46, .ref 47, .ref 48, .ref 49, .ref 50, .ref 51, .ref 52, .ref 53, .ref 54, .ref 55, .ref 56, .int 0, .ref 57, .ref 58, .ref 59, .ref 60, .ref 61, .ref 62, .int 0, .ref 63, .ref 64, .ref 65, .ref 66, .ref 67, .null, .int 0]), zA 20, zA 20, zA 20, zB 20, zA 20, zA 20, zA 20, zA 8, zA 8, zA 8, zA 8, zA 8, zA 8, zA 8, zA 40, zA 6, zA 5, zA 5, zA 40, zA 8, zA 20, zA 6]) rfl ?_
  refine V.aldn 0 dX7_init_178 rfl rfl ?_
  refine V.bipush (nI 6) dX7_init_179 (by decide +kernel) ?_
  refine V.newi (N := 6) dX7_init_181 w_ai (by decide +kernel) (by decide +kernel) (by decide) ?_
  refine V.eqh (h' := hC45 ++ [.inl (7, [.int 0, .int 0, .ref 46, .ref 47, .ref 48, .ref 49, .ref 50, .ref 51, .ref 52, .ref 53, .ref 54, .ref 55, .ref 56, .int 0, .ref 57, .ref 58, .ref 59, .ref 60, .ref 61, .ref 62, .int 0, .ref 63, .ref 64, .ref 65, .ref 66, .ref 67, .null, .int 0]), zA 20, zA 20, zA 20, zB 20, zA 20, zA 20, zA 20, zA 8, zA 8, zA 8, zA 8, zA 8, zA 8, zA 8, zA 40, zA 6, zA 5, zA 5, zA 40, zA 8, zA 20, zA 6, zA 6]) rfl ?_
  refine V.topr (y := 68) rfl ?_
  refine V.putf dX7_init_183 (fp_X7_77 rfl rfl) rfl (Nat.le_of_ble_eq_true rfl) (fun _ => ⟨rfl, rfl⟩) ?_
  refine V.eqh (h' := hC45 ++ [.inl (7, [.int 0, .int 0, .ref 46, .ref 47, .ref 48, .ref 49, .ref 50, .ref 51, .ref 52, .ref 53, .ref 54, .ref 55, .ref 56, .int 0, .ref 57, .ref 58, .ref 59, .ref 60, .ref 61, .ref 62, .int 0, .ref 63, .ref 64, .ref 65, .ref 66, .ref 67, .ref 68, .int 0]), zA 20, zA 20, zA 20, zB 20, zA 20, zA 20, zA 20, zA 8, zA 8, zA 8, zA 8, zA 8, zA 8, zA 8, zA 40, zA 6, zA 5, zA 5, zA 40, zA 8, zA 20, zA 6, zA 6]) rfl ?_
  exact V.vreturn dX7_init_186 rfl ⟨rfl, rfl⟩
