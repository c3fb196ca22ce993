/-! the reference: may, put, take, tidy, trade -/
theorem bestO_mem {F : Nat → Nat → Int32} {n nd : Nat} {R : Nat → List Nat} {D : Nat → Option Nat} {d : Nat} {r : List Nat} (h : bestO F n nd R D d = some r) : r.length = (Pl n D d).length ∧ ∀ x, x ∈ r → x ∈ Pl n D d := by
  obtain ⟨pre, hp, hl, rfl, -⟩ := bestO_some h
  refine ⟨by rw [List.length_map]; exact hl, fun x hx => ?_⟩
  obtain ⟨i, hi, rfl⟩ := List.mem_map.mp hx
  exact getD_mem (hp.2 i hi)
section MODEL
variable {f ro rs : Nat → Nat → Int32} {rw rb : Nat → Nat} {m : Nat → Nat → Int32} {dp : Nat} {F : Nat → Nat → Int32} {n nd : Nat} {R : Nat → List Nat} {D : Nat → Option Nat}
theorem t_may_no (hM : MS F n nd R D m) {x w : Int32} (h : isIn x n = false ∨ isIn w nd = false) : Mt (dp + 13) 0 0 mX7_may [.ref 45, .int x, .int w] (HH f ro rs rw rb m) (RI (-1) (HH f ro rs rw rb m)) := by
  refine Mt.of rfl rfl (Nat.le_of_ble_eq_true rfl) rfl ?_
  have hnd := hM.1.1
  refine V.aldn 0 dX7_may_0 rfl rfl ?_
  refine V.ildn 1 dX7_may_1 rfl rfl ?_
  refine V.cVi ((t_isScene hM.2.1.1 hM.2.2.1 x : Mt (dp + 10 + 2) 0 0 _ _ _ _)) dX7_may_2 k_X7_98 rfl rfl rfl (Nat.le_of_ble_eq_true rfl) rfl ?_
  first | refine V.if_eqB 16 dX7_may_5 (by decide) (fun c5 => ?_) (fun c5 => ?_) | refine V.if_eqN 16 dX7_may_5 (by decide) (by omega) (fun c5 => ?_) (fun c5 => ?_) | refine V.if_eq 16 dX7_may_5 (by decide) (fun c5 => ?_) (fun c5 => ?_)
  · refine V.iconst (-1) dX7_may_16 (by decide +kernel) ?_
    exact V.ireturn dX7_may_17 rfl (by first | rfl | decide +kernel) (⟨rfl, rfl⟩)
  · refine V.aldn 0 dX7_may_8 rfl rfl ?_
    refine V.ildn 2 dX7_may_9 rfl rfl ?_
    refine V.cVi ((t_isDay (by omega) hM.1.2.1 w : Mt (dp + 10 + 2) 0 0 _ _ _ _)) dX7_may_10 k_X7_106 rfl rfl rfl (Nat.le_of_ble_eq_true rfl) rfl ?_
    first | refine V.if_neB 18 dX7_may_13 (by decide) (fun c13 => ?_) (fun c13 => ?_) | refine V.if_neN 18 dX7_may_13 (by decide) (by omega) (fun c13 => ?_) (fun c13 => ?_) | refine V.if_ne 18 dX7_may_13 (by decide) (fun c13 => ?_) (fun c13 => ?_)
    · rw [c5, c13] at h
      rcases h with h | h <;> cases h
    · refine V.iconst (-1) dX7_may_16 (by decide +kernel) ?_
      exact V.ireturn dX7_may_17 rfl (by first | rfl | decide +kernel) (⟨rfl, rfl⟩)
theorem t_may_state (hM : MS F n nd R D m) {s d e : Nat} (hs : s < n) (hd : d < nd) (he : D s = some e) : Mt (dp + 13) 0 0 mX7_may [.ref 45, .int (nI s), .int (nI d)] (HH f ro rs rw rb m) (RI (-3) (HH f ro rs rw rb m)) := by
  refine Mt.of rfl rfl (Nat.le_of_ble_eq_true rfl) rfl ?_
  have hnd := hM.1.1
  have hn20 := hM.2.1.1
  have hed := (hM.2.1.2.1 s e hs he).1
  refine V.aldn 0 dX7_may_0 rfl rfl ?_
  refine V.ildn 1 dX7_may_1 rfl rfl ?_
  refine V.cVi ((t_isScene hM.2.1.1 hM.2.2.1 (nI s) : Mt (dp + 10 + 2) 0 0 _ _ _ _)) dX7_may_2 k_X7_98 rfl rfl rfl (Nat.le_of_ble_eq_true rfl) rfl ?_
  first | refine V.if_eqB 16 dX7_may_5 (by decide) (fun c5 => ?_) (fun c5 => ?_) | refine V.if_eqN 16 dX7_may_5 (by decide) (by omega) (fun c5 => ?_) (fun c5 => ?_) | refine V.if_eq 16 dX7_may_5 (by decide) (fun c5 => ?_) (fun c5 => ?_)
  · rw [isIn_nI hs (by omega)] at c5
    cases c5
  · refine V.aldn 0 dX7_may_8 rfl rfl ?_
    refine V.ildn 2 dX7_may_9 rfl rfl ?_
    refine V.cVi ((t_isDay (by omega) hM.1.2.1 (nI d) : Mt (dp + 10 + 2) 0 0 _ _ _ _)) dX7_may_10 k_X7_106 rfl rfl rfl (Nat.le_of_ble_eq_true rfl) rfl ?_
    first | refine V.if_neB 18 dX7_may_13 (by decide) (fun c13 => ?_) (fun c13 => ?_) | refine V.if_neN 18 dX7_may_13 (by decide) (by omega) (fun c13 => ?_) (fun c13 => ?_) | refine V.if_ne 18 dX7_may_13 (by decide) (fun c13 => ?_) (fun c13 => ?_)
    · refine V.aldn 0 dX7_may_18 rfl rfl ?_
      refine V.gf7_8 dX7_may_19 f_X7_29 ?_
      refine V.ildn 1 dX7_may_22 rfl rfl ?_
      refine V.ald_52 dX7_may_23 (ix_nI (by omega) (by decide)) ?_
      refine V.top (y := nI e) (by rw [hM.2.2.2 s hs, he]; rfl) ?_
      refine V.iconst (-1) dX7_may_24 (by decide +kernel) ?_
      refine V.icmp_eq 31 dX7_may_25 (by decide) (fun c25 => ?_) (fun c25 => ?_)
      · exact absurd c25 (nI_m1 (by omega))
      · refine V.bipush (-3) dX7_may_28 (by decide +kernel) ?_
        exact V.ireturn dX7_may_30 rfl (by first | rfl | decide +kernel) (⟨rfl, rfl⟩)
    · rw [isIn_nI hd (by omega)] at c13
      cases c13
theorem t_may (hB : FB F) (hM : MS F n nd R D m) {s d : Nat} (hs : s < n) (hd : d < nd) (he : D s = none) : Mt (dp + 13) 0 0 mX7_may [.ref 45, .int (nI s), .int (nI d)] (HH f ro rs rw rb m) (fun r h' => ∃ m', r = some (.int (mayV F n nd R D s d)) ∧ h' = HH f ro rs rw rb m' ∧ MS F n nd R D m') := by
  refine Mt.of rfl rfl (Nat.le_of_ble_eq_true rfl) rfl ?_
  have hnd := hM.1.1
  have hn20 := hM.2.1.1
  generalize hQ : (fun (r : Option Value) (h' : List AC) => ∃ m', r = some (.int (mayV F n nd R D s d)) ∧ h' = HH f ro rs rw rb m' ∧ MS F n nd R D m') = Q
  have hz := (hM.1.2.2.2.2 d hd).1
  have hz5 := (hM.1.2.2.2.2 d hd).2.1
  refine V.aldn 0 dX7_may_0 rfl rfl ?_
  refine V.ildn 1 dX7_may_1 rfl rfl ?_
  refine V.cVi ((t_isScene hM.2.1.1 hM.2.2.1 (nI s) : Mt (dp + 10 + 2) 0 0 _ _ _ _)) dX7_may_2 k_X7_98 rfl rfl rfl (Nat.le_of_ble_eq_true rfl) rfl ?_
  first | refine V.if_eqB 16 dX7_may_5 (by decide) (fun c5 => ?_) (fun c5 => ?_) | refine V.if_eqN 16 dX7_may_5 (by decide) (by omega) (fun c5 => ?_) (fun c5 => ?_) | refine V.if_eq 16 dX7_may_5 (by decide) (fun c5 => ?_) (fun c5 => ?_)
  · rw [isIn_nI hs (by omega)] at c5
    cases c5
  · refine V.aldn 0 dX7_may_8 rfl rfl ?_
    refine V.ildn 2 dX7_may_9 rfl rfl ?_
    refine V.cVi ((t_isDay (by omega) hM.1.2.1 (nI d) : Mt (dp + 10 + 2) 0 0 _ _ _ _)) dX7_may_10 k_X7_106 rfl rfl rfl (Nat.le_of_ble_eq_true rfl) rfl ?_
    first | refine V.if_neB 18 dX7_may_13 (by decide) (fun c13 => ?_) (fun c13 => ?_) | refine V.if_neN 18 dX7_may_13 (by decide) (by omega) (fun c13 => ?_) (fun c13 => ?_) | refine V.if_ne 18 dX7_may_13 (by decide) (fun c13 => ?_) (fun c13 => ?_)
    · refine V.aldn 0 dX7_may_18 rfl rfl ?_
      refine V.gf7_8 dX7_may_19 f_X7_29 ?_
      refine V.ildn 1 dX7_may_22 rfl rfl ?_
      refine V.ald_52 dX7_may_23 (ix_nI (by omega) (by decide)) ?_
      refine V.top (y := -1) (by rw [hM.2.2.2 s hs, he]; rfl) ?_
      refine V.iconst (-1) dX7_may_24 (by decide +kernel) ?_
      refine V.icmp_eq 31 dX7_may_25 (by decide) (fun c25 => ?_) (fun c25 => ?_)
      · refine V.aldn 0 dX7_may_31 rfl rfl ?_
        refine V.gf7_16 dX7_may_32 f_X7_50 ?_
        refine V.ildn 2 dX7_may_35 rfl rfl ?_
        refine V.ald_59 dX7_may_36 (ix_nI (by omega) (by decide)) ?_
        refine V.top hz ?_
        refine V.iconst (nI 5) dX7_may_37 (by decide +kernel) ?_
        first | refine V.icmp_neN 43 dX7_may_38 (by decide) (by omega) (by omega) (fun c38 => ?_) (fun c38 => ?_) | refine V.icmp_ne 43 dX7_may_38 (by decide) (fun c38 => ?_) (fun c38 => ?_)
        · refine V.aldn 0 dX7_may_43 rfl rfl ?_
          refine V.cVe (t_keepAll (dp := dp + 11)) dX7_may_44 k_X7_140 rfl rfl rfl (Nat.le_of_ble_eq_true rfl) rfl ?_
          rintro _ _ ⟨m1, rfl, rfl, hS1, a17, a16, a8⟩
          refine V.eqs (st' := []) rfl ?_
          have hM1 : MS F n nd R D m1 := hM.back (hS1.wk (by decide)) (fun j _ => congrFun (hS1 17 (by decide)) j) (fun j _ => congrFun (hS1 16 (by decide)) j) (fun j _ => congrFun (hS1 8 (by decide)) j)
          refine V.aldn 0 dX7_may_47 rfl rfl ?_
          refine V.ildn 1 dX7_may_48 rfl rfl ?_
          refine V.ildn 2 dX7_may_49 rfl rfl ?_
          refine V.cVe (t_puts (dp := dp) hB hM1 hs he hd) dX7_may_50 k_X7_143 rfl rfl rfl (Nat.le_of_ble_eq_true rfl) rfl ?_
          rintro _ _ ⟨m2, rfl, rfl, hS2, hM2⟩
          refine V.eqs (st' := [.int (bI (putO F n nd R D s d).isSome)]) rfl ?_
          refine V.istn 3 dX7_may_53 rfl (Nat.le_of_ble_eq_true rfl) ?_
          refine V.aldn 0 dX7_may_54 rfl rfl ?_
          refine V.cVe (t_backAll (dp := dp + 11)) dX7_may_55 k_X7_146 rfl rfl rfl (Nat.le_of_ble_eq_true rfl) rfl ?_
          rintro _ _ ⟨m3, rfl, rfl, hS3, b17, b16, b8⟩
          refine V.eqs (st' := []) rfl ?_
          have hM3 : MS F n nd R D m3 := hM.back (((hS1.wk (by decide)).tr (hS2.wk (by decide))).tr (hS3.wk (by decide))) (fun j hj => by rw [b17 j hj, hS2 22 (by decide)]; exact a17 j hj) (fun j hj => by rw [b16 j hj, hS2 23 (by decide)]; exact a16 j hj) (fun j hj => by rw [b8 j hj, hS2 24 (by decide)]; exact a8 j hj)
          refine V.ildn 3 dX7_may_58 rfl rfl ?_
          first | refine V.if_eqB 66 dX7_may_59 (by decide) (fun c59 => ?_) (fun c59 => ?_) | refine V.if_eqN 66 dX7_may_59 (by decide) (by omega) (fun c59 => ?_) (fun c59 => ?_) | refine V.if_eq 66 dX7_may_59 (by decide) (fun c59 => ?_) (fun c59 => ?_)
          · refine V.iconst (nI 1) dX7_may_66 (by decide +kernel) ?_
            exact V.ireturn dX7_may_67 rfl (by first | rfl | decide +kernel) (by rw [← hQ]; exact ⟨m3, by rw [mayV, if_neg c38, if_neg (by rw [c59]; decide)], rfl, hM3⟩)
          · refine V.iconst (nI 0) dX7_may_62 (by decide +kernel) ?_
            refine V.goto 67 dX7_may_63 (by decide) ?_
            exact V.ireturn dX7_may_67 rfl (by first | rfl | decide +kernel) (by rw [← hQ]; exact ⟨m3, by rw [mayV, if_neg c38, if_pos c59], rfl, hM3⟩)
        · refine V.iconst (nI 2) dX7_may_41 (by decide +kernel) ?_
          exact V.ireturn dX7_may_42 rfl (by first | rfl | decide +kernel) (by rw [← hQ]; exact ⟨m, by rw [mayV, if_pos c38], rfl, hM⟩)
      · exact absurd rfl c25
    · rw [isIn_nI hd (by omega)] at c13
      cases c13
theorem t_put_no (hM : MS F n nd R D m) {x w : Int32} (h : isIn x n = false ∨ isIn w nd = false) : Mt (dp + 14) 0 0 mX7_put [.ref 45, .int x, .int w] (HH f ro rs rw rb m) (RI (-1) (HH f ro rs rw rb m)) := by
  refine Mt.of rfl rfl (Nat.le_of_ble_eq_true rfl) rfl ?_
  refine V.aldn 0 dX7_put_0 rfl rfl ?_
  refine V.ildn 1 dX7_put_1 rfl rfl ?_
  refine V.ildn 2 dX7_put_2 rfl rfl ?_
  refine V.cVi (t_may_no hM h) dX7_put_3 k_X7_149 rfl rfl rfl (Nat.le_of_ble_eq_true rfl) rfl ?_
  refine V.istn 3 dX7_put_6 rfl (Nat.le_of_ble_eq_true rfl) ?_
  refine V.ildn 3 dX7_put_7 rfl rfl ?_
  refine V.if_ne 24 dX7_put_8 (by decide) (fun c8 => ?_) (fun c8 => ?_)
  · refine V.iconst (nI 0) dX7_put_24 (by decide +kernel) ?_
    refine V.istore dX7_put_25 (Nat.le_of_ble_eq_true rfl) ?_
    refine V.ildn 3 dX7_put_27 rfl rfl ?_
    exact V.ireturn dX7_put_28 rfl (by first | rfl | decide +kernel) (⟨rfl, rfl⟩)
  · exact absurd c8 (by decide +kernel)
theorem t_put_state (hM : MS F n nd R D m) {s d e : Nat} (hs : s < n) (hd : d < nd) (he : D s = some e) : Mt (dp + 14) 0 0 mX7_put [.ref 45, .int (nI s), .int (nI d)] (HH f ro rs rw rb m) (RI (-3) (HH f ro rs rw rb m)) := by
  refine Mt.of rfl rfl (Nat.le_of_ble_eq_true rfl) rfl ?_
  refine V.aldn 0 dX7_put_0 rfl rfl ?_
  refine V.ildn 1 dX7_put_1 rfl rfl ?_
  refine V.ildn 2 dX7_put_2 rfl rfl ?_
  refine V.cVi (t_may_state hM hs hd he) dX7_put_3 k_X7_149 rfl rfl rfl (Nat.le_of_ble_eq_true rfl) rfl ?_
  refine V.istn 3 dX7_put_6 rfl (Nat.le_of_ble_eq_true rfl) ?_
  refine V.ildn 3 dX7_put_7 rfl rfl ?_
  refine V.if_ne 24 dX7_put_8 (by decide) (fun c8 => ?_) (fun c8 => ?_)
  · refine V.iconst (nI 0) dX7_put_24 (by decide +kernel) ?_
    refine V.istore dX7_put_25 (Nat.le_of_ble_eq_true rfl) ?_
    refine V.ildn 3 dX7_put_27 rfl rfl ?_
    exact V.ireturn dX7_put_28 rfl (by first | rfl | decide +kernel) (⟨rfl, rfl⟩)
  · exact absurd c8 (by decide +kernel)
theorem t_put (hB : FB F) (hM : MS F n nd R D m) {s d : Nat} (hs : s < n) (hd : d < nd) (he : D s = none) : Mt (dp + 14) 0 0 mX7_put [.ref 45, .int (nI s), .int (nI d)] (HH f ro rs rw rb m) (fun r h' => ∃ m', r = some (.int (mayV F n nd R D s d)) ∧ h' = HH f ro rs rw rb m' ∧ MS F n nd (putR R d (putO F n nd R D s d)) (putD D s d (putO F n nd R D s d)) m') := by
  refine Mt.of rfl rfl (Nat.le_of_ble_eq_true rfl) rfl ?_
  have e0 : mayV F n nd R D s d = 0 → (putO F n nd R D s d).isSome = true := by
    intro h
    unfold mayV at h
    split at h
    · exact absurd h (by decide +kernel)
    · split at h
      · rename_i q; exact q
      · exact absurd h (by decide +kernel)
  have e1 : ¬ mayV F n nd R D s d = 0 → (putO F n nd R D s d).isSome = false := by
    intro h
    unfold mayV at h
    split at h
    · rename_i q; unfold putO; rw [if_pos q]; rfl
    · split at h
      · exact absurd nI_0 h
      · rename_i q; simpa using q
  generalize hQ : (fun (r : Option Value) (h' : List AC) => ∃ m', r = some (.int (mayV F n nd R D s d)) ∧ h' = HH f ro rs rw rb m' ∧ MS F n nd (putR R d (putO F n nd R D s d)) (putD D s d (putO F n nd R D s d)) m') = Q
  refine V.aldn 0 dX7_put_0 rfl rfl ?_
  refine V.ildn 1 dX7_put_1 rfl rfl ?_
  refine V.ildn 2 dX7_put_2 rfl rfl ?_
  refine V.cVe (t_may (dp := dp) hB hM hs hd he) dX7_put_3 k_X7_149 rfl rfl rfl (Nat.le_of_ble_eq_true rfl) rfl ?_
  rintro _ _ ⟨m1, rfl, rfl, hM1⟩
  refine V.eqs (st' := [.int (mayV F n nd R D s d)]) rfl ?_
  refine V.istn 3 dX7_put_6 rfl (Nat.le_of_ble_eq_true rfl) ?_
  refine V.ildn 3 dX7_put_7 rfl rfl ?_
  refine V.if_ne 24 dX7_put_8 (by decide) (fun c8 => ?_) (fun c8 => ?_)
  · refine V.iconst (nI 0) dX7_put_24 (by decide +kernel) ?_
    refine V.istore dX7_put_25 (Nat.le_of_ble_eq_true rfl) ?_
    refine V.ildn 3 dX7_put_27 rfl rfl ?_
    exact V.ireturn dX7_put_28 rfl (by first | rfl | decide +kernel) (by rw [← hQ]; obtain ⟨p1, p2⟩ := putO_none (R := R) (D := D) (s := s) (d := d) (e1 c8); rw [p1, p2]; exact ⟨m1, rfl, rfl, hM1⟩)
  · refine V.aldn 0 dX7_put_11 rfl rfl ?_
    refine V.ildn 1 dX7_put_12 rfl rfl ?_
    refine V.ildn 2 dX7_put_13 rfl rfl ?_
    refine V.cVe (t_puts (dp := dp + 1) hB hM1 hs he hd) dX7_put_14 k_X7_143 rfl rfl rfl (Nat.le_of_ble_eq_true rfl) rfl ?_
    rintro _ _ ⟨m2, rfl, rfl, hS2, hM2⟩
    refine V.eqs (st' := [.int (bI (putO F n nd R D s d).isSome)]) rfl ?_
    first | refine V.if_eqB 24 dX7_put_17 (by decide) (fun c17 => ?_) (fun c17 => ?_) | refine V.if_eqN 24 dX7_put_17 (by decide) (by omega) (fun c17 => ?_) (fun c17 => ?_) | refine V.if_eq 24 dX7_put_17 (by decide) (fun c17 => ?_) (fun c17 => ?_)
    · refine V.iconst (nI 0) dX7_put_24 (by decide +kernel) ?_
      refine V.istore dX7_put_25 (Nat.le_of_ble_eq_true rfl) ?_
      refine V.ildn 3 dX7_put_27 rfl rfl ?_
      exact V.ireturn dX7_put_28 rfl (by first | rfl | decide +kernel) (by rw [← hQ]; exact ⟨m2, rfl, rfl, hM2⟩)
    · refine V.iconst (nI 1) dX7_put_20 (by decide +kernel) ?_
      refine V.goto 25 dX7_put_21 (by decide) ?_
      refine V.istore dX7_put_25 (Nat.le_of_ble_eq_true rfl) ?_
      refine V.ildn 3 dX7_put_27 rfl rfl ?_
      exact V.ireturn dX7_put_28 rfl (by first | rfl | decide +kernel) (by rw [← hQ]; exact ⟨m2, rfl, rfl, hM2⟩)
theorem t_take_no (hM : MS F n nd R D m) {x : Int32} (h : isIn x n = false) : Mt (dp + 3) 0 0 mX7_take [.ref 45, .int x] (HH f ro rs rw rb m) (RI (-1) (HH f ro rs rw rb m)) := by
  refine Mt.of rfl rfl (Nat.le_of_ble_eq_true rfl) rfl ?_
  refine V.aldn 0 dX7_take_0 rfl rfl ?_
  refine V.ildn 1 dX7_take_1 rfl rfl ?_
  refine V.cVi (t_isScene hM.2.1.1 hM.2.2.1 x) dX7_take_2 k_X7_98 rfl rfl rfl (Nat.le_of_ble_eq_true rfl) rfl ?_
  first | refine V.if_neB 10 dX7_take_5 (by decide) (fun c5 => ?_) (fun c5 => ?_) | refine V.if_neN 10 dX7_take_5 (by decide) (by omega) (fun c5 => ?_) (fun c5 => ?_) | refine V.if_ne 10 dX7_take_5 (by decide) (fun c5 => ?_) (fun c5 => ?_)
  · rw [h] at c5
    cases c5
  · refine V.iconst (-1) dX7_take_8 (by decide +kernel) ?_
    exact V.ireturn dX7_take_9 rfl (by first | rfl | decide +kernel) (⟨rfl, rfl⟩)
theorem t_take_state (hM : MS F n nd R D m) {s : Nat} (hs : s < n) (he : D s = none) : Mt (dp + 3) 0 0 mX7_take [.ref 45, .int (nI s)] (HH f ro rs rw rb m) (RI (-3) (HH f ro rs rw rb m)) := by
  refine Mt.of rfl rfl (Nat.le_of_ble_eq_true rfl) rfl ?_
  have hn20 := hM.2.1.1
  refine V.aldn 0 dX7_take_0 rfl rfl ?_
  refine V.ildn 1 dX7_take_1 rfl rfl ?_
  refine V.cVi (t_isScene hM.2.1.1 hM.2.2.1 (nI s)) dX7_take_2 k_X7_98 rfl rfl rfl (Nat.le_of_ble_eq_true rfl) rfl ?_
  first | refine V.if_neB 10 dX7_take_5 (by decide) (fun c5 => ?_) (fun c5 => ?_) | refine V.if_neN 10 dX7_take_5 (by decide) (by omega) (fun c5 => ?_) (fun c5 => ?_) | refine V.if_ne 10 dX7_take_5 (by decide) (fun c5 => ?_) (fun c5 => ?_)
  · refine V.aldn 0 dX7_take_10 rfl rfl ?_
    refine V.gf7_8 dX7_take_11 f_X7_29 ?_
    refine V.ildn 1 dX7_take_14 rfl rfl ?_
    refine V.ald_52 dX7_take_15 (ix_nI (by omega) (by decide)) ?_
    refine V.top (y := -1) (by rw [hM.2.2.2 s hs, he]; rfl) ?_
    refine V.istn 2 dX7_take_16 rfl (Nat.le_of_ble_eq_true rfl) ?_
    refine V.ildn 2 dX7_take_17 rfl rfl ?_
    refine V.iconst (-1) dX7_take_18 (by decide +kernel) ?_
    refine V.icmp_ne 25 dX7_take_19 (by decide) (fun c19 => ?_) (fun c19 => ?_)
    · exact absurd rfl c19
    · refine V.bipush (-3) dX7_take_22 (by decide +kernel) ?_
      exact V.ireturn dX7_take_24 rfl (by first | rfl | decide +kernel) (⟨rfl, rfl⟩)
  · rw [isIn_nI hs (by omega)] at c5
    cases c5
theorem t_take (hM : MS F n nd R D m) {s d : Nat} (hs : s < n) (he : D s = some d) : Mt (dp + 3) 0 0 mX7_take [.ref 45, .int (nI s)] (HH f ro rs rw rb m) (fun r h' => ∃ m', r = some (.int (nI d)) ∧ h' = HH f ro rs rw rb m' ∧ MS F n nd (upR R d ((R d).erase s)) (upD D s none) m') := by
  refine Mt.of rfl rfl (Nat.le_of_ble_eq_true rfl) rfl ?_
  have hn20 := hM.2.1.1
  have hnd := hM.1.1
  have hed := (hM.2.1.2.1 s d hs he).1
  generalize hQ : (fun (r : Option Value) (h' : List AC) => ∃ m', r = some (.int (nI d)) ∧ h' = HH f ro rs rw rb m' ∧ MS F n nd (upR R d ((R d).erase s)) (upD D s none) m') = Q
  refine V.aldn 0 dX7_take_0 rfl rfl ?_
  refine V.ildn 1 dX7_take_1 rfl rfl ?_
  refine V.cVi (t_isScene hM.2.1.1 hM.2.2.1 (nI s)) dX7_take_2 k_X7_98 rfl rfl rfl (Nat.le_of_ble_eq_true rfl) rfl ?_
  first | refine V.if_neB 10 dX7_take_5 (by decide) (fun c5 => ?_) (fun c5 => ?_) | refine V.if_neN 10 dX7_take_5 (by decide) (by omega) (fun c5 => ?_) (fun c5 => ?_) | refine V.if_ne 10 dX7_take_5 (by decide) (fun c5 => ?_) (fun c5 => ?_)
  · refine V.aldn 0 dX7_take_10 rfl rfl ?_
    refine V.gf7_8 dX7_take_11 f_X7_29 ?_
    refine V.ildn 1 dX7_take_14 rfl rfl ?_
    refine V.ald_52 dX7_take_15 (ix_nI (by omega) (by decide)) ?_
    refine V.top (y := nI d) (by rw [hM.2.2.2 s hs, he]; rfl) ?_
    refine V.istn 2 dX7_take_16 rfl (Nat.le_of_ble_eq_true rfl) ?_
    refine V.ildn 2 dX7_take_17 rfl rfl ?_
    refine V.iconst (-1) dX7_take_18 (by decide +kernel) ?_
    refine V.icmp_ne 25 dX7_take_19 (by decide) (fun c19 => ?_) (fun c19 => ?_)
    · refine V.aldn 0 dX7_take_25 rfl rfl ?_
      refine V.ildn 1 dX7_take_26 rfl rfl ?_
      refine V.cVe (t_takes (dp := dp) hM hs he) dX7_take_27 k_X7_152 rfl rfl rfl (Nat.le_of_ble_eq_true rfl) rfl ?_
      rintro _ _ ⟨m1, rfl, rfl, hS1, hM1⟩
      refine V.eqs (st' := []) rfl ?_
      refine V.ildn 2 dX7_take_30 rfl rfl ?_
      exact V.ireturn dX7_take_31 rfl (by first | rfl | decide +kernel) (by rw [← hQ]; exact ⟨m1, rfl, rfl, hM1⟩)
    · exact absurd c19 (nI_m1 (by omega))
  · rw [isIn_nI hs (by omega)] at c5
    cases c5
theorem t_tidy_no (hM : MS F n nd R D m) {x : Int32} (h : isIn x nd = false) : Mt (dp + 12) 0 0 mX7_tidy [.ref 45, .int x] (HH f ro rs rw rb m) (RI (-1) (HH f ro rs rw rb m)) := by
  refine Mt.of rfl rfl (Nat.le_of_ble_eq_true rfl) rfl ?_
  have hnd := hM.1.1
  refine V.aldn 0 dX7_tidy_0 rfl rfl ?_
  refine V.ildn 1 dX7_tidy_1 rfl rfl ?_
  refine V.cVi ((t_isDay (by omega) hM.1.2.1 x : Mt (dp + 9 + 2) 0 0 _ _ _ _)) dX7_tidy_2 k_X7_106 rfl rfl rfl (Nat.le_of_ble_eq_true rfl) rfl ?_
  first | refine V.if_neB 10 dX7_tidy_5 (by decide) (fun c5 => ?_) (fun c5 => ?_) | refine V.if_neN 10 dX7_tidy_5 (by decide) (by omega) (fun c5 => ?_) (fun c5 => ?_) | refine V.if_ne 10 dX7_tidy_5 (by decide) (fun c5 => ?_) (fun c5 => ?_)
  · rw [h] at c5
    cases c5
  · refine V.iconst (-1) dX7_tidy_8 (by decide +kernel) ?_
    exact V.ireturn dX7_tidy_9 rfl (by first | rfl | decide +kernel) (⟨rfl, rfl⟩)
theorem t_tidy (hB : FB F) (hM : MS F n nd R D m) (hK : KP F n nd R D) {d : Nat} (hd : d < nd) : Mt (dp + 12) 0 0 mX7_tidy [.ref 45, .int (nI d)] (HH f ro rs rw rb m) (fun r h' => ∃ m' q, bestO F n nd R D d = some q ∧ r = some (.int (mins F q)) ∧ h' = HH f ro rs rw rb m' ∧ MS F n nd (upR R d q) D m') := by
  refine Mt.of rfl rfl (Nat.le_of_ble_eq_true rfl) rfl ?_
  have hnd := hM.1.1
  have hn20 := hM.2.1.1
  obtain ⟨hz, hz5, hr⟩ := hM.1.2.2.2.2 d hd
  obtain ⟨q, hq⟩ := bestO_kp hM.2.1 hK hd hz5 (fun r hl hmem => by
    obtain ⟨t, ht, et⟩ := mins_bd hB hM.1.2.2.2.1 (l := r) (by omega) (fun k hk => by have := (hM.2.1.2.2.1 _ d hd (hmem _ (getD_mem hk))).1; omega)
    rw [et, e100k]
    exact nI_lt (by omega) (by decide))
  have hdr := bestO_dr hM.2.1 hd hz5 hq
  generalize hQ : (fun (r : Option Value) (h' : List AC) => ∃ m' q, bestO F n nd R D d = some q ∧ r = some (.int (mins F q)) ∧ h' = HH f ro rs rw rb m' ∧ MS F n nd (upR R d q) D m') = Q
  refine V.aldn 0 dX7_tidy_0 rfl rfl ?_
  refine V.ildn 1 dX7_tidy_1 rfl rfl ?_
  refine V.cVi ((t_isDay (by omega) hM.1.2.1 (nI d) : Mt (dp + 9 + 2) 0 0 _ _ _ _)) dX7_tidy_2 k_X7_106 rfl rfl rfl (Nat.le_of_ble_eq_true rfl) rfl ?_
  first | refine V.if_neB 10 dX7_tidy_5 (by decide) (fun c5 => ?_) (fun c5 => ?_) | refine V.if_neN 10 dX7_tidy_5 (by decide) (by omega) (fun c5 => ?_) (fun c5 => ?_) | refine V.if_ne 10 dX7_tidy_5 (by decide) (fun c5 => ?_) (fun c5 => ?_)
  · refine V.aldn 0 dX7_tidy_10 rfl rfl ?_
    refine V.ildn 1 dX7_tidy_11 rfl rfl ?_
    refine V.cVe (t_arranges (dp := dp) hB hM hd) dX7_tidy_12 k_X7_137 rfl rfl rfl (Nat.le_of_ble_eq_true rfl) rfl ?_
    rintro _ _ ⟨m1, rfl, rfl, hS1, h17, hrow⟩
    refine V.eqs (st' := [.int (bI (bestO F n nd R D d).isSome)]) rfl ?_
    have hM1 : MS F n nd (upR R d q) D m1 := ⟨⟨hnd, (congrFun (hS1 13 (by decide)) 0).trans hM.1.2.1, film_congr hS1 (isF_no (by decide)) hM.1.2.2.1, hM.1.2.2.2.1, fun a ha => by by_cases e : a = d; subst e; rw [upR_s]; exact hrow q hq; rw [upR_n e]; exact rowM_congr (congrFun (hS1 16 (by decide)) a) (fun i hi => h17 _ (by omega)) (hM.1.2.2.2.2 a ha)⟩, hdr, (congrFun (hS1 1 (by decide)) 0).trans hM.2.2.1, fun s hs => (congrFun (hS1 8 (by decide)) s).trans (hM.2.2.2 s hs)⟩
    refine V.istn 2 dX7_tidy_15 rfl (Nat.le_of_ble_eq_true rfl) ?_
    refine V.aldn 0 dX7_tidy_16 rfl rfl ?_
    refine V.ildn 1 dX7_tidy_17 rfl rfl ?_
    refine V.cVi ((t_minutesOf ⟨hM1.1.2.2.1 2 rfl, hM1.1.2.2.1 3 rfl, hM1.1.2.2.1 12 rfl⟩ hM.1.2.2.2.1 (by omega) (hrow q hq) : Mt (dp + 9 + 2) 0 0 _ _ _ _)) dX7_tidy_18 k_X7_117 rfl rfl rfl (Nat.le_of_ble_eq_true rfl) rfl ?_
    exact V.ireturn dX7_tidy_21 rfl (by first | rfl | decide +kernel) (by rw [← hQ]; exact ⟨m1, q, hq, rfl, rfl, hM1⟩)
  · rw [isIn_nI hd (by omega)] at c5
    cases c5
theorem t_trade_no (hM : MS F n nd R D m) {x w : Int32} (h : isIn x nd = false ∨ isIn w nd = false) : Mt (dp + 6) 0 0 mX7_trade [.ref 45, .int x, .int w] (HH f ro rs rw rb m) (RI (-1) (HH f ro rs rw rb m)) := by
  refine Mt.of rfl rfl (Nat.le_of_ble_eq_true rfl) rfl ?_
  have hnd := hM.1.1
  refine V.aldn 0 dX7_trade_0 rfl rfl ?_
  refine V.ildn 1 dX7_trade_1 rfl rfl ?_
  refine V.cVi ((t_isDay (by omega) hM.1.2.1 x : Mt (dp + 3 + 2) 0 0 _ _ _ _)) dX7_trade_2 k_X7_106 rfl rfl rfl (Nat.le_of_ble_eq_true rfl) rfl ?_
  first | refine V.if_eqB 16 dX7_trade_5 (by decide) (fun c5 => ?_) (fun c5 => ?_) | refine V.if_eqN 16 dX7_trade_5 (by decide) (by omega) (fun c5 => ?_) (fun c5 => ?_) | refine V.if_eq 16 dX7_trade_5 (by decide) (fun c5 => ?_) (fun c5 => ?_)
  · refine V.iconst (-1) dX7_trade_16 (by decide +kernel) ?_
    exact V.ireturn dX7_trade_17 rfl (by first | rfl | decide +kernel) (⟨rfl, rfl⟩)
  · refine V.aldn 0 dX7_trade_8 rfl rfl ?_
    refine V.ildn 2 dX7_trade_9 rfl rfl ?_
    refine V.cVi ((t_isDay (by omega) hM.1.2.1 w : Mt (dp + 3 + 2) 0 0 _ _ _ _)) dX7_trade_10 k_X7_106 rfl rfl rfl (Nat.le_of_ble_eq_true rfl) rfl ?_
    first | refine V.if_neB 18 dX7_trade_13 (by decide) (fun c13 => ?_) (fun c13 => ?_) | refine V.if_neN 18 dX7_trade_13 (by decide) (by omega) (fun c13 => ?_) (fun c13 => ?_) | refine V.if_ne 18 dX7_trade_13 (by decide) (fun c13 => ?_) (fun c13 => ?_)
    · rw [c5, c13] at h
      rcases h with h | h <;> cases h
    · refine V.iconst (-1) dX7_trade_16 (by decide +kernel) ?_
      exact V.ireturn dX7_trade_17 rfl (by first | rfl | decide +kernel) (⟨rfl, rfl⟩)
theorem t_trade_bad (hM : MS F n nd R D m) {a : Nat} (ha : a < nd) : Mt (dp + 6) 0 0 mX7_trade [.ref 45, .int (nI a), .int (nI a)] (HH f ro rs rw rb m) (RI (-2) (HH f ro rs rw rb m)) := by
  refine Mt.of rfl rfl (Nat.le_of_ble_eq_true rfl) rfl ?_
  have hnd := hM.1.1
  refine V.aldn 0 dX7_trade_0 rfl rfl ?_
  refine V.ildn 1 dX7_trade_1 rfl rfl ?_
  refine V.cVi ((t_isDay (by omega) hM.1.2.1 (nI a) : Mt (dp + 3 + 2) 0 0 _ _ _ _)) dX7_trade_2 k_X7_106 rfl rfl rfl (Nat.le_of_ble_eq_true rfl) rfl ?_
  first | refine V.if_eqB 16 dX7_trade_5 (by decide) (fun c5 => ?_) (fun c5 => ?_) | refine V.if_eqN 16 dX7_trade_5 (by decide) (by omega) (fun c5 => ?_) (fun c5 => ?_) | refine V.if_eq 16 dX7_trade_5 (by decide) (fun c5 => ?_) (fun c5 => ?_)
  · rw [isIn_nI ha (by omega)] at c5
    cases c5
  · refine V.aldn 0 dX7_trade_8 rfl rfl ?_
    refine V.ildn 2 dX7_trade_9 rfl rfl ?_
    refine V.cVi ((t_isDay (by omega) hM.1.2.1 (nI a) : Mt (dp + 3 + 2) 0 0 _ _ _ _)) dX7_trade_10 k_X7_106 rfl rfl rfl (Nat.le_of_ble_eq_true rfl) rfl ?_
    first | refine V.if_neB 18 dX7_trade_13 (by decide) (fun c13 => ?_) (fun c13 => ?_) | refine V.if_neN 18 dX7_trade_13 (by decide) (by omega) (fun c13 => ?_) (fun c13 => ?_) | refine V.if_ne 18 dX7_trade_13 (by decide) (fun c13 => ?_) (fun c13 => ?_)
    · refine V.ildn 1 dX7_trade_18 rfl rfl ?_
      refine V.ildn 2 dX7_trade_19 rfl rfl ?_
      first | refine V.icmp_neN 26 dX7_trade_20 (by decide) (by omega) (by omega) (fun c20 => ?_) (fun c20 => ?_) | refine V.icmp_ne 26 dX7_trade_20 (by decide) (fun c20 => ?_) (fun c20 => ?_)
      · exact absurd rfl c20
      · refine V.bipush (-2) dX7_trade_23 (by decide +kernel) ?_
        exact V.ireturn dX7_trade_25 rfl (by first | rfl | decide +kernel) (⟨rfl, rfl⟩)
    · rw [isIn_nI ha (by omega)] at c13
      cases c13
theorem t_trade (hM : MS F n nd R D m) {a b : Nat} (ha : a < nd) (hb : b < nd) (hab : a ≠ b) : Mt (dp + 6) 0 0 mX7_trade [.ref 45, .int (nI a), .int (nI b)] (HH f ro rs rw rb m) (fun r h' => ∃ m', h' = HH f ro rs rw rb m' ∧ ((KP F n nd (fun d => R (sw a b d)) (fun s => (D s).map (sw a b)) ∧ r = some (.int (costC F nd (fun d => R (sw a b d)))) ∧ MS F n nd (fun d => R (sw a b d)) (fun s => (D s).map (sw a b)) m') ∨ (¬ KP F n nd (fun d => R (sw a b d)) (fun s => (D s).map (sw a b)) ∧ r = some (.int (-3)) ∧ MS F n nd R D m'))) := by
  refine Mt.of rfl rfl (Nat.le_of_ble_eq_true rfl) rfl ?_
  have hnd := hM.1.1
  generalize hQ : (fun (r : Option Value) (h' : List AC) => ∃ m', h' = HH f ro rs rw rb m' ∧ ((KP F n nd (fun d => R (sw a b d)) (fun s => (D s).map (sw a b)) ∧ r = some (.int (costC F nd (fun d => R (sw a b d)))) ∧ MS F n nd (fun d => R (sw a b d)) (fun s => (D s).map (sw a b)) m') ∨ (¬ KP F n nd (fun d => R (sw a b d)) (fun s => (D s).map (sw a b)) ∧ r = some (.int (-3)) ∧ MS F n nd R D m'))) = Q
  refine V.aldn 0 dX7_trade_0 rfl rfl ?_
  refine V.ildn 1 dX7_trade_1 rfl rfl ?_
  refine V.cVi ((t_isDay (by omega) hM.1.2.1 (nI a) : Mt (dp + 3 + 2) 0 0 _ _ _ _)) dX7_trade_2 k_X7_106 rfl rfl rfl (Nat.le_of_ble_eq_true rfl) rfl ?_
  first | refine V.if_eqB 16 dX7_trade_5 (by decide) (fun c5 => ?_) (fun c5 => ?_) | refine V.if_eqN 16 dX7_trade_5 (by decide) (by omega) (fun c5 => ?_) (fun c5 => ?_) | refine V.if_eq 16 dX7_trade_5 (by decide) (fun c5 => ?_) (fun c5 => ?_)
  · rw [isIn_nI ha (by omega)] at c5
    cases c5
  · refine V.aldn 0 dX7_trade_8 rfl rfl ?_
    refine V.ildn 2 dX7_trade_9 rfl rfl ?_
    refine V.cVi ((t_isDay (by omega) hM.1.2.1 (nI b) : Mt (dp + 3 + 2) 0 0 _ _ _ _)) dX7_trade_10 k_X7_106 rfl rfl rfl (Nat.le_of_ble_eq_true rfl) rfl ?_
    first | refine V.if_neB 18 dX7_trade_13 (by decide) (fun c13 => ?_) (fun c13 => ?_) | refine V.if_neN 18 dX7_trade_13 (by decide) (by omega) (fun c13 => ?_) (fun c13 => ?_) | refine V.if_ne 18 dX7_trade_13 (by decide) (fun c13 => ?_) (fun c13 => ?_)
    · refine V.ildn 1 dX7_trade_18 rfl rfl ?_
      refine V.ildn 2 dX7_trade_19 rfl rfl ?_
      first | refine V.icmp_neN 26 dX7_trade_20 (by decide) (by omega) (by omega) (fun c20 => ?_) (fun c20 => ?_) | refine V.icmp_ne 26 dX7_trade_20 (by decide) (fun c20 => ?_) (fun c20 => ?_)
      · refine V.aldn 0 dX7_trade_26 rfl rfl ?_
        refine V.ildn 1 dX7_trade_27 rfl rfl ?_
        refine V.ildn 2 dX7_trade_28 rfl rfl ?_
        refine V.cVe (t_trades (dp := dp + 4) hM ha hb hab) dX7_trade_29 k_X7_156 rfl rfl rfl (Nat.le_of_ble_eq_true rfl) rfl ?_
        rintro _ _ ⟨m1, rfl, rfl, hS1, hM1⟩
        refine V.eqs (st' := []) rfl ?_
        refine V.aldn 0 dX7_trade_32 rfl rfl ?_
        refine V.cVi ((t_keeps hM1.1 hM1.2.1 hM1.2.2 : Mt (dp + 2 + 3) 0 0 _ _ _ _)) dX7_trade_33 k_X7_94 rfl rfl rfl (Nat.le_of_ble_eq_true rfl) rfl ?_
        first | refine V.if_eqB 44 dX7_trade_36 (by decide) (fun c36 => ?_) (fun c36 => ?_) | refine V.if_eqN 44 dX7_trade_36 (by decide) (by omega) (fun c36 => ?_) (fun c36 => ?_) | refine V.if_eq 44 dX7_trade_36 (by decide) (fun c36 => ?_) (fun c36 => ?_)
        · refine V.aldn 0 dX7_trade_44 rfl rfl ?_
          refine V.ildn 1 dX7_trade_45 rfl rfl ?_
          refine V.ildn 2 dX7_trade_46 rfl rfl ?_
          refine V.cVe (t_trades (dp := dp + 4) hM1 ha hb hab) dX7_trade_47 k_X7_156 rfl rfl rfl (Nat.le_of_ble_eq_true rfl) rfl ?_
          rintro _ _ ⟨m3, rfl, rfl, hS3, hM3⟩
          refine V.eqs (st' := []) rfl ?_
          have e1 : (fun d => R (sw a b (sw a b d))) = R := funext (fun d => by rw [sw_sw])
          have e2 : (fun s => ((D s).map (sw a b)).map (sw a b)) = D := funext (fun s => by cases D s with | none => rfl | some x => show some (sw a b (sw a b x)) = some x; rw [sw_sw])
          have hM3 : MS F n nd (fun d => R (sw a b (sw a b d))) (fun s => ((D s).map (sw a b)).map (sw a b)) m3 := hM3
          rw [e1, e2] at hM3
          refine V.bipush (-3) dX7_trade_50 (by decide +kernel) ?_
          exact V.ireturn dX7_trade_52 rfl (by first | rfl | decide +kernel) (by rw [← hQ]; exact ⟨m3, rfl, Or.inr ⟨of_dBf c36, rfl, hM3⟩⟩)
        · refine V.aldn 0 dX7_trade_39 rfl rfl ?_
          refine V.cVi ((t_costAll hM1.1 : Mt (dp + 5) 0 0 _ _ _ _)) dX7_trade_40 k_X7_160 rfl rfl rfl (Nat.le_of_ble_eq_true rfl) rfl ?_
          exact V.ireturn dX7_trade_43 rfl (by first | rfl | decide +kernel) (by rw [← hQ]; exact ⟨m1, rfl, Or.inl ⟨of_dB c36, rfl, hM1⟩⟩)
      · exact absurd c20 hab
    · rw [isIn_nI hb (by omega)] at c13
      cases c13
theorem t_rain_no (hM : MS F n nd R D m) {x : Int32} (h : isIn x nd = false) : Mt (dp + 13) 0 0 mX7_rain [.ref 45, .int x] (HH f ro rs rw rb m) (RI (-1) (HH f ro rs rw rb m)) := by
  refine Mt.of rfl rfl (Nat.le_of_ble_eq_true rfl) rfl ?_
  have hnd := hM.1.1
  refine V.aldn 0 dX7_rain_0 rfl rfl ?_
  refine V.ildn 1 dX7_rain_1 rfl rfl ?_
  refine V.cVi ((t_isDay (by omega) hM.1.2.1 x : Mt (dp + 10 + 2) 0 0 _ _ _ _)) dX7_rain_2 k_X7_106 rfl rfl rfl (Nat.le_of_ble_eq_true rfl) rfl ?_
  first | refine V.if_neB 10 dX7_rain_5 (by decide) (fun c5 => ?_) (fun c5 => ?_) | refine V.if_neN 10 dX7_rain_5 (by decide) (by omega) (fun c5 => ?_) (fun c5 => ?_) | refine V.if_ne 10 dX7_rain_5 (by decide) (fun c5 => ?_) (fun c5 => ?_)
  · rw [h] at c5
    cases c5
  · refine V.iconst (-1) dX7_rain_8 (by decide +kernel) ?_
    exact V.ireturn dX7_rain_9 rfl (by first | rfl | decide +kernel) (⟨rfl, rfl⟩)
end MODEL
