/-! the class's face: the plan's calls -/
section PAIR
variable {f ro rs : Nat → Nat → Int32} {rw rb : Nat → Nat} {m : Nat → Nat → Int32} {dp : Nat} {F : Nat → Nat → Int32} {n nd : Nat} {R : Nat → List Nat} {D : Nat → Option Nat}
theorem c_refusal_no (hP : CP F n nd R f ro rs rw) {x w : Int32} (h : isIn x n = false ∨ isIn w nd = false) : Mt (dp + 2) 0 0 mX6_refusalToJoin [.ref 0, .int x, .int w] (HH f ro rs rw rb m) (RI (-1) (HH f ro rs rw rb m)) := by
  refine Mt.of rfl rfl (Nat.le_of_ble_eq_true rfl) rfl ?_
  refine V.aldn 0 dX6_refusalToJoin_0 rfl rfl ?_
  refine V.gf6_0 dX6_refusalToJoin_1 f_X6_10 ?_
  refine V.ildn 1 dX6_refusalToJoin_4 rfl rfl ?_
  refine V.cVi ((c_hasScene hP.2.1 x : Mt (dp + 1) 0 0 _ _ _ _)) dX6_refusalToJoin_5 k_X6_78 rfl rfl rfl (Nat.le_of_ble_eq_true rfl) rfl ?_
  first | refine V.if_eqB 22 dX6_refusalToJoin_8 (by decide) (fun c8 => ?_) (fun c8 => ?_) | refine V.if_eqN 22 dX6_refusalToJoin_8 (by decide) (by omega) (fun c8 => ?_) (fun c8 => ?_) | refine V.if_eq 22 dX6_refusalToJoin_8 (by decide) (fun c8 => ?_) (fun c8 => ?_)
  · refine V.iconst (-1) dX6_refusalToJoin_22 (by decide +kernel) ?_
    exact V.ireturn dX6_refusalToJoin_23 rfl (by first | rfl | decide +kernel) (⟨rfl, rfl⟩)
  · refine V.aldn 0 dX6_refusalToJoin_11 rfl rfl ?_
    refine V.gf6_1 dX6_refusalToJoin_12 f_X6_21 ?_
    refine V.ildn 2 dX6_refusalToJoin_15 rfl rfl ?_
    refine V.cVi ((c_hasDay hP.2.2.1 w : Mt (dp + 1) 0 0 _ _ _ _)) dX6_refusalToJoin_16 k_X6_120 rfl rfl rfl (Nat.le_of_ble_eq_true rfl) rfl ?_
    first | refine V.if_neB 24 dX6_refusalToJoin_19 (by decide) (fun c19 => ?_) (fun c19 => ?_) | refine V.if_neN 24 dX6_refusalToJoin_19 (by decide) (by omega) (fun c19 => ?_) (fun c19 => ?_) | refine V.if_ne 24 dX6_refusalToJoin_19 (by decide) (fun c19 => ?_) (fun c19 => ?_)
    · rcases h with h | h
      · rw [h] at c8; cases c8
      rw [h] at c19; cases c19
    · refine V.iconst (-1) dX6_refusalToJoin_22 (by decide +kernel) ?_
      exact V.ireturn dX6_refusalToJoin_23 rfl (by first | rfl | decide +kernel) (⟨rfl, rfl⟩)
theorem c_refusal (hP : CP F n nd R f ro rs rw) (hD : DR n nd R D) {s d : Nat} (hs : s < n) (hd : d < nd) : Mt (dp + 3) 0 0 mX6_refusalToJoin [.ref 0, .int (nI s), .int (nI d)] (HH f ro rs rw rb m) (RI (if D s = none then nI 0 else -3) (HH f ro rs rw rb m)) := by
  refine Mt.of rfl rfl (Nat.le_of_ble_eq_true rfl) rfl ?_
  have hn := hP.1.1
  have hnd := hP.1.2.1
  refine V.aldn 0 dX6_refusalToJoin_0 rfl rfl ?_
  refine V.gf6_0 dX6_refusalToJoin_1 f_X6_10 ?_
  refine V.ildn 1 dX6_refusalToJoin_4 rfl rfl ?_
  refine V.cVi ((c_hasScene hP.2.1 (nI s) : Mt (dp + 1 + 1) 0 0 _ _ _ _)) dX6_refusalToJoin_5 k_X6_78 rfl rfl rfl (Nat.le_of_ble_eq_true rfl) rfl ?_
  first | refine V.if_eqB 22 dX6_refusalToJoin_8 (by decide) (fun c8 => ?_) (fun c8 => ?_) | refine V.if_eqN 22 dX6_refusalToJoin_8 (by decide) (by omega) (fun c8 => ?_) (fun c8 => ?_) | refine V.if_eq 22 dX6_refusalToJoin_8 (by decide) (fun c8 => ?_) (fun c8 => ?_)
  · rw [isIn_nI hs (by omega)] at c8; cases c8
  · refine V.aldn 0 dX6_refusalToJoin_11 rfl rfl ?_
    refine V.gf6_1 dX6_refusalToJoin_12 f_X6_21 ?_
    refine V.ildn 2 dX6_refusalToJoin_15 rfl rfl ?_
    refine V.cVi ((c_hasDay hP.2.2.1 (nI d) : Mt (dp + 1 + 1) 0 0 _ _ _ _)) dX6_refusalToJoin_16 k_X6_120 rfl rfl rfl (Nat.le_of_ble_eq_true rfl) rfl ?_
    first | refine V.if_neB 24 dX6_refusalToJoin_19 (by decide) (fun c19 => ?_) (fun c19 => ?_) | refine V.if_neN 24 dX6_refusalToJoin_19 (by decide) (by omega) (fun c19 => ?_) (fun c19 => ?_) | refine V.if_ne 24 dX6_refusalToJoin_19 (by decide) (fun c19 => ?_) (fun c19 => ?_)
    · refine V.aldn 0 dX6_refusalToJoin_24 rfl rfl ?_
      refine V.gf6_1 dX6_refusalToJoin_25 f_X6_21 ?_
      refine V.ildn 1 dX6_refusalToJoin_28 rfl rfl ?_
      refine V.cVi ((c_dayWith hP hD hs : Mt (dp + 2) 0 0 _ _ _ _)) dX6_refusalToJoin_29 k_X6_114 rfl rfl rfl (Nat.le_of_ble_eq_true rfl) rfl ?_
      refine V.iconst (-1) dX6_refusalToJoin_32 (by decide +kernel) ?_
      refine V.icmp_ne 40 dX6_refusalToJoin_33 (by decide) (fun c33 => ?_) (fun c33 => ?_)
      · refine V.bipush (-3) dX6_refusalToJoin_40 (by decide +kernel) ?_
        exact V.ireturn dX6_refusalToJoin_42 rfl (by first | rfl | decide +kernel) (⟨by rw [if_neg (fun q => c33 (by rw [q]; rfl))], rfl⟩)
      · refine V.iconst (nI 0) dX6_refusalToJoin_36 (by decide +kernel) ?_
        refine V.goto 42 dX6_refusalToJoin_37 (by decide) ?_
        exact V.ireturn dX6_refusalToJoin_42 rfl (by first | rfl | decide +kernel) (⟨by rw [if_pos ((dI_none (fun d hd => by have := (hD.2.1 s d hs hd).1; omega)).mp c33)], rfl⟩)
    · rw [isIn_nI hd (by omega)] at c19; cases c19
theorem p_may (hJ : JV F n nd R D) (hP : CP F n nd R f ro rs rw) (hM : MS F n nd R D m) (x w : Int32) : Mt 20 0 0 mX6_may [.ref 0, .int x, .int w] (HH f ro rs rw rb m) (PQ mX7_may [.int x, .int w]) := by
  refine Mt.of rfl rfl (Nat.le_of_ble_eq_true rfl) rfl ?_
  have hg := gh_of (rb := rb) hJ hP hM
  have hn := hP.1.1
  have hnd := hP.1.2.1
  by_cases h : isIn x n = true ∧ isIn w nd = true
  · obtain ⟨s, hs, rfl⟩ := (isIn_iff (by omega)).mp h.1
    obtain ⟨d, hd, rfl⟩ := (isIn_iff (by omega)).mp h.2
    cases hds : D s with
    | some e =>
      have cr := c_refusal (dp := 16) (rb := rb) (m := m) hP hJ.1.2.2.1 hs hd
      rw [hds, if_neg (by simp)] at cr
      refine V.aldn 0 dX6_may_0 rfl rfl ?_
      refine V.ildn 1 dX6_may_1 rfl rfl ?_
      refine V.ildn 2 dX6_may_2 rfl rfl ?_
      refine V.cVi (cr) dX6_may_3 k_X6_178 rfl rfl rfl (Nat.le_of_ble_eq_true rfl) rfl ?_
      refine V.istn 3 dX6_may_6 rfl (Nat.le_of_ble_eq_true rfl) ?_
      refine V.ildn 3 dX6_may_7 rfl rfl ?_
      refine V.if_eq 15 dX6_may_8 (by decide) (fun c8 => ?_) (fun c8 => ?_)
      · exact absurd c8 (by decide +kernel)
      · refine V.ildn 3 dX6_may_11 rfl rfl ?_
        refine V.goto 24 dX6_may_12 (by decide) ?_
        exact V.ireturn dX6_may_24 rfl (by first | rfl | decide +kernel) (PQ.ri (t_may_state (dp := 7) hM hs hd hds) hg)
    | none =>
      have cr := c_refusal (dp := 16) (rb := rb) (m := m) hP hJ.1.2.2.1 hs hd
      rw [hds, if_pos rfl] at cr
      refine V.aldn 0 dX6_may_0 rfl rfl ?_
      refine V.ildn 1 dX6_may_1 rfl rfl ?_
      refine V.ildn 2 dX6_may_2 rfl rfl ?_
      refine V.cVi (cr) dX6_may_3 k_X6_178 rfl rfl rfl (Nat.le_of_ble_eq_true rfl) rfl ?_
      refine V.istn 3 dX6_may_6 rfl (Nat.le_of_ble_eq_true rfl) ?_
      refine V.ildn 3 dX6_may_7 rfl rfl ?_
      first | refine V.if_eqB 15 dX6_may_8 (by decide) (fun c8 => ?_) (fun c8 => ?_) | refine V.if_eqN 15 dX6_may_8 (by decide) (by omega) (fun c8 => ?_) (fun c8 => ?_) | refine V.if_eq 15 dX6_may_8 (by decide) (fun c8 => ?_) (fun c8 => ?_)
      · refine V.aldn 0 dX6_may_15 rfl rfl ?_
        refine V.gf6_3 dX6_may_16 f_X6_39 ?_
        refine V.ildn 1 dX6_may_19 rfl rfl ?_
        refine V.ildn 2 dX6_may_20 rfl rfl ?_
        refine V.cVe (c_couldJoin (dp := 4) hJ.1 hP hs hds hd) dX6_may_21 k_X6_181 rfl rfl rfl (Nat.le_of_ble_eq_true rfl) rfl ?_
        rintro _ _ ⟨f2, ro2, rs2, rfl, rfl, g1, g2⟩
        refine V.eqs (st' := [.int (mayV F n nd R D s d)]) rfl ?_
        exact V.ireturn dX6_may_24 rfl (by first | rfl | decide +kernel) (⟨_, rfl, ⟨_, rfl⟩, (t_may (dp := 7) hJ.1.1.2.2.1 hM hs hd hds).weaken (fun q h'' ⟨m', q1, q2, q3⟩ => ⟨q1, F, n, nd, R, D, _, _, _, _, _, m', q2, hJ, g2, q3⟩)⟩)
      · exact absurd rfl c8
  · have h' : isIn x n = false ∨ isIn w nd = false := by
      cases h1 : isIn x n with
      | false => exact Or.inl rfl
      | true => cases h2 : isIn w nd with
        | false => exact Or.inr rfl
        | true => exact absurd ⟨h1, h2⟩ h
    refine V.aldn 0 dX6_may_0 rfl rfl ?_
    refine V.ildn 1 dX6_may_1 rfl rfl ?_
    refine V.ildn 2 dX6_may_2 rfl rfl ?_
    refine V.cVi ((c_refusal_no hP h' : Mt (17 + 2) 0 0 _ _ _ _)) dX6_may_3 k_X6_178 rfl rfl rfl (Nat.le_of_ble_eq_true rfl) rfl ?_
    refine V.istn 3 dX6_may_6 rfl (Nat.le_of_ble_eq_true rfl) ?_
    refine V.ildn 3 dX6_may_7 rfl rfl ?_
    refine V.if_eq 15 dX6_may_8 (by decide) (fun c8 => ?_) (fun c8 => ?_)
    · exact absurd c8 (by decide +kernel)
    · refine V.ildn 3 dX6_may_11 rfl rfl ?_
      refine V.goto 24 dX6_may_12 (by decide) ?_
      exact V.ireturn dX6_may_24 rfl (by first | rfl | decide +kernel) (PQ.ri (t_may_no (dp := 7) hM h') hg)
theorem p_put (hJ : JV F n nd R D) (hP : CP F n nd R f ro rs rw) (hM : MS F n nd R D m) (x w : Int32) : Mt 20 0 0 mX6_put [.ref 0, .int x, .int w] (HH f ro rs rw rb m) (PQ mX7_put [.int x, .int w]) := by
  refine Mt.of rfl rfl (Nat.le_of_ble_eq_true rfl) rfl ?_
  have hg := gh_of (rb := rb) hJ hP hM
  have hn := hP.1.1
  have hnd := hP.1.2.1
  by_cases h : isIn x n = true ∧ isIn w nd = true
  · obtain ⟨s, hs, rfl⟩ := (isIn_iff (by omega)).mp h.1
    obtain ⟨d, hd, rfl⟩ := (isIn_iff (by omega)).mp h.2
    cases hds : D s with
    | some e =>
      have cr := c_refusal (dp := 16) (rb := rb) (m := m) hP hJ.1.2.2.1 hs hd
      rw [hds, if_neg (by simp)] at cr
      refine V.aldn 0 dX6_put_0 rfl rfl ?_
      refine V.ildn 1 dX6_put_1 rfl rfl ?_
      refine V.ildn 2 dX6_put_2 rfl rfl ?_
      refine V.cVi (cr) dX6_put_3 k_X6_178 rfl rfl rfl (Nat.le_of_ble_eq_true rfl) rfl ?_
      refine V.istn 3 dX6_put_6 rfl (Nat.le_of_ble_eq_true rfl) ?_
      refine V.ildn 3 dX6_put_7 rfl rfl ?_
      refine V.if_eq 15 dX6_put_8 (by decide) (fun c8 => ?_) (fun c8 => ?_)
      · exact absurd c8 (by decide +kernel)
      · refine V.ildn 3 dX6_put_11 rfl rfl ?_
        refine V.goto 24 dX6_put_12 (by decide) ?_
        exact V.ireturn dX6_put_24 rfl (by first | rfl | decide +kernel) (PQ.ri (t_put_state (dp := 6) hM hs hd hds) hg)
    | none =>
      have cr := c_refusal (dp := 16) (rb := rb) (m := m) hP hJ.1.2.2.1 hs hd
      rw [hds, if_pos rfl] at cr
      have h8 : ∀ e, e < 8 → rw e ≠ rw 8 := fun e he z => by have := hP.2.2.2.2.1.2 e 8 (by omega) (by omega) z; omega
      refine V.aldn 0 dX6_put_0 rfl rfl ?_
      refine V.ildn 1 dX6_put_1 rfl rfl ?_
      refine V.ildn 2 dX6_put_2 rfl rfl ?_
      refine V.cVi (cr) dX6_put_3 k_X6_178 rfl rfl rfl (Nat.le_of_ble_eq_true rfl) rfl ?_
      refine V.istn 3 dX6_put_6 rfl (Nat.le_of_ble_eq_true rfl) ?_
      refine V.ildn 3 dX6_put_7 rfl rfl ?_
      first | refine V.if_eqB 15 dX6_put_8 (by decide) (fun c8 => ?_) (fun c8 => ?_) | refine V.if_eqN 15 dX6_put_8 (by decide) (by omega) (fun c8 => ?_) (fun c8 => ?_) | refine V.if_eq 15 dX6_put_8 (by decide) (fun c8 => ?_) (fun c8 => ?_)
      · refine V.aldn 0 dX6_put_15 rfl rfl ?_
        refine V.gf6_3 dX6_put_16 f_X6_39 ?_
        refine V.ildn 1 dX6_put_19 rfl rfl ?_
        refine V.ildn 2 dX6_put_20 rfl rfl ?_
        refine V.cVe (c_join (dp := 5) hJ.1 hP hs hds hd) dX6_put_21 k_X6_184 rfl rfl rfl (Nat.le_of_ble_eq_true rfl) rfl ?_
        rintro _ _ ⟨f2, ro2, rs2, rfl, g1, g2, g3⟩
        refine V.eqs (st' := [.int (mayV F n nd R D s d)]) rfl ?_
        refine V.ireturn dX6_put_24 rfl (by first | rfl | decide +kernel) ?_
        rcases g3 with ⟨r, q1, q2, rfl⟩ | ⟨q1, rfl⟩
        · refine ⟨_, rfl, ⟨_, rfl⟩, (t_put (dp := 6) hJ.1.1.2.2.1 hM hs hd hds).weaken (fun q h'' ⟨m', z1, z2, z3⟩ => ?_)⟩; rw [q1] at z3; exact ⟨z1, F, n, nd, upR R d r, upD D s (some d), _, _, _, _, _, m', z2, hJ.put hs hds hd q1, hP.put (g1.wk (by simp)) (by omega) (by omega) (by omega) g2 q2, z3⟩
        · refine ⟨_, rfl, ⟨_, rfl⟩, (t_put (dp := 6) hJ.1.1.2.2.1 hM hs hd hds).weaken (fun q h'' ⟨m', z1, z2, z3⟩ => ?_)⟩; rw [q1] at z3; exact ⟨z1, F, n, nd, R, D, _, _, _, _, _, m', z2, hJ, hP.same (g1.wk (by simp)) (fun e he => g2 _ (h8 e he)), z3⟩
      · exact absurd rfl c8
  · have h' : isIn x n = false ∨ isIn w nd = false := by
      cases h1 : isIn x n with
      | false => exact Or.inl rfl
      | true => cases h2 : isIn w nd with
        | false => exact Or.inr rfl
        | true => exact absurd ⟨h1, h2⟩ h
    refine V.aldn 0 dX6_put_0 rfl rfl ?_
    refine V.ildn 1 dX6_put_1 rfl rfl ?_
    refine V.ildn 2 dX6_put_2 rfl rfl ?_
    refine V.cVi ((c_refusal_no hP h' : Mt (17 + 2) 0 0 _ _ _ _)) dX6_put_3 k_X6_178 rfl rfl rfl (Nat.le_of_ble_eq_true rfl) rfl ?_
    refine V.istn 3 dX6_put_6 rfl (Nat.le_of_ble_eq_true rfl) ?_
    refine V.ildn 3 dX6_put_7 rfl rfl ?_
    refine V.if_eq 15 dX6_put_8 (by decide) (fun c8 => ?_) (fun c8 => ?_)
    · exact absurd c8 (by decide +kernel)
    · refine V.ildn 3 dX6_put_11 rfl rfl ?_
      refine V.goto 24 dX6_put_12 (by decide) ?_
      exact V.ireturn dX6_put_24 rfl (by first | rfl | decide +kernel) (PQ.ri (t_put_no (dp := 6) hM h') hg)
theorem p_take (hJ : JV F n nd R D) (hP : CP F n nd R f ro rs rw) (hM : MS F n nd R D m) (x : Int32) : Mt 20 0 0 mX6_take [.ref 0, .int x] (HH f ro rs rw rb m) (PQ mX7_take [.int x]) := by
  refine Mt.of rfl rfl (Nat.le_of_ble_eq_true rfl) rfl ?_
  have hg := gh_of (rb := rb) hJ hP hM
  have hn := hP.1.1
  have hnd := hP.1.2.1
  have hD := hJ.1.2.2.1
  cases h : isIn x n with
  | false =>
    refine V.aldn 0 dX6_take_0 rfl rfl ?_
    refine V.gf6_0 dX6_take_1 f_X6_10 ?_
    refine V.ildn 1 dX6_take_4 rfl rfl ?_
    refine V.cVi ((c_hasScene hP.2.1 x : Mt (18 + 1) 0 0 _ _ _ _)) dX6_take_5 k_X6_78 rfl rfl rfl (Nat.le_of_ble_eq_true rfl) rfl ?_
    first | refine V.if_neB 13 dX6_take_8 (by decide) (fun c8 => ?_) (fun c8 => ?_) | refine V.if_neN 13 dX6_take_8 (by decide) (by omega) (fun c8 => ?_) (fun c8 => ?_) | refine V.if_ne 13 dX6_take_8 (by decide) (fun c8 => ?_) (fun c8 => ?_)
    · rw [h] at c8; cases c8
    · refine V.iconst (-1) dX6_take_11 (by decide +kernel) ?_
      exact V.ireturn dX6_take_12 rfl (by first | rfl | decide +kernel) (PQ.ri (t_take_no (dp := 17) hM h) hg)
  | true =>
    obtain ⟨s, hs, rfl⟩ := (isIn_iff (by omega)).mp h
    have dw := c_dayWith (dp := 17) (rb := rb) (m := m) hP hD hs
    cases hds : D s with
    | none =>
      rw [hds] at dw
      refine V.aldn 0 dX6_take_0 rfl rfl ?_
      refine V.gf6_0 dX6_take_1 f_X6_10 ?_
      refine V.ildn 1 dX6_take_4 rfl rfl ?_
      refine V.cVi ((c_hasScene hP.2.1 (nI s) : Mt (18 + 1) 0 0 _ _ _ _)) dX6_take_5 k_X6_78 rfl rfl rfl (Nat.le_of_ble_eq_true rfl) rfl ?_
      first | refine V.if_neB 13 dX6_take_8 (by decide) (fun c8 => ?_) (fun c8 => ?_) | refine V.if_neN 13 dX6_take_8 (by decide) (by omega) (fun c8 => ?_) (fun c8 => ?_) | refine V.if_ne 13 dX6_take_8 (by decide) (fun c8 => ?_) (fun c8 => ?_)
      · refine V.aldn 0 dX6_take_13 rfl rfl ?_
        refine V.gf6_1 dX6_take_14 f_X6_21 ?_
        refine V.ildn 1 dX6_take_17 rfl rfl ?_
        refine V.cVi (dw) dX6_take_18 k_X6_114 rfl rfl rfl (Nat.le_of_ble_eq_true rfl) rfl ?_
        refine V.istn 2 dX6_take_21 rfl (Nat.le_of_ble_eq_true rfl) ?_
        refine V.ildn 2 dX6_take_22 rfl rfl ?_
        refine V.iconst (-1) dX6_take_23 (by decide +kernel) ?_
        refine V.icmp_ne 30 dX6_take_24 (by decide) (fun c24 => ?_) (fun c24 => ?_)
        · exact absurd rfl c24
        · refine V.bipush (-3) dX6_take_27 (by decide +kernel) ?_
          exact V.ireturn dX6_take_29 rfl (by first | rfl | decide +kernel) (PQ.ri (t_take_state (dp := 17) hM hs hds) hg)
      · rw [h] at c8; cases c8
    | some d =>
      rw [hds] at dw
      have hd := (hD.2.1 s d hs hds).1
      refine V.aldn 0 dX6_take_0 rfl rfl ?_
      refine V.gf6_0 dX6_take_1 f_X6_10 ?_
      refine V.ildn 1 dX6_take_4 rfl rfl ?_
      refine V.cVi ((c_hasScene hP.2.1 (nI s) : Mt (18 + 1) 0 0 _ _ _ _)) dX6_take_5 k_X6_78 rfl rfl rfl (Nat.le_of_ble_eq_true rfl) rfl ?_
      first | refine V.if_neB 13 dX6_take_8 (by decide) (fun c8 => ?_) (fun c8 => ?_) | refine V.if_neN 13 dX6_take_8 (by decide) (by omega) (fun c8 => ?_) (fun c8 => ?_) | refine V.if_ne 13 dX6_take_8 (by decide) (fun c8 => ?_) (fun c8 => ?_)
      · refine V.aldn 0 dX6_take_13 rfl rfl ?_
        refine V.gf6_1 dX6_take_14 f_X6_21 ?_
        refine V.ildn 1 dX6_take_17 rfl rfl ?_
        refine V.cVi (dw) dX6_take_18 k_X6_114 rfl rfl rfl (Nat.le_of_ble_eq_true rfl) rfl ?_
        refine V.istn 2 dX6_take_21 rfl (Nat.le_of_ble_eq_true rfl) ?_
        refine V.ildn 2 dX6_take_22 rfl rfl ?_
        refine V.iconst (-1) dX6_take_23 (by decide +kernel) ?_
        refine V.icmp_ne 30 dX6_take_24 (by decide) (fun c24 => ?_) (fun c24 => ?_)
        · refine V.aldn 0 dX6_take_30 rfl rfl ?_
          refine V.gf6_3 dX6_take_31 f_X6_39 ?_
          refine V.ildn 1 dX6_take_34 rfl rfl ?_
          refine V.ildn 2 dX6_take_35 rfl rfl ?_
          refine V.cVe (c_leave (dp := 16) hJ.1.1.2.2.1 hJ.1.1.2.2.2.1 hD hP hs hd) dX6_take_36 k_X6_187 rfl rfl rfl (Nat.le_of_ble_eq_true rfl) rfl ?_
          rintro _ _ ⟨ro1, rs1, rfl, rfl, b1, b2⟩
          refine V.eqs (st' := []) rfl ?_
          refine V.ildn 2 dX6_take_39 rfl rfl ?_
          exact V.ireturn dX6_take_40 rfl (by first | rfl | decide +kernel) (⟨nI d, rfl, ⟨_, rfl⟩, (t_take (dp := 17) hM hs hds).weaken (fun q h'' ⟨m', z1, z2, z3⟩ => ⟨z1, F, n, nd, upR R d ((R d).erase s), upD D s none, _, _, _, _, _, m', z2, hJ.take hs hds, hP.put Sm.rf (by omega) (by omega) (by omega) b1 b2, z3⟩)⟩)
        · exact absurd c24 (nI_m1 (by omega))
      · rw [h] at c8; cases c8
theorem p_tidy (hJ : JV F n nd R D) (hP : CP F n nd R f ro rs rw) (hM : MS F n nd R D m) (x : Int32) : Mt 20 0 0 mX6_tidy [.ref 0, .int x] (HH f ro rs rw rb m) (PQ mX7_tidy [.int x]) := by
  refine Mt.of rfl rfl (Nat.le_of_ble_eq_true rfl) rfl ?_
  have hg := gh_of (rb := rb) hJ hP hM
  have hnd := hP.1.2.1
  cases h : isIn x nd with
  | false =>
    refine V.aldn 0 dX6_tidy_0 rfl rfl ?_
    refine V.gf6_1 dX6_tidy_1 f_X6_21 ?_
    refine V.ildn 1 dX6_tidy_4 rfl rfl ?_
    refine V.cVi ((c_hasDay hP.2.2.1 x : Mt (18 + 1) 0 0 _ _ _ _)) dX6_tidy_5 k_X6_120 rfl rfl rfl (Nat.le_of_ble_eq_true rfl) rfl ?_
    first | refine V.if_neB 13 dX6_tidy_8 (by decide) (fun c8 => ?_) (fun c8 => ?_) | refine V.if_neN 13 dX6_tidy_8 (by decide) (by omega) (fun c8 => ?_) (fun c8 => ?_) | refine V.if_ne 13 dX6_tidy_8 (by decide) (fun c8 => ?_) (fun c8 => ?_)
    · rw [h] at c8; cases c8
    · refine V.iconst (-1) dX6_tidy_11 (by decide +kernel) ?_
      exact V.ireturn dX6_tidy_12 rfl (by first | rfl | decide +kernel) (PQ.ri (t_tidy_no (dp := 8) hM h) hg)
  | true =>
    obtain ⟨d, hd, rfl⟩ := (isIn_iff (by omega)).mp h
    refine V.aldn 0 dX6_tidy_0 rfl rfl ?_
    refine V.gf6_1 dX6_tidy_1 f_X6_21 ?_
    refine V.ildn 1 dX6_tidy_4 rfl rfl ?_
    refine V.cVi ((c_hasDay hP.2.2.1 (nI d) : Mt (18 + 1) 0 0 _ _ _ _)) dX6_tidy_5 k_X6_120 rfl rfl rfl (Nat.le_of_ble_eq_true rfl) rfl ?_
    first | refine V.if_neB 13 dX6_tidy_8 (by decide) (fun c8 => ?_) (fun c8 => ?_) | refine V.if_neN 13 dX6_tidy_8 (by decide) (by omega) (fun c8 => ?_) (fun c8 => ?_) | refine V.if_ne 13 dX6_tidy_8 (by decide) (fun c8 => ?_) (fun c8 => ?_)
    · refine V.aldn 0 dX6_tidy_13 rfl rfl ?_
      refine V.gf6_3 dX6_tidy_14 f_X6_39 ?_
      refine V.ildn 1 dX6_tidy_17 rfl rfl ?_
      refine V.cVe (c_arrangeDay (dp := 5) hJ.1 hJ.2.2.1 hP hd) dX6_tidy_18 k_X6_191 rfl rfl rfl (Nat.le_of_ble_eq_true rfl) rfl ?_
      rintro _ _ ⟨f2, ro2, rs2, r, rfl, rfl, g1, g2, g3⟩
      refine V.eqs (st' := []) rfl ?_
      have hk := g3.2.2.2.2.1.1 d (by omega)
      have hm4 : ro2 (rw (sw d 8 d)) 4 = mins F r := by { have := (g3.2.2.2.2.2 d (by omega)).2.1.2.2.1; rw [upR_s] at this; exact this }
      obtain ⟨pre, -, -, -, hK'⟩ := bestO_some g2
      refine V.aldn 0 dX6_tidy_21 rfl rfl ?_
      refine V.gf6_1 dX6_tidy_22 f_X6_21 ?_
      refine V.gf3_1 dX6_tidy_25 f_X6_123 ?_
      refine V.ildn 1 dX6_tidy_28 rfl rfl ?_
      refine V.ald_13 dX6_tidy_29 (ix_nI (by omega) (by decide)) ?_
      refine V.gf5_4 dX6_tidy_30 f_X6_136 hk ?_
      refine V.top hm4 ?_
      exact V.ireturn dX6_tidy_33 rfl (by first | rfl | decide +kernel) (⟨mins F r, rfl, ⟨_, rfl⟩, (t_tidy (dp := 8) hJ.1.1.2.2.1 hM hJ.2.2.1 hd).weaken (fun q h'' ⟨m', r', z0, z1, z2, z3⟩ => by rw [g2] at z0; cases z0; exact ⟨z1, F, n, nd, upR R d r, D, _, _, _, _, _, m', z2, ⟨hJ.1.best hd g2, hJ.2.1, hK', fun e he => by rw [upR_n (by omega)]; exact hJ.2.2.2 e he⟩, g3, z3⟩)⟩)
    · rw [h] at c8; cases c8
theorem p_trade (hJ : JV F n nd R D) (hP : CP F n nd R f ro rs rw) (hM : MS F n nd R D m) (x w : Int32) : Mt 20 0 0 mX6_trade [.ref 0, .int x, .int w] (HH f ro rs rw rb m) (PQ mX7_trade [.int x, .int w]) := by
  refine Mt.of rfl rfl (Nat.le_of_ble_eq_true rfl) rfl ?_
  have hg := gh_of (rb := rb) hJ hP hM
  have hnd := hP.1.2.1
  have h12 := hP.2.2.1
  have hw := hP.2.2.2.2.1
  have go : isIn x nd = true → isIn w nd = true → V mX6_trade 20 0 0 24 [some (.ref 0), some (.int x), some (.int w)] [] (HH f ro rs rw rb m) (PQ mX7_trade [.int x, .int w]) := by
    intro i1 i2
    obtain ⟨a, ha, rfl⟩ := (isIn_iff (by omega)).mp i1
    obtain ⟨b, hb, rfl⟩ := (isIn_iff (by omega)).mp i2
    have hG2 := hJ.1.swp ha hb
    have hP2 := hP.swp (a := a) (b := b) (by omega) (by omega)
    refine V.ildn 1 dX6_trade_24 rfl rfl ?_
    refine V.ildn 2 dX6_trade_25 rfl rfl ?_
    first | refine V.icmp_neN 32 dX6_trade_26 (by decide) (by omega) (by omega) (fun c26 => ?_) (fun c26 => ?_) | refine V.icmp_ne 32 dX6_trade_26 (by decide) (fun c26 => ?_) (fun c26 => ?_)
    · refine V.aldn 0 dX6_trade_32 rfl rfl ?_
      refine V.gf6_1 dX6_trade_33 f_X6_21 ?_
      refine V.ildn 1 dX6_trade_36 rfl rfl ?_
      refine V.ildn 2 dX6_trade_37 rfl rfl ?_
      refine V.cVv ((c_exchange hw (by omega) (by omega) : Mt (18 + 1) 0 0 _ _ _ _)) dX6_trade_38 k_X6_195 rfl rfl rfl (Nat.le_of_ble_eq_true rfl) rfl ?_
      refine V.aldn 0 dX6_trade_41 rfl rfl ?_
      refine V.gf6_1 dX6_trade_42 f_X6_21 ?_
      refine V.cVi ((c_keeps hJ.1.1 hG2.2.2.1 hP2 : Mt (17 + 2) 0 0 _ _ _ _)) dX6_trade_45 k_X6_74 rfl rfl rfl (Nat.le_of_ble_eq_true rfl) rfl ?_
      first | refine V.if_eqB 59 dX6_trade_48 (by decide) (fun c48 => ?_) (fun c48 => ?_) | refine V.if_eqN 59 dX6_trade_48 (by decide) (by omega) (fun c48 => ?_) (fun c48 => ?_) | refine V.if_eq 59 dX6_trade_48 (by decide) (fun c48 => ?_) (fun c48 => ?_)
      · refine V.aldn 0 dX6_trade_59 rfl rfl ?_
        refine V.gf6_1 dX6_trade_60 f_X6_21 ?_
        refine V.ildn 1 dX6_trade_63 rfl rfl ?_
        refine V.ildn 2 dX6_trade_64 rfl rfl ?_
        refine V.cVv ((c_exchange (hw.swp (by omega) (by omega)) (by omega) (by omega) : Mt (18 + 1) 0 0 _ _ _ _)) dX6_trade_65 k_X6_195 rfl rfl rfl (Nat.le_of_ble_eq_true rfl) rfl ?_
        rw [sw_back]
        refine V.bipush (-3) dX6_trade_68 (by decide +kernel) ?_
        exact V.ireturn dX6_trade_70 rfl (by first | rfl | decide +kernel) (⟨-3, rfl, ⟨_, rfl⟩, (t_trade (dp := 14) hM ha hb c26).weaken (fun q h'' ⟨m', z0, z⟩ => by rcases z with ⟨z1, z2, z3⟩ | ⟨z1, z2, z3⟩; exact absurd z1 (of_dBf c48); exact ⟨z2, F, n, nd, R, D, _, _, _, _, _, m', z0, hJ, hP, z3⟩)⟩)
      · refine V.aldn 0 dX6_trade_51 rfl rfl ?_
        refine V.gf6_2 dX6_trade_52 f_X6_30 ?_
        refine V.cVi ((c_total hP2 hJ.1.1.2.2.2.2 : Mt (14 + 5) 0 0 _ _ _ _)) dX6_trade_55 k_X6_163 rfl rfl rfl (Nat.le_of_ble_eq_true rfl) rfl ?_
        exact V.ireturn dX6_trade_58 rfl (by first | rfl | decide +kernel) (⟨_, rfl, ⟨_, rfl⟩, (t_trade (dp := 14) hM ha hb c26).weaken (fun q h'' ⟨m', z0, z⟩ => by rcases z with ⟨z1, z2, z3⟩ | ⟨z1, z2, z3⟩; exact ⟨z2, F, n, nd, _, _, _, _, _, _, _, m', z0, ⟨hG2, hJ.2.1, z1, fun e he => by show R (sw a b e) = []; rw [sw_n (by omega) (by omega)]; exact hJ.2.2.2 e he⟩, hP2, z3⟩; exact absurd (of_dB c48) z1)⟩)
    · subst c26
      refine V.bipush (-2) dX6_trade_29 (by decide +kernel) ?_
      exact V.ireturn dX6_trade_31 rfl (by first | rfl | decide +kernel) (PQ.ri (t_trade_bad (dp := 14) hM ha) hg)
  refine V.aldn 0 dX6_trade_0 rfl rfl ?_
  refine V.gf6_1 dX6_trade_1 f_X6_21 ?_
  refine V.ildn 1 dX6_trade_4 rfl rfl ?_
  refine V.cVi ((c_hasDay h12 x : Mt (18 + 1) 0 0 _ _ _ _)) dX6_trade_5 k_X6_120 rfl rfl rfl (Nat.le_of_ble_eq_true rfl) rfl ?_
  first | refine V.if_eqB 22 dX6_trade_8 (by decide) (fun c8 => ?_) (fun c8 => ?_) | refine V.if_eqN 22 dX6_trade_8 (by decide) (by omega) (fun c8 => ?_) (fun c8 => ?_) | refine V.if_eq 22 dX6_trade_8 (by decide) (fun c8 => ?_) (fun c8 => ?_)
  · refine V.iconst (-1) dX6_trade_22 (by decide +kernel) ?_
    exact V.ireturn dX6_trade_23 rfl (by first | rfl | decide +kernel) (PQ.ri (t_trade_no (dp := 14) hM (Or.inl c8)) hg)
  · refine V.aldn 0 dX6_trade_11 rfl rfl ?_
    refine V.gf6_1 dX6_trade_12 f_X6_21 ?_
    refine V.ildn 2 dX6_trade_15 rfl rfl ?_
    refine V.cVi ((c_hasDay h12 w : Mt (18 + 1) 0 0 _ _ _ _)) dX6_trade_16 k_X6_120 rfl rfl rfl (Nat.le_of_ble_eq_true rfl) rfl ?_
    first | refine V.if_neB 24 dX6_trade_19 (by decide) (fun c19 => ?_) (fun c19 => ?_) | refine V.if_neN 24 dX6_trade_19 (by decide) (by omega) (fun c19 => ?_) (fun c19 => ?_) | refine V.if_ne 24 dX6_trade_19 (by decide) (fun c19 => ?_) (fun c19 => ?_)
    · exact go c8 c19
    · refine V.iconst (-1) dX6_trade_22 (by decide +kernel) ?_
      exact V.ireturn dX6_trade_23 rfl (by first | rfl | decide +kernel) (PQ.ri (t_trade_no (dp := 14) hM (Or.inr c19)) hg)
theorem p_better (hJ : JV F n nd R D) (hP : CP F n nd R f ro rs rw) (hM : MS F n nd R D m) : Mt 20 0 0 mX6_better [.ref 0] (HH f ro rs rw rb m) (PQ mX7_better []) := by
  refine (c_better (dp := 3) hJ.1 hP).weaken ?_
  rintro _ _ ⟨f2, ro2, rs2, rw2, c, R', D', rfl, rfl, g1, g2, g3, g4⟩
  refine ⟨nI c, rfl, ⟨_, rfl⟩, (t_better (dp := 5) hJ.1.1.2.2.1 hM).weaken ?_⟩
  rintro _ _ ⟨m', c', R2, D2, rfl, rfl, z1, z2⟩
  obtain ⟨rfl, rfl, rfl⟩ := g2.det z1
  exact ⟨rfl, F, n, nd, R', D', _, _, _, _, _, m', rfl, hJ.bit g2, g4, z2⟩
theorem p_order (hJ : JV F n nd R D) (hP : CP F n nd R f ro rs rw) (hM : MS F n nd R D m) : Mt 20 0 0 mX6_order [.ref 0] (HH f ro rs rw rb m) (PQ mX7_order []) := by
  refine Mt.of rfl rfl (Nat.le_of_ble_eq_true rfl) rfl ?_
  have hg := gh_of (rb := rb) hJ hP hM
  have hnd := hP.1.2.1
  have h12 := hP.2.2.1
  refine V.aldn 0 dX6_order_0 rfl rfl ?_
  refine V.gf6_1 dX6_order_1 f_X6_21 ?_
  refine V.gf3_4 dX6_order_4 f_X6_204 ?_
  refine V.top h12 ?_
  refine V.bipush (nI 6) dX6_order_7 (by decide +kernel) ?_
  first | refine V.icmp_gtN 22 dX6_order_9 (by decide) (by omega) (by omega) (fun c9 => ?_) (fun c9 => ?_) | refine V.icmp_gt 22 dX6_order_9 (by decide) (fun c9 => ?_) (fun c9 => ?_)
  · refine V.bipush (-3) dX6_order_22 (by decide +kernel) ?_
    exact V.ireturn dX6_order_24 rfl (by first | rfl | decide +kernel) (PQ.ri (t_order_no (dp := 18) hM.1.2.1 hnd (Or.inr c9)) hg)
  · refine V.aldn 0 dX6_order_12 rfl rfl ?_
    refine V.gf6_1 dX6_order_13 f_X6_21 ?_
    refine V.gf3_4 dX6_order_16 f_X6_204 ?_
    refine V.top h12 ?_
    first | refine V.if_neB 25 dX6_order_19 (by decide) (fun c19 => ?_) (fun c19 => ?_) | refine V.if_neN 25 dX6_order_19 (by decide) (by omega) (fun c19 => ?_) (fun c19 => ?_) | refine V.if_ne 25 dX6_order_19 (by decide) (fun c19 => ?_) (fun c19 => ?_)
    · refine V.aldn 0 dX6_order_25 rfl rfl ?_
      refine V.gf6_3 dX6_order_26 f_X6_39 ?_
      refine V.cVe (c_takeBestOrder (dp := 13) hJ.1 hJ.2.2.1 hP (by omega) c9) dX6_order_29 k_X6_207 rfl rfl rfl (Nat.le_of_ble_eq_true rfl) rfl ?_
      rintro _ _ ⟨f2, rw2, rb2, q, g0, rfl, rfl, g1, g2⟩
      refine V.eqs (st' := [.int (costC F nd (lyR R q))]) rfl ?_
      obtain ⟨hx, hl, hK'⟩ := ordO_px g0
      exact V.ireturn dX6_order_32 rfl (by first | rfl | decide +kernel) (⟨_, rfl, ⟨_, rfl⟩, (t_order (dp := 6) hJ.1.1.2.2.1 hJ.1.1.2.2.2.2 hM hJ.2.2.1 (by omega) c9).weaken (fun r h'' ⟨m', q', z0, z1, z2, z3⟩ => by rw [g0] at z0; cases z0; exact ⟨z1, F, n, nd, lyX nd R q, lyD D q, _, _, _, _, _, m', z2, ⟨hJ.1.ly hx hl, hJ.2.1, (kp_lyX hJ.1.2.2.1 hx hl).mpr hK', fun e he => by rw [lyX, if_neg (by omega)]; exact hJ.2.2.2 e he⟩, g2, z3.congr (fun d hd => lyX_lt hd)⟩)⟩)
    · refine V.bipush (-3) dX6_order_22 (by decide +kernel) ?_
      exact V.ireturn dX6_order_24 rfl (by first | rfl | decide +kernel) (PQ.ri (t_order_no (dp := 18) hM.1.2.1 hnd (Or.inl c19)) hg)
theorem p_rain (hJ : JV F n nd R D) (hP : CP F n nd R f ro rs rw) (hM : MS F n nd R D m) (x : Int32) : Mt 20 0 0 mX6_rain [.ref 0, .int x] (HH f ro rs rw rb m) (PQ mX7_rain [.int x]) := by
  have hg := gh_of (rb := rb) hJ hP hM
  have hnd := hP.1.2.1
  cases h : isIn x nd with
  | false => exact pq_ri (c_rain_no (dp := 18) hP.2.2.1 h) (t_rain_no (dp := 7) hM h) hg
  | true =>
    obtain ⟨d, hd, rfl⟩ := (isIn_iff (by omega)).mp h
    refine (c_rain (dp := 4) hJ.1 hJ.2.1 hP hd).weaken ?_
    rintro _ _ ⟨f2, ro2, rs2, rw2, R', D', rfl, rfl, g1, rfl, rfl, g2, g3⟩
    refine ⟨_, rfl, ⟨_, rfl⟩, (t_rain (dp := 7) hJ.1.1.2.2.1 hM hd).weaken ?_⟩
    rintro _ _ ⟨m', rfl, rfl, z1⟩
    exact ⟨rfl, F, n, nd, _, _, _, _, _, _, _, m', rfl, (hJ.rTf n (Nat.le_refl _)).rPf hd n (Nat.le_refl _), g3, z1⟩
end PAIR
