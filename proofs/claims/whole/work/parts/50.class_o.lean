/-! the class's face: what is told -/
section PAIR
variable {f ro rs : Nat → Nat → Int32} {rw rb : Nat → Nat} {m : Nat → Nat → Int32} {F : Nat → Nat → Int32} {n nd : Nat} {R : Nat → List Nat} {D : Nat → Option Nat}
theorem p_scene (hJ : JV F n nd R D) (hP : CP F n nd R f ro rs rw) (hM : MS F n nd R D m) (a b c o w : Int32) : Mt 20 0 0 mX6_scene [.ref 0, .int a, .int b, .int c, .int o, .int w] (HH f ro rs rw rb m) (PQ mX7_scene [.int a, .int b, .int c, .int o, .int w]) := by
  refine Mt.of rfl rfl (Nat.le_of_ble_eq_true rfl) rfl ?_
  have hg := gh_of (rb := rb) hJ hP hM
  have h1 := hP.2.1
  have hn20 := hP.1.1
  have add : inB a (nI 5) (nI 300) = true → inB c (nI 0) (nI 2) = true → inB o (nI 0) (nI 1) = true → inB w (nI 0) (nI 255) = true → isIn b 8 = true → V mX6_scene 20 0 0 54 [some (.ref 0), some (.int a), some (.int b), some (.int c), some (.int o), some (.int w)] [] (HH f ro rs rw rb m) (PQ mX7_scene [.int a, .int b, .int c, .int o, .int w]) := by
    intro i1 i2 i3 i4 i5
    have hall : (inB a (nI 5) (nI 300) && inB c (nI 0) (nI 2) && inB o (nI 0) (nI 1) && inB w (nI 0) (nI 255)) = true := by rw [i1, i2, i3, i4]; rfl
    by_cases hn : n = 20
    · subst hn
      refine V.aldn 0 dX6_scene_54 rfl rfl ?_
      refine V.gf6_0 dX6_scene_55 f_X6_10 ?_
      refine V.ildn 1 dX6_scene_58 rfl rfl ?_
      refine V.ildn 2 dX6_scene_59 rfl rfl ?_
      refine V.ildn 3 dX6_scene_60 rfl rfl ?_
      refine V.iload dX6_scene_61 rfl ?_
      refine V.iload dX6_scene_63 rfl ?_
      refine V.cVi ((c_addScene_full h1 a b c o w : Mt (18 + 1) 0 0 _ _ _ _)) dX6_scene_65 k_X6_51 rfl rfl rfl (Nat.le_of_ble_eq_true rfl) rfl ?_
      exact V.ireturn dX6_scene_68 rfl (by first | rfl | decide +kernel) (PQ.ri (t_scene_full (dp := 18) hM.2.2.1 hall i5) hg)
    · obtain ⟨j, j1, j2, j3⟩ := inB_nI (by decide) (by decide) i1
      refine V.aldn 0 dX6_scene_54 rfl rfl ?_
      refine V.gf6_0 dX6_scene_55 f_X6_10 ?_
      refine V.ildn 1 dX6_scene_58 rfl rfl ?_
      refine V.ildn 2 dX6_scene_59 rfl rfl ?_
      refine V.ildn 3 dX6_scene_60 rfl rfl ?_
      refine V.iload dX6_scene_61 rfl ?_
      refine V.iload dX6_scene_63 rfl ?_
      refine V.cVi ((c_addScene h1 (by omega) a b c o w : Mt (18 + 1) 0 0 _ _ _ _)) dX6_scene_65 k_X6_51 rfl rfl rfl (Nat.le_of_ble_eq_true rfl) rfl ?_
      exact V.ireturn dX6_scene_68 rfl (by first | rfl | decide +kernel) (⟨nI n, rfl, ⟨_, rfl⟩, (t_scene (dp := 18) hM (by omega) hall i5).weaken (fun q h'' ⟨m', q1, q2, q3⟩ => ⟨q1, fScene F n a b c o w, n + 1, nd, R, upD D n none, _, _, _, _, _, m', q2, hJ.scene (by omega) ⟨j, j1, j2, j3⟩ i5 (inB_01 i3), hP.scene hJ.1.2.2.1 hJ.2.2.2 (by omega) ⟨j, j2, j3⟩ i5, q3⟩)⟩)
  refine V.ildn 1 dX6_scene_0 rfl rfl ?_
  refine V.iconst (nI 5) dX6_scene_1 (by decide +kernel) ?_
  refine V.sipush (nI 300) dX6_scene_2 (by decide +kernel) ?_
  refine V.cSi ((c_within a (nI 5) (nI 300) : Mt (18 + 1) 0 0 _ _ _ _)) dX6_scene_5 k_X6_43 rfl rfl (Nat.le_of_ble_eq_true rfl) rfl ?_
  first | refine V.if_eqB 42 dX6_scene_8 (by decide) (fun c8 => ?_) (fun c8 => ?_) | refine V.if_eqN 42 dX6_scene_8 (by decide) (by omega) (fun c8 => ?_) (fun c8 => ?_) | refine V.if_eq 42 dX6_scene_8 (by decide) (fun c8 => ?_) (fun c8 => ?_)
  · refine V.bipush (-2) dX6_scene_42 (by decide +kernel) ?_
    exact V.ireturn dX6_scene_44 rfl (by first | rfl | decide +kernel) (PQ.ri (t_scene_bad (dp := 18) (by rw [c8]; rfl)) hg)
  · refine V.ildn 3 dX6_scene_11 rfl rfl ?_
    refine V.iconst (nI 0) dX6_scene_12 (by decide +kernel) ?_
    refine V.iconst (nI 2) dX6_scene_13 (by decide +kernel) ?_
    refine V.cSi ((c_within c (nI 0) (nI 2) : Mt (18 + 1) 0 0 _ _ _ _)) dX6_scene_14 k_X6_43 rfl rfl (Nat.le_of_ble_eq_true rfl) rfl ?_
    first | refine V.if_eqB 42 dX6_scene_17 (by decide) (fun c17 => ?_) (fun c17 => ?_) | refine V.if_eqN 42 dX6_scene_17 (by decide) (by omega) (fun c17 => ?_) (fun c17 => ?_) | refine V.if_eq 42 dX6_scene_17 (by decide) (fun c17 => ?_) (fun c17 => ?_)
    · refine V.bipush (-2) dX6_scene_42 (by decide +kernel) ?_
      exact V.ireturn dX6_scene_44 rfl (by first | rfl | decide +kernel) (PQ.ri (t_scene_bad (dp := 18) (by rw [c8, c17]; rfl)) hg)
    · refine V.iload dX6_scene_20 rfl ?_
      refine V.iconst (nI 0) dX6_scene_22 (by decide +kernel) ?_
      refine V.iconst (nI 1) dX6_scene_23 (by decide +kernel) ?_
      refine V.cSi ((c_within o (nI 0) (nI 1) : Mt (18 + 1) 0 0 _ _ _ _)) dX6_scene_24 k_X6_43 rfl rfl (Nat.le_of_ble_eq_true rfl) rfl ?_
      first | refine V.if_eqB 42 dX6_scene_27 (by decide) (fun c27 => ?_) (fun c27 => ?_) | refine V.if_eqN 42 dX6_scene_27 (by decide) (by omega) (fun c27 => ?_) (fun c27 => ?_) | refine V.if_eq 42 dX6_scene_27 (by decide) (fun c27 => ?_) (fun c27 => ?_)
      · refine V.bipush (-2) dX6_scene_42 (by decide +kernel) ?_
        exact V.ireturn dX6_scene_44 rfl (by first | rfl | decide +kernel) (PQ.ri (t_scene_bad (dp := 18) (by rw [c8, c17, c27]; rfl)) hg)
      · refine V.iload dX6_scene_30 rfl ?_
        refine V.iconst (nI 0) dX6_scene_32 (by decide +kernel) ?_
        refine V.sipush (nI 255) dX6_scene_33 (by decide +kernel) ?_
        refine V.cSi ((c_within w (nI 0) (nI 255) : Mt (18 + 1) 0 0 _ _ _ _)) dX6_scene_36 k_X6_43 rfl rfl (Nat.le_of_ble_eq_true rfl) rfl ?_
        first | refine V.if_neB 45 dX6_scene_39 (by decide) (fun c39 => ?_) (fun c39 => ?_) | refine V.if_neN 45 dX6_scene_39 (by decide) (by omega) (fun c39 => ?_) (fun c39 => ?_) | refine V.if_ne 45 dX6_scene_39 (by decide) (fun c39 => ?_) (fun c39 => ?_)
        · refine V.ildn 2 dX6_scene_45 rfl rfl ?_
          refine V.cSi ((c_isPlace b : Mt (17 + 2) 0 0 _ _ _ _)) dX6_scene_46 k_X6_47 rfl rfl (Nat.le_of_ble_eq_true rfl) rfl ?_
          first | refine V.if_neB 54 dX6_scene_49 (by decide) (fun c49 => ?_) (fun c49 => ?_) | refine V.if_neN 54 dX6_scene_49 (by decide) (by omega) (fun c49 => ?_) (fun c49 => ?_) | refine V.if_ne 54 dX6_scene_49 (by decide) (fun c49 => ?_) (fun c49 => ?_)
          · exact add c8 c17 c27 c39 c49
          · refine V.iconst (-1) dX6_scene_52 (by decide +kernel) ?_
            exact V.ireturn dX6_scene_53 rfl (by first | rfl | decide +kernel) (PQ.ri (t_scene_none (dp := 18) (by rw [c8, c17, c27, c39]; rfl) c49) hg)
        · refine V.bipush (-2) dX6_scene_42 (by decide +kernel) ?_
          exact V.ireturn dX6_scene_44 rfl (by first | rfl | decide +kernel) (PQ.ri (t_scene_bad (dp := 18) (by rw [c8, c17, c27, c39]; rfl)) hg)
theorem p_player (hJ : JV F n nd R D) (hP : CP F n nd R f ro rs rw) (hM : MS F n nd R D m) (x a g : Int32) : Mt 20 0 0 mX6_player [.ref 0, .int x, .int a, .int g] (HH f ro rs rw rb m) (PQ mX7_player [.int x, .int a, .int g]) := by
  refine Mt.of rfl rfl (Nat.le_of_ble_eq_true rfl) rfl ?_
  have hg := gh_of (rb := rb) hJ hP hM
  have put : isIn x 8 = true → inB a (nI 0) (nI 1000) = true → inB g (nI 0) (nI 10) = true → V mX6_player 20 0 0 33 [some (.ref 0), some (.int x), some (.int a), some (.int g)] [] (HH f ro rs rw rb m) (PQ mX7_player [.int x, .int a, .int g]) := by
    intro i1 i2 i3
    obtain ⟨p, hp, rfl⟩ := (isIn_iff (by decide)).mp i1
    obtain ⟨j, j1, j2, j3⟩ := inB_nI (by decide) (by decide) i2
    refine V.aldn 0 dX6_player_33 rfl rfl ?_
    refine V.gf6_0 dX6_player_34 f_X6_10 ?_
    refine V.gf2_6 dX6_player_37 f_X6_58 ?_
    refine V.ildn 1 dX6_player_40 rfl rfl ?_
    refine V.ildn 2 dX6_player_41 rfl rfl ?_
    refine V.ast_8 dX6_player_42 (ix_nI (by omega) (by decide)) ?_
    refine V.aldn 0 dX6_player_43 rfl rfl ?_
    refine V.gf6_0 dX6_player_44 f_X6_10 ?_
    refine V.gf2_7 dX6_player_47 f_X6_62 ?_
    refine V.ildn 1 dX6_player_50 rfl rfl ?_
    refine V.ildn 3 dX6_player_51 rfl rfl ?_
    refine V.ast_9 dX6_player_52 (ix_nI (by omega) (by decide)) ?_
    refine V.iconst (nI 0) dX6_player_53 (by decide +kernel) ?_
    exact V.ireturn dX6_player_54 rfl (by first | rfl | decide +kernel) (⟨nI 0, rfl, ⟨_, rfl⟩, (t_player (dp := 18) hM hp i2 i3).weaken (fun q h'' ⟨m', q1, q2, q3⟩ => ⟨q1, up2 (up2 F 9 p a) 10 p g, n, nd, R, D, _, _, _, _, _, m', q2, (hJ.up (by omega) (fun _ => ⟨j, j2, j3⟩)).up (by omega) (by omega), (hP.up (i := 8) (by omega)).up (i := 9) (by omega), q3⟩)⟩)
  refine V.ildn 1 dX6_player_0 rfl rfl ?_
  refine V.cSi ((c_isPlayer x : Mt (17 + 2) 0 0 _ _ _ _)) dX6_player_1 k_X6_55 rfl rfl (Nat.le_of_ble_eq_true rfl) rfl ?_
  first | refine V.if_neB 9 dX6_player_4 (by decide) (fun c4 => ?_) (fun c4 => ?_) | refine V.if_neN 9 dX6_player_4 (by decide) (by omega) (fun c4 => ?_) (fun c4 => ?_) | refine V.if_ne 9 dX6_player_4 (by decide) (fun c4 => ?_) (fun c4 => ?_)
  · refine V.ildn 2 dX6_player_9 rfl rfl ?_
    refine V.iconst (nI 0) dX6_player_10 (by decide +kernel) ?_
    refine V.sipush (nI 1000) dX6_player_11 (by decide +kernel) ?_
    refine V.cSi ((c_within a (nI 0) (nI 1000) : Mt (18 + 1) 0 0 _ _ _ _)) dX6_player_14 k_X6_43 rfl rfl (Nat.le_of_ble_eq_true rfl) rfl ?_
    first | refine V.if_eqB 30 dX6_player_17 (by decide) (fun c17 => ?_) (fun c17 => ?_) | refine V.if_eqN 30 dX6_player_17 (by decide) (by omega) (fun c17 => ?_) (fun c17 => ?_) | refine V.if_eq 30 dX6_player_17 (by decide) (fun c17 => ?_) (fun c17 => ?_)
    · refine V.bipush (-2) dX6_player_30 (by decide +kernel) ?_
      exact V.ireturn dX6_player_32 rfl (by first | rfl | decide +kernel) (PQ.ri (t_player_bad (dp := 18) c4 (Or.inl c17)) hg)
    · refine V.ildn 3 dX6_player_20 rfl rfl ?_
      refine V.iconst (nI 0) dX6_player_21 (by decide +kernel) ?_
      refine V.bipush (nI 10) dX6_player_22 (by decide +kernel) ?_
      refine V.cSi ((c_within g (nI 0) (nI 10) : Mt (18 + 1) 0 0 _ _ _ _)) dX6_player_24 k_X6_43 rfl rfl (Nat.le_of_ble_eq_true rfl) rfl ?_
      first | refine V.if_neB 33 dX6_player_27 (by decide) (fun c27 => ?_) (fun c27 => ?_) | refine V.if_neN 33 dX6_player_27 (by decide) (by omega) (fun c27 => ?_) (fun c27 => ?_) | refine V.if_ne 33 dX6_player_27 (by decide) (fun c27 => ?_) (fun c27 => ?_)
      · exact put c4 c17 c27
      · refine V.bipush (-2) dX6_player_30 (by decide +kernel) ?_
        exact V.ireturn dX6_player_32 rfl (by first | rfl | decide +kernel) (PQ.ri (t_player_bad (dp := 18) c4 (Or.inr c27)) hg)
  · refine V.iconst (-1) dX6_player_7 (by decide +kernel) ?_
    exact V.ireturn dX6_player_8 rfl (by first | rfl | decide +kernel) (PQ.ri (t_player_none (dp := 18) c4) hg)
theorem p_rent (hJ : JV F n nd R D) (hP : CP F n nd R f ro rs rw) (hM : MS F n nd R D m) (x a : Int32) : Mt 20 0 0 mX6_rent [.ref 0, .int x, .int a] (HH f ro rs rw rb m) (PQ mX7_rent [.int x, .int a]) := by
  refine Mt.of rfl rfl (Nat.le_of_ble_eq_true rfl) rfl ?_
  have hg := gh_of (rb := rb) hJ hP hM
  have put : isIn x 8 = true → inB a (nI 0) (nI 1000) = true → V mX6_rent 20 0 0 23 [some (.ref 0), some (.int x), some (.int a), none] [] (HH f ro rs rw rb m) (PQ mX7_rent [.int x, .int a]) := by
    intro i1 i2
    obtain ⟨p, hp, rfl⟩ := (isIn_iff (by decide)).mp i1
    obtain ⟨j, j1, j2, j3⟩ := inB_nI (by decide) (by decide) i2
    refine V.aldn 0 dX6_rent_23 rfl rfl ?_
    refine V.gf6_0 dX6_rent_24 f_X6_10 ?_
    refine V.gf2_8 dX6_rent_27 f_X6_65 ?_
    refine V.ildn 1 dX6_rent_30 rfl rfl ?_
    refine V.ald_10 dX6_rent_31 (ix_nI (by omega) (by decide)) ?_
    refine V.top (y := F 11 p) (congrFun (hP.2.2.2.1 10 rfl) p) ?_
    refine V.istn 3 dX6_rent_32 rfl (Nat.le_of_ble_eq_true rfl) ?_
    refine V.aldn 0 dX6_rent_33 rfl rfl ?_
    refine V.gf6_0 dX6_rent_34 f_X6_10 ?_
    refine V.gf2_8 dX6_rent_37 f_X6_65 ?_
    refine V.ildn 1 dX6_rent_40 rfl rfl ?_
    refine V.ildn 2 dX6_rent_41 rfl rfl ?_
    refine V.ast_10 dX6_rent_42 (ix_nI (by omega) (by decide)) ?_
    refine V.ildn 3 dX6_rent_43 rfl rfl ?_
    exact V.ireturn dX6_rent_44 rfl (by first | rfl | decide +kernel) (⟨F 11 p, rfl, ⟨_, rfl⟩, (t_rent (dp := 18) hM hp i2).weaken (fun q h'' ⟨m', q1, q2, q3⟩ => ⟨q1, up2 F 11 p a, n, nd, R, D, _, _, _, _, _, m', q2, hJ.up (by omega) (fun _ => ⟨j, j2, j3⟩), hP.up (i := 10) (by omega), q3⟩)⟩)
  refine V.ildn 1 dX6_rent_0 rfl rfl ?_
  refine V.cSi ((c_isPlace x : Mt (17 + 2) 0 0 _ _ _ _)) dX6_rent_1 k_X6_47 rfl rfl (Nat.le_of_ble_eq_true rfl) rfl ?_
  first | refine V.if_neB 9 dX6_rent_4 (by decide) (fun c4 => ?_) (fun c4 => ?_) | refine V.if_neN 9 dX6_rent_4 (by decide) (by omega) (fun c4 => ?_) (fun c4 => ?_) | refine V.if_ne 9 dX6_rent_4 (by decide) (fun c4 => ?_) (fun c4 => ?_)
  · refine V.ildn 2 dX6_rent_9 rfl rfl ?_
    refine V.iconst (nI 0) dX6_rent_10 (by decide +kernel) ?_
    refine V.sipush (nI 1000) dX6_rent_11 (by decide +kernel) ?_
    refine V.cSi ((c_within a (nI 0) (nI 1000) : Mt (18 + 1) 0 0 _ _ _ _)) dX6_rent_14 k_X6_43 rfl rfl (Nat.le_of_ble_eq_true rfl) rfl ?_
    first | refine V.if_neB 23 dX6_rent_17 (by decide) (fun c17 => ?_) (fun c17 => ?_) | refine V.if_neN 23 dX6_rent_17 (by decide) (by omega) (fun c17 => ?_) (fun c17 => ?_) | refine V.if_ne 23 dX6_rent_17 (by decide) (fun c17 => ?_) (fun c17 => ?_)
    · exact put c4 c17
    · refine V.bipush (-2) dX6_rent_20 (by decide +kernel) ?_
      exact V.ireturn dX6_rent_22 rfl (by first | rfl | decide +kernel) (PQ.ri (t_rent_bad (dp := 18) c4 c17) hg)
  · refine V.iconst (-1) dX6_rent_7 (by decide +kernel) ?_
    exact V.ireturn dX6_rent_8 rfl (by first | rfl | decide +kernel) (PQ.ri (t_rent_none (dp := 18) c4) hg)
theorem p_spot (hJ : JV F n nd R D) (hP : CP F n nd R f ro rs rw) (hM : MS F n nd R D m) (x a : Int32) : Mt 20 0 0 mX6_spot [.ref 0, .int x, .int a] (HH f ro rs rw rb m) (PQ mX7_spot [.int x, .int a]) := by
  refine Mt.of rfl rfl (Nat.le_of_ble_eq_true rfl) rfl ?_
  have hg := gh_of (rb := rb) hJ hP hM
  have put : isIn x 8 = true → inB a (nI 0) (nI 120) = true → V mX6_spot 20 0 0 22 [some (.ref 0), some (.int x), some (.int a), none] [] (HH f ro rs rw rb m) (PQ mX7_spot [.int x, .int a]) := by
    intro i1 i2
    obtain ⟨p, hp, rfl⟩ := (isIn_iff (by decide)).mp i1
    obtain ⟨j, j1, j2, j3⟩ := inB_nI (by decide) (by decide) i2
    obtain ⟨⟨hF, hnd, hD, h5⟩, hO, hK, hE⟩ := id hJ
    obtain ⟨⟨hn, -, hB, hpl⟩, h1, h12, hC, hw, hR⟩ := id hP
    have hF' := hF.spot (p := p) (a := a) ⟨j, j2, j3⟩
    have hC' : CF (up2 F 12 p a) (up2 f 11 p a) := hC.up (i := 11) rfl
    have h1' : up2 f 11 p a 1 10 = nI n := by rw [up2_ne (by decide)]; exact h1
    have h12' : up2 f 11 p a 12 4 = nI nd := by rw [up2_ne (by decide)]; exact h12
    have e11 : f 11 p = F 12 p := congrFun (hC 11 rfl) p
    refine V.aldn 0 dX6_spot_22 rfl rfl ?_
    refine V.gf6_0 dX6_spot_23 f_X6_10 ?_
    refine V.gf2_9 dX6_spot_26 f_X6_68 ?_
    refine V.ildn 1 dX6_spot_29 rfl rfl ?_
    refine V.ald_11 dX6_spot_30 (ix_nI (by omega) (by decide)) ?_
    refine V.top e11 ?_
    refine V.istn 3 dX6_spot_31 rfl (Nat.le_of_ble_eq_true rfl) ?_
    refine V.aldn 0 dX6_spot_32 rfl rfl ?_
    refine V.gf6_0 dX6_spot_33 f_X6_10 ?_
    refine V.gf2_9 dX6_spot_36 f_X6_68 ?_
    refine V.ildn 1 dX6_spot_39 rfl rfl ?_
    refine V.ildn 2 dX6_spot_40 rfl rfl ?_
    refine V.ast_11 dX6_spot_41 (ix_nI (by omega) (by decide)) ?_
    refine V.aldn 0 dX6_spot_42 rfl rfl ?_
    refine V.gf6_1 dX6_spot_43 f_X6_21 ?_
    refine V.cVe ((c_measureRows (dp := 16) hC' hF'.2.2.1 hF'.2.2.2.1 h12' hnd hw (fun d hd => (hR d (by omega)).1) : Mt 19 0 0 _ _ _ _)) dX6_spot_46 k_X6_71 rfl rfl rfl (Nat.le_of_ble_eq_true rfl) rfl ?_
    rintro _ _ ⟨ro1, rfl, rfl, g1, g2⟩
    refine V.eqs (st' := []) rfl ?_
    have hP1 : CP (up2 F 12 p a) n nd R (up2 f 11 p a) ro1 rs rw := hP.anew hE hF'.2.2.1 hF'.2.2.2.1 h1' h12' hC' g1 g2
    refine V.aldn 0 dX6_spot_49 rfl rfl ?_
    refine V.gf6_1 dX6_spot_50 f_X6_21 ?_
    refine V.cVi ((c_keeps hF' hD hP1 : Mt (17 + 2) 0 0 _ _ _ _)) dX6_spot_53 k_X6_74 rfl rfl rfl (Nat.le_of_ble_eq_true rfl) rfl ?_
    first | refine V.if_eqB 61 dX6_spot_56 (by decide) (fun c56 => ?_) (fun c56 => ?_) | refine V.if_eqN 61 dX6_spot_56 (by decide) (by omega) (fun c56 => ?_) (fun c56 => ?_) | refine V.if_eq 61 dX6_spot_56 (by decide) (fun c56 => ?_) (fun c56 => ?_)
    · refine V.aldn 0 dX6_spot_61 rfl rfl ?_
      refine V.gf6_0 dX6_spot_62 f_X6_10 ?_
      refine V.gf2_9 dX6_spot_65 f_X6_68 ?_
      refine V.ildn 1 dX6_spot_68 rfl rfl ?_
      refine V.ildn 3 dX6_spot_69 rfl rfl ?_
      refine V.ast_11 dX6_spot_70 (ix_nI (by omega) (by decide)) ?_
      rw [up2_back f 11 p a (F 12 p) e11.symm]
      refine V.aldn 0 dX6_spot_71 rfl rfl ?_
      refine V.gf6_1 dX6_spot_72 f_X6_21 ?_
      refine V.cVe ((c_measureRows (dp := 16) hC hB hpl h12 hnd hw (fun d hd => (g2 d hd).1) : Mt 19 0 0 _ _ _ _)) dX6_spot_75 k_X6_71 rfl rfl rfl (Nat.le_of_ble_eq_true rfl) rfl ?_
      rintro _ _ ⟨ro2, rfl, rfl, k1, k2⟩
      refine V.eqs (st' := []) rfl ?_
      have hP2 : CP F n nd R f ro2 rs rw := hP.anew hE hB hpl h1 h12 hC (fun q hq => (k1 q hq).trans (g1 q hq)) k2
      refine V.bipush (-3) dX6_spot_78 (by decide +kernel) ?_
      exact V.ireturn dX6_spot_80 rfl (by first | rfl | decide +kernel) (⟨-3, rfl, ⟨_, rfl⟩, (t_spot (dp := 16) hM hp i2).weaken (fun q h'' ⟨m', q1, q2⟩ => by rcases q2 with ⟨z1, z2, z3⟩ | ⟨z1, z2, z3⟩; exact absurd z1 (of_dBf c56); exact ⟨z2, F, n, nd, R, D, _, _, _, _, _, m', q1, hJ, hP2, z3⟩)⟩)
    · refine V.ildn 3 dX6_spot_59 rfl rfl ?_
      exact V.ireturn dX6_spot_60 rfl (by first | rfl | decide +kernel) (⟨F 12 p, rfl, ⟨_, rfl⟩, (t_spot (dp := 16) hM hp i2).weaken (fun q h'' ⟨m', q1, q2⟩ => by rcases q2 with ⟨z1, z2, z3⟩ | ⟨z1, z2, z3⟩; exact ⟨z2, up2 F 12 p a, n, nd, R, D, _, _, _, _, _, m', q1, ⟨⟨hF', hnd, hD, h5⟩, hO.up (by decide), z1, hE⟩, hP1, z3⟩; exact absurd (of_dB c56) z1)⟩)
  refine V.ildn 1 dX6_spot_0 rfl rfl ?_
  refine V.cSi ((c_isPlace x : Mt (17 + 2) 0 0 _ _ _ _)) dX6_spot_1 k_X6_47 rfl rfl (Nat.le_of_ble_eq_true rfl) rfl ?_
  first | refine V.if_neB 9 dX6_spot_4 (by decide) (fun c4 => ?_) (fun c4 => ?_) | refine V.if_neN 9 dX6_spot_4 (by decide) (by omega) (fun c4 => ?_) (fun c4 => ?_) | refine V.if_ne 9 dX6_spot_4 (by decide) (fun c4 => ?_) (fun c4 => ?_)
  · refine V.ildn 2 dX6_spot_9 rfl rfl ?_
    refine V.iconst (nI 0) dX6_spot_10 (by decide +kernel) ?_
    refine V.bipush (nI 120) dX6_spot_11 (by decide +kernel) ?_
    refine V.cSi ((c_within a (nI 0) (nI 120) : Mt (18 + 1) 0 0 _ _ _ _)) dX6_spot_13 k_X6_43 rfl rfl (Nat.le_of_ble_eq_true rfl) rfl ?_
    first | refine V.if_neB 22 dX6_spot_16 (by decide) (fun c16 => ?_) (fun c16 => ?_) | refine V.if_neN 22 dX6_spot_16 (by decide) (by omega) (fun c16 => ?_) (fun c16 => ?_) | refine V.if_ne 22 dX6_spot_16 (by decide) (fun c16 => ?_) (fun c16 => ?_)
    · exact put c4 c16
    · refine V.bipush (-2) dX6_spot_19 (by decide +kernel) ?_
      exact V.ireturn dX6_spot_21 rfl (by first | rfl | decide +kernel) (PQ.ri (t_spot_bad (dp := 16) c4 c16) hg)
  · refine V.iconst (-1) dX6_spot_7 (by decide +kernel) ?_
    exact V.ireturn dX6_spot_8 rfl (by first | rfl | decide +kernel) (PQ.ri (t_spot_none (dp := 16) c4) hg)
theorem p_ahead (hJ : JV F n nd R D) (hP : CP F n nd R f ro rs rw) (hM : MS F n nd R D m) (x w : Int32) : Mt 20 0 0 mX6_ahead [.ref 0, .int x, .int w] (HH f ro rs rw rb m) (PQ mX7_ahead [.int x, .int w]) := by
  refine Mt.of rfl rfl (Nat.le_of_ble_eq_true rfl) rfl ?_
  have hg := gh_of (rb := rb) hJ hP hM
  have hn := hP.1.1
  have put : isIn x n = true → isIn w n = true → V mX6_ahead 20 0 0 24 [some (.ref 0), some (.int x), some (.int w), none] [] (HH f ro rs rw rb m) (PQ mX7_ahead [.int x, .int w]) := by
    intro i1 i2
    obtain ⟨a, ha, rfl⟩ := (isIn_iff (by omega)).mp i1
    obtain ⟨b, hb, rfl⟩ := (isIn_iff (by omega)).mp i2
    obtain ⟨⟨hF, hnd, hD, h5⟩, hO, hK, hE⟩ := id hJ
    obtain ⟨⟨-, -, hB, hpl⟩, h1, h12, hC, hw, hR⟩ := id hP
    have hcl := nbo_clo (a := a) (b := b) (hF.1.nb hn) (by omega) (by omega)
    have e7 : f 7 b = F 7 b := congrFun (hC 7 rfl) b
    have ta := t_ahead (dp := 16) (f := f) (ro := ro) (rs := rs) (rw := rw) (rb := rb) hM ha hb
    refine V.ildn 1 dX6_ahead_24 rfl rfl ?_
    refine V.ildn 2 dX6_ahead_25 rfl rfl ?_
    first | refine V.icmp_eqN 44 dX6_ahead_26 (by decide) (by omega) (by omega) (fun c26 => ?_) (fun c26 => ?_) | refine V.icmp_eq 44 dX6_ahead_26 (by decide) (fun c26 => ?_) (fun c26 => ?_)
    · refine V.bipush (-2) dX6_ahead_44 (by decide +kernel) ?_
      exact V.ireturn dX6_ahead_46 rfl (by first | rfl | decide +kernel) (⟨-2, rfl, ⟨_, rfl⟩, ta.weaken (fun q h'' ⟨m', q1, q2⟩ => by rcases q2 with ⟨z1, z2, z3⟩ | ⟨z1, z2, z3⟩; exact ⟨z2, F, n, nd, R, D, _, _, _, _, _, m', q1, hJ, hP, z3⟩; exact absurd c26 z1)⟩)
    · refine V.aldn 0 dX6_ahead_29 rfl rfl ?_
      refine V.gf6_0 dX6_ahead_30 f_X6_10 ?_
      refine V.ildn 1 dX6_ahead_33 rfl rfl ?_
      refine V.cVi ((c_needsByOthersToo hC hn h1 (show a < 20 by omega) : Mt (16 + 3) 0 0 _ _ _ _)) dX6_ahead_34 k_X6_81 rfl rfl rfl (Nat.le_of_ble_eq_true rfl) rfl ?_
      refine V.ildn 2 dX6_ahead_37 rfl rfl ?_
      refine V.cSi ((c_hasBit (nbo F n (F 7 a) n) b : Mt (18 + 1) 0 0 _ _ _ _)) dX6_ahead_38 k_X6_85 rfl rfl (Nat.le_of_ble_eq_true rfl) rfl ?_
      rw [hcl]
      first | refine V.if_eqB 47 dX6_ahead_41 (by decide) (fun c41 => ?_) (fun c41 => ?_) | refine V.if_eqN 47 dX6_ahead_41 (by decide) (by omega) (fun c41 => ?_) (fun c41 => ?_) | refine V.if_eq 47 dX6_ahead_41 (by decide) (fun c41 => ?_) (fun c41 => ?_)
      · refine V.aldn 0 dX6_ahead_47 rfl rfl ?_
        refine V.gf6_0 dX6_ahead_48 f_X6_10 ?_
        refine V.gf2_5 dX6_ahead_51 f_X6_89 ?_
        refine V.ildn 2 dX6_ahead_54 rfl rfl ?_
        refine V.ald_7 dX6_ahead_55 (ix_nI (by omega) (by decide)) ?_
        refine V.top e7 ?_
        refine V.istn 3 dX6_ahead_56 rfl (Nat.le_of_ble_eq_true rfl) ?_
        refine V.ildn 3 dX6_ahead_57 rfl rfl ?_
        refine V.ildn 1 dX6_ahead_58 rfl rfl ?_
        refine V.cSi ((c_hasBit (F 7 b) a : Mt (18 + 1) 0 0 _ _ _ _)) dX6_ahead_59 k_X6_85 rfl rfl (Nat.le_of_ble_eq_true rfl) rfl ?_
        first | refine V.if_eqB 67 dX6_ahead_62 (by decide) (fun c62 => ?_) (fun c62 => ?_) | refine V.if_eqN 67 dX6_ahead_62 (by decide) (by omega) (fun c62 => ?_) (fun c62 => ?_) | refine V.if_eq 67 dX6_ahead_62 (by decide) (fun c62 => ?_) (fun c62 => ?_)
        · have hF' := hF.ahead hn ha hb c26 c41
          have hC' : CF (fAh F a b) (up2 f 7 b (F 7 b ||| (nI 1 <<< (nI a &&& 31)))) := hC.up (i := 7) rfl
          have h1' : up2 f 7 b (F 7 b ||| (nI 1 <<< (nI a &&& 31))) 1 10 = nI n := by rw [up2_ne (by decide)]; exact h1
          have h12' : up2 f 7 b (F 7 b ||| (nI 1 <<< (nI a &&& 31))) 12 4 = nI nd := by rw [up2_ne (by decide)]; exact h12
          refine V.aldn 0 dX6_ahead_67 rfl rfl ?_
          refine V.gf6_0 dX6_ahead_68 f_X6_10 ?_
          refine V.gf2_5 dX6_ahead_71 f_X6_89 ?_
          refine V.ildn 2 dX6_ahead_74 rfl rfl ?_
          refine V.ildn 3 dX6_ahead_75 rfl rfl ?_
          refine V.iconst (nI 1) dX6_ahead_76 (by decide +kernel) ?_
          refine V.ildn 1 dX6_ahead_77 rfl rfl ?_
          refine V.ishl dX6_ahead_78 ?_
          refine V.ior dX6_ahead_79 ?_
          refine V.ast_7 dX6_ahead_80 (ix_nI (by omega) (by decide)) ?_
          refine V.aldn 0 dX6_ahead_81 rfl rfl ?_
          refine V.gf6_1 dX6_ahead_82 f_X6_21 ?_
          refine V.cVe ((c_measureRows (dp := 16) hC' hF'.2.2.1 hF'.2.2.2.1 h12' hnd hw (fun d hd => (hR d (by omega)).1) : Mt 19 0 0 _ _ _ _)) dX6_ahead_85 k_X6_71 rfl rfl rfl (Nat.le_of_ble_eq_true rfl) rfl ?_
          rintro _ _ ⟨ro1, rfl, rfl, g1, g2⟩
          refine V.eqs (st' := []) rfl ?_
          have hP1 : CP (fAh F a b) n nd R (up2 f 7 b (F 7 b ||| (nI 1 <<< (nI a &&& 31)))) ro1 rs rw := hP.anew hE hF'.2.2.1 hF'.2.2.2.1 h1' h12' hC' g1 g2
          have ta1 := t_ahead (dp := 16) (f := up2 f 7 b (F 7 b ||| (nI 1 <<< (nI a &&& 31)))) (ro := ro1) (rs := rs) (rw := rw) (rb := rb) hM ha hb
          refine V.aldn 0 dX6_ahead_88 rfl rfl ?_
          refine V.gf6_1 dX6_ahead_89 f_X6_21 ?_
          refine V.cVi ((c_keeps hF' hD hP1 : Mt (17 + 2) 0 0 _ _ _ _)) dX6_ahead_92 k_X6_74 rfl rfl rfl (Nat.le_of_ble_eq_true rfl) rfl ?_
          first | refine V.if_eqB 100 dX6_ahead_95 (by decide) (fun c95 => ?_) (fun c95 => ?_) | refine V.if_eqN 100 dX6_ahead_95 (by decide) (by omega) (fun c95 => ?_) (fun c95 => ?_) | refine V.if_eq 100 dX6_ahead_95 (by decide) (fun c95 => ?_) (fun c95 => ?_)
          · refine V.aldn 0 dX6_ahead_100 rfl rfl ?_
            refine V.gf6_0 dX6_ahead_101 f_X6_10 ?_
            refine V.gf2_5 dX6_ahead_104 f_X6_89 ?_
            refine V.ildn 2 dX6_ahead_107 rfl rfl ?_
            refine V.ildn 3 dX6_ahead_108 rfl rfl ?_
            refine V.ast_7 dX6_ahead_109 (ix_nI (by omega) (by decide)) ?_
            rw [up2_back f 7 b _ (F 7 b) e7.symm]
            refine V.aldn 0 dX6_ahead_110 rfl rfl ?_
            refine V.gf6_1 dX6_ahead_111 f_X6_21 ?_
            refine V.cVe ((c_measureRows (dp := 16) hC hB hpl h12 hnd hw (fun d hd => (g2 d hd).1) : Mt 19 0 0 _ _ _ _)) dX6_ahead_114 k_X6_71 rfl rfl rfl (Nat.le_of_ble_eq_true rfl) rfl ?_
            rintro _ _ ⟨ro2, rfl, rfl, k1, k2⟩
            refine V.eqs (st' := []) rfl ?_
            have hP2 : CP F n nd R f ro2 rs rw := hP.anew hE hB hpl h1 h12 hC (fun q hq => (k1 q hq).trans (g1 q hq)) k2
            have ta2 := t_ahead (dp := 16) (f := f) (ro := ro2) (rs := rs) (rw := rw) (rb := rb) hM ha hb
            refine V.bipush (-3) dX6_ahead_117 (by decide +kernel) ?_
            exact V.ireturn dX6_ahead_119 rfl (by first | rfl | decide +kernel) (⟨-3, rfl, ⟨_, rfl⟩, ta2.weaken (fun q h'' ⟨m', q1, q2⟩ => by rcases q2 with ⟨z1, z2, z3⟩ | ⟨z1, z2, ⟨z3, z4, z5⟩ | ⟨z3, ⟨z4, z5, z6⟩ | ⟨z4, z5, z6⟩⟩⟩; (rcases z1 with z1 | z1; exact absurd z1 c26; rw [c41] at z1; cases z1); (rw [c62] at z3; cases z3); exact absurd z4 (of_dBf c95); exact ⟨z5, F, n, nd, R, D, _, _, _, _, _, m', q1, hJ, hP2, z6⟩)⟩)
          · refine V.iconst (nI 1) dX6_ahead_98 (by decide +kernel) ?_
            exact V.ireturn dX6_ahead_99 rfl (by first | rfl | decide +kernel) (⟨nI 1, rfl, ⟨_, rfl⟩, ta1.weaken (fun q h'' ⟨m', q1, q2⟩ => by rcases q2 with ⟨z1, z2, z3⟩ | ⟨z1, z2, ⟨z3, z4, z5⟩ | ⟨z3, ⟨z4, z5, z6⟩ | ⟨z4, z5, z6⟩⟩⟩; (rcases z1 with z1 | z1; exact absurd z1 c26; rw [c41] at z1; cases z1); (rw [c62] at z3; cases z3); exact ⟨z5, fAh F a b, n, nd, R, D, _, _, _, _, _, m', q1, ⟨⟨hF', hnd, hD, h5⟩, hO.up (by decide), z4, hE⟩, hP1, z6⟩; exact absurd (of_dB c95) z4)⟩)
        · refine V.iconst (nI 0) dX6_ahead_65 (by decide +kernel) ?_
          exact V.ireturn dX6_ahead_66 rfl (by first | rfl | decide +kernel) (⟨nI 0, rfl, ⟨_, rfl⟩, ta.weaken (fun q h'' ⟨m', q1, q2⟩ => by rcases q2 with ⟨z1, z2, z3⟩ | ⟨z1, z2, ⟨z3, z4, z5⟩ | ⟨z3, z4⟩⟩; (rcases z1 with z1 | z1; exact absurd z1 c26; rw [c41] at z1; cases z1); exact ⟨z4, F, n, nd, R, D, _, _, _, _, _, m', q1, hJ, hP, z5⟩; rw [c62] at z3; cases z3)⟩)
      · refine V.bipush (-2) dX6_ahead_44 (by decide +kernel) ?_
        exact V.ireturn dX6_ahead_46 rfl (by first | rfl | decide +kernel) (⟨-2, rfl, ⟨_, rfl⟩, ta.weaken (fun q h'' ⟨m', q1, q2⟩ => by rcases q2 with ⟨z1, z2, z3⟩ | ⟨z1, z2, z3⟩; exact ⟨z2, F, n, nd, R, D, _, _, _, _, _, m', q1, hJ, hP, z3⟩; rw [c41] at z2; cases z2)⟩)
  refine V.aldn 0 dX6_ahead_0 rfl rfl ?_
  refine V.gf6_0 dX6_ahead_1 f_X6_10 ?_
  refine V.ildn 1 dX6_ahead_4 rfl rfl ?_
  refine V.cVi ((c_hasScene hP.2.1 x : Mt (18 + 1) 0 0 _ _ _ _)) dX6_ahead_5 k_X6_78 rfl rfl rfl (Nat.le_of_ble_eq_true rfl) rfl ?_
  first | refine V.if_eqB 22 dX6_ahead_8 (by decide) (fun c8 => ?_) (fun c8 => ?_) | refine V.if_eqN 22 dX6_ahead_8 (by decide) (by omega) (fun c8 => ?_) (fun c8 => ?_) | refine V.if_eq 22 dX6_ahead_8 (by decide) (fun c8 => ?_) (fun c8 => ?_)
  · refine V.iconst (-1) dX6_ahead_22 (by decide +kernel) ?_
    exact V.ireturn dX6_ahead_23 rfl (by first | rfl | decide +kernel) (PQ.ri (t_ahead_none (dp := 16) hM (Or.inl c8)) hg)
  · refine V.aldn 0 dX6_ahead_11 rfl rfl ?_
    refine V.gf6_0 dX6_ahead_12 f_X6_10 ?_
    refine V.ildn 2 dX6_ahead_15 rfl rfl ?_
    refine V.cVi ((c_hasScene hP.2.1 w : Mt (18 + 1) 0 0 _ _ _ _)) dX6_ahead_16 k_X6_78 rfl rfl rfl (Nat.le_of_ble_eq_true rfl) rfl ?_
    first | refine V.if_neB 24 dX6_ahead_19 (by decide) (fun c19 => ?_) (fun c19 => ?_) | refine V.if_neN 24 dX6_ahead_19 (by decide) (by omega) (fun c19 => ?_) (fun c19 => ?_) | refine V.if_ne 24 dX6_ahead_19 (by decide) (fun c19 => ?_) (fun c19 => ?_)
    · exact put c8 c19
    · refine V.iconst (-1) dX6_ahead_22 (by decide +kernel) ?_
      exact V.ireturn dX6_ahead_23 rfl (by first | rfl | decide +kernel) (PQ.ri (t_ahead_none (dp := 16) hM (Or.inr c19)) hg)
theorem p_day (hJ : JV F n nd R D) (hP : CP F n nd R f ro rs rw) (hM : MS F n nd R D m) (a b : Int32) : Mt 20 0 0 mX6_day [.ref 0, .int a, .int b] (HH f ro rs rw rb m) (PQ mX7_day [.int a, .int b]) := by
  refine Mt.of rfl rfl (Nat.le_of_ble_eq_true rfl) rfl ?_
  have hg := gh_of (rb := rb) hJ hP hM
  have h12 := hP.2.2.1
  have hnd := hP.1.2.1
  have put : inB a (nI 60) (nI 900) = true → inB b (nI 0) (nI 900) = true → V mX6_day 20 0 0 11 [some (.ref 0), some (.int a), some (.int b)] [] (HH f ro rs rw rb m) (PQ mX7_day [.int a, .int b]) := by
    intro i1 i2
    by_cases h8 : nd = 8
    · subst h8
      refine V.aldn 0 dX6_day_11 rfl rfl ?_
      refine V.gf6_1 dX6_day_12 f_X6_21 ?_
      refine V.ildn 1 dX6_day_15 rfl rfl ?_
      refine V.ildn 2 dX6_day_16 rfl rfl ?_
      refine V.cVi ((c_addDay_full h12 a b : Mt (18 + 1) 0 0 _ _ _ _)) dX6_day_17 k_X6_95 rfl rfl rfl (Nat.le_of_ble_eq_true rfl) rfl ?_
      exact V.ireturn dX6_day_20 rfl (by first | rfl | decide +kernel) (PQ.ri (t_day_full (dp := 18) hM.1.2.1 i1 i2) hg)
    · have hE := hJ.2.2.2 nd (Nat.le_refl _)
      refine V.aldn 0 dX6_day_11 rfl rfl ?_
      refine V.gf6_1 dX6_day_12 f_X6_21 ?_
      refine V.ildn 1 dX6_day_15 rfl rfl ?_
      refine V.ildn 2 dX6_day_16 rfl rfl ?_
      refine V.cVi ((c_addDay h12 (show nd < 8 by omega) a b : Mt (18 + 1) 0 0 _ _ _ _)) dX6_day_17 k_X6_95 rfl rfl rfl (Nat.le_of_ble_eq_true rfl) rfl ?_
      exact V.ireturn dX6_day_20 rfl (by first | rfl | decide +kernel) (⟨nI nd, rfl, ⟨_, rfl⟩, (t_day (dp := 18) hM (show nd < 8 by omega) i1 i2).weaken (fun q h'' ⟨m', q1, q2, q3⟩ => by rw [upR_nil hE] at q3; exact ⟨q1, fDay F nd a b, n, nd + 1, R, D, _, _, _, _, _, m', q2, hJ.day (by omega) (inB_nI (by decide) (by decide) i1) (inB_nI (by decide) (by decide) i2), hP.day (by omega), q3⟩)⟩)
  refine V.ildn 1 dX6_day_0 rfl rfl ?_
  refine V.ildn 2 dX6_day_1 rfl rfl ?_
  refine V.cSi ((c_isDayLength a b : Mt (17 + 2) 0 0 _ _ _ _)) dX6_day_2 k_X6_92 rfl rfl (Nat.le_of_ble_eq_true rfl) rfl ?_
  first | refine V.if_neB 11 dX6_day_5 (by decide) (fun c5 => ?_) (fun c5 => ?_) | refine V.if_neN 11 dX6_day_5 (by decide) (by omega) (fun c5 => ?_) (fun c5 => ?_) | refine V.if_ne 11 dX6_day_5 (by decide) (fun c5 => ?_) (fun c5 => ?_)
  · have := Bool.and_eq_true_iff.mp c5
    exact put this.1 this.2
  · have q : inB a (nI 60) (nI 900) = false ∨ inB b (nI 0) (nI 900) = false := by cases h : inB a (nI 60) (nI 900) with | false => exact Or.inl rfl | true => rw [h] at c5; exact Or.inr c5
    refine V.bipush (-2) dX6_day_8 (by decide +kernel) ?_
    exact V.ireturn dX6_day_10 rfl (by first | rfl | decide +kernel) (PQ.ri (t_day_bad (dp := 18) q) hg)
theorem p_change (hJ : JV F n nd R D) (hP : CP F n nd R f ro rs rw) (hM : MS F n nd R D m) (x a b : Int32) : Mt 20 0 0 mX6_change [.ref 0, .int x, .int a, .int b] (HH f ro rs rw rb m) (PQ mX7_change [.int x, .int a, .int b]) := by
  refine Mt.of rfl rfl (Nat.le_of_ble_eq_true rfl) rfl ?_
  have hg := gh_of (rb := rb) hJ hP hM
  have h12 := hP.2.2.1
  have hnd := hP.1.2.1
  have put : isIn x nd = true → inB a (nI 60) (nI 900) = true → inB b (nI 0) (nI 900) = true → V mX6_change 20 0 0 24 [some (.ref 0), some (.int x), some (.int a), some (.int b)] [] (HH f ro rs rw rb m) (PQ mX7_change [.int x, .int a, .int b]) := by
    intro i1 i2 i3
    obtain ⟨d, hd, rfl⟩ := (isIn_iff (by omega)).mp i1
    obtain ⟨⟨hF, -, hD, h5⟩, hO, hK, hE⟩ := id hJ
    have hk := hP.2.2.2.2.1.1 d (by omega)
    have hRd := (hP.2.2.2.2.2 d (by omega)).2.1
    have hkc := kp_change (a := a) (b := b) hD hd hK
    have cf : Mt (18 + 1) 0 0 mX5_fitsInto [.ref (16 + 2 * rw d), .int a, .int b] (HH f ro rs rw rb m) (RI (bI (decide (mins F (R d) ≤ a) && decide (sunm F (R d) ≤ b))) (HH f ro rs rw rb m)) := by
      have q := c_fitsInto (dp := 18) (f := f) (ro := ro) (rs := rs) (rw := rw) (rb := rb) (m := m) hk a b
      rw [hRd.2.2.1, hRd.2.2.2.1] at q
      exact q
    refine V.aldn 0 dX6_change_24 rfl rfl ?_
    refine V.gf6_1 dX6_change_25 f_X6_21 ?_
    refine V.gf3_1 dX6_change_28 f_X6_123 ?_
    refine V.ildn 1 dX6_change_31 rfl rfl ?_
    refine V.ald_13 dX6_change_32 (ix_nI (by omega) (by decide)) ?_
    refine V.ildn 2 dX6_change_33 rfl rfl ?_
    refine V.ildn 3 dX6_change_34 rfl rfl ?_
    refine V.cVi (cf) dX6_change_35 k_X6_216 rfl rfl (HH_row (by omega)) (Nat.le_of_ble_eq_true rfl) rfl ?_
    first | refine V.if_neB 44 dX6_change_38 (by decide) (fun c38 => ?_) (fun c38 => ?_) | refine V.if_neN 44 dX6_change_38 (by decide) (by omega) (fun c38 => ?_) (fun c38 => ?_) | refine V.if_ne 44 dX6_change_38 (by decide) (fun c38 => ?_) (fun c38 => ?_)
    · have q := Bool.and_eq_true_iff.mp c38
      have hK' := hkc.mpr ⟨of_decide_eq_true q.1, of_decide_eq_true q.2⟩
      refine V.aldn 0 dX6_change_44 rfl rfl ?_
      refine V.gf6_1 dX6_change_45 f_X6_21 ?_
      refine V.gf3_2 dX6_change_48 f_X6_219 ?_
      refine V.ildn 1 dX6_change_51 rfl rfl ?_
      refine V.ildn 2 dX6_change_52 rfl rfl ?_
      refine V.ast_14 dX6_change_53 (ix_nI (by omega) (by decide)) ?_
      refine V.aldn 0 dX6_change_54 rfl rfl ?_
      refine V.gf6_1 dX6_change_55 f_X6_21 ?_
      refine V.gf3_3 dX6_change_58 f_X6_222 ?_
      refine V.ildn 1 dX6_change_61 rfl rfl ?_
      refine V.ildn 3 dX6_change_62 rfl rfl ?_
      refine V.ast_15 dX6_change_63 (ix_nI (by omega) (by decide)) ?_
      refine V.iconst (nI 0) dX6_change_64 (by decide +kernel) ?_
      exact V.ireturn dX6_change_65 rfl (by first | rfl | decide +kernel) (⟨nI 0, rfl, ⟨_, rfl⟩, (t_change (dp := 16) hM hd i2 i3).weaken (fun q h'' ⟨m', q1, q2⟩ => by rcases q2 with ⟨z1, z2, z3⟩ | ⟨z1, z2, z3⟩; exact ⟨z2, fDay F d a b, n, nd, R, D, _, _, _, _, _, m', q1, ⟨⟨hF.day, hnd, hD, h5⟩, (hO.up (by decide)).up (by decide), z1, hE⟩, hP.chg, z3⟩; exact absurd hK' z1)⟩)
    · have hK' : ¬ KP (fDay F d a b) n nd R D := fun z => by have z := hkc.mp z; rw [decide_eq_true z.1, decide_eq_true z.2] at c38; cases c38
      refine V.bipush (-3) dX6_change_41 (by decide +kernel) ?_
      exact V.ireturn dX6_change_43 rfl (by first | rfl | decide +kernel) (⟨-3, rfl, ⟨_, rfl⟩, (t_change (dp := 16) hM hd i2 i3).weaken (fun q h'' ⟨m', q1, q2⟩ => by rcases q2 with ⟨z1, z2, z3⟩ | ⟨z1, z2, z3⟩; exact absurd z1 hK'; exact ⟨z2, F, n, nd, R, D, _, _, _, _, _, m', q1, hJ, hP, z3⟩)⟩)
  refine V.aldn 0 dX6_change_0 rfl rfl ?_
  refine V.gf6_1 dX6_change_1 f_X6_21 ?_
  refine V.ildn 1 dX6_change_4 rfl rfl ?_
  refine V.cVi ((c_hasDay h12 x : Mt (18 + 1) 0 0 _ _ _ _)) dX6_change_5 k_X6_120 rfl rfl rfl (Nat.le_of_ble_eq_true rfl) rfl ?_
  first | refine V.if_neB 13 dX6_change_8 (by decide) (fun c8 => ?_) (fun c8 => ?_) | refine V.if_neN 13 dX6_change_8 (by decide) (by omega) (fun c8 => ?_) (fun c8 => ?_) | refine V.if_ne 13 dX6_change_8 (by decide) (fun c8 => ?_) (fun c8 => ?_)
  · refine V.ildn 2 dX6_change_13 rfl rfl ?_
    refine V.ildn 3 dX6_change_14 rfl rfl ?_
    refine V.cSi ((c_isDayLength a b : Mt (17 + 2) 0 0 _ _ _ _)) dX6_change_15 k_X6_92 rfl rfl (Nat.le_of_ble_eq_true rfl) rfl ?_
    first | refine V.if_neB 24 dX6_change_18 (by decide) (fun c18 => ?_) (fun c18 => ?_) | refine V.if_neN 24 dX6_change_18 (by decide) (by omega) (fun c18 => ?_) (fun c18 => ?_) | refine V.if_ne 24 dX6_change_18 (by decide) (fun c18 => ?_) (fun c18 => ?_)
    · have := Bool.and_eq_true_iff.mp c18
      exact put c8 this.1 this.2
    · have q : inB a (nI 60) (nI 900) = false ∨ inB b (nI 0) (nI 900) = false := by cases h : inB a (nI 60) (nI 900) with | false => exact Or.inl rfl | true => rw [h] at c18; exact Or.inr c18
      refine V.bipush (-2) dX6_change_21 (by decide +kernel) ?_
      exact V.ireturn dX6_change_23 rfl (by first | rfl | decide +kernel) (PQ.ri (t_change_bad (dp := 16) hM c8 q) hg)
  · refine V.iconst (-1) dX6_change_11 (by decide +kernel) ?_
    exact V.ireturn dX6_change_12 rfl (by first | rfl | decide +kernel) (PQ.ri (t_change_none (dp := 16) hM c8) hg)
end PAIR
