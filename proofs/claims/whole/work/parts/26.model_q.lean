/-! the reference: a scene more -/
theorem inB_01 {x : Int32} (h : inB x (nI 0) (nI 1) = true) : x = nI 0 ∨ x = nI 1 := by
  have e := inB_isIn (x := x) (n := 2) (by decide)
  have e2 : nI 2 - nI 1 = nI 1 := by decide +kernel
  rw [e2, h] at e
  obtain ⟨j, hj, rfl⟩ := (isIn_iff (by decide)).mp e.symm
  rcases (show j = 0 ∨ j = 1 by omega) with rfl | rfl
  · left; rfl
  · right; rfl
theorem DR.scene {n nd : Nat} {R : Nat → List Nat} {D : Nat → Option Nat} (h : DR n nd R D) (hn : n < 20) : DR (n + 1) nd R (upD D n none) := by
  obtain ⟨-, d1, d2, d3⟩ := h
  refine ⟨by omega, fun s d hs hd => ?_, fun s d hd hm => ?_, d3⟩
  · by_cases e : s = n
    · subst e; rw [upD_s] at hd; cases hd
    · rw [upD_n e] at hd; exact d1 s d (by omega) hd
  · obtain ⟨q1, q2⟩ := d2 s d hd hm
    exact ⟨by omega, by rw [upD_n (by omega)]; exact q2⟩
theorem PlV.scene {F : Nat → Nat → Int32} {n : Nat} {a b c o w : Int32} (h : PlV F) (hb : isIn b 8 = true) : PlV (fScene F n a b c o w) := by
  obtain ⟨j, hj, rfl⟩ := (isIn_iff (by decide)).mp hb
  intro s hs
  unfold pl fScene
  have e : up2 (up2 (up2 (up2 (up2 F 2 n a) 3 n (nI j)) 4 n c) 5 n o) 6 n w 3 s = if s = n then nI j else F 3 s := by
    rw [up2_at, if_neg (by omega), up2_at, if_neg (by omega), up2_at, if_neg (by omega), up2_at]
    by_cases q : s = n
    · rw [if_pos ⟨rfl, q⟩, if_pos q]
    · rw [if_neg (fun z => q z.2), if_neg q, up2_at, if_neg (by omega)]
  rw [e]
  split
  · rw [nI_clamp (by omega)]; exact ⟨rfl, hj⟩
  · exact h s hs
section MODEL
variable {f ro rs : Nat → Nat → Int32} {rw rb : Nat → Nat} {m : Nat → Nat → Int32} {dp : Nat} {F : Nat → Nat → Int32} {n nd : Nat} {R : Nat → List Nat} {D : Nat → Option Nat}
theorem t_scene_bad {a b c o w : Int32} (h : (inB a (nI 5) (nI 300) && inB c (nI 0) (nI 2) && inB o (nI 0) (nI 1) && inB w (nI 0) (nI 255)) = false) : Mt (dp + 2) 0 0 mX7_scene [.ref 45, .int a, .int b, .int c, .int o, .int w] (HH f ro rs rw rb m) (RI (-2) (HH f ro rs rw rb m)) := by
  refine Mt.of rfl rfl (Nat.le_of_ble_eq_true rfl) rfl ?_
  refine V.ildn 1 dX7_scene_0 rfl rfl ?_
  refine V.iconst (nI 5) dX7_scene_1 (by decide +kernel) ?_
  refine V.sipush (nI 300) dX7_scene_2 (by decide +kernel) ?_
  refine V.cSi (t_in a (nI 5) (nI 300)) dX7_scene_5 k_X7_87 rfl rfl (Nat.le_of_ble_eq_true rfl) rfl ?_
  first | refine V.if_eqB 42 dX7_scene_8 (by decide) (fun c8 => ?_) (fun c8 => ?_) | refine V.if_eqN 42 dX7_scene_8 (by decide) (by omega) (fun c8 => ?_) (fun c8 => ?_) | refine V.if_eq 42 dX7_scene_8 (by decide) (fun c8 => ?_) (fun c8 => ?_)
  · refine V.bipush (-2) dX7_scene_42 (by decide +kernel) ?_
    exact V.ireturn dX7_scene_44 rfl (by first | rfl | decide +kernel) (⟨rfl, rfl⟩)
  · refine V.ildn 3 dX7_scene_11 rfl rfl ?_
    refine V.iconst (nI 0) dX7_scene_12 (by decide +kernel) ?_
    refine V.iconst (nI 2) dX7_scene_13 (by decide +kernel) ?_
    refine V.cSi (t_in c (nI 0) (nI 2)) dX7_scene_14 k_X7_87 rfl rfl (Nat.le_of_ble_eq_true rfl) rfl ?_
    first | refine V.if_eqB 42 dX7_scene_17 (by decide) (fun c17 => ?_) (fun c17 => ?_) | refine V.if_eqN 42 dX7_scene_17 (by decide) (by omega) (fun c17 => ?_) (fun c17 => ?_) | refine V.if_eq 42 dX7_scene_17 (by decide) (fun c17 => ?_) (fun c17 => ?_)
    · refine V.bipush (-2) dX7_scene_42 (by decide +kernel) ?_
      exact V.ireturn dX7_scene_44 rfl (by first | rfl | decide +kernel) (⟨rfl, rfl⟩)
    · refine V.iload dX7_scene_20 rfl ?_
      refine V.iconst (nI 0) dX7_scene_22 (by decide +kernel) ?_
      refine V.iconst (nI 1) dX7_scene_23 (by decide +kernel) ?_
      refine V.cSi (t_in o (nI 0) (nI 1)) dX7_scene_24 k_X7_87 rfl rfl (Nat.le_of_ble_eq_true rfl) rfl ?_
      first | refine V.if_eqB 42 dX7_scene_27 (by decide) (fun c27 => ?_) (fun c27 => ?_) | refine V.if_eqN 42 dX7_scene_27 (by decide) (by omega) (fun c27 => ?_) (fun c27 => ?_) | refine V.if_eq 42 dX7_scene_27 (by decide) (fun c27 => ?_) (fun c27 => ?_)
      · refine V.bipush (-2) dX7_scene_42 (by decide +kernel) ?_
        exact V.ireturn dX7_scene_44 rfl (by first | rfl | decide +kernel) (⟨rfl, rfl⟩)
      · refine V.iload dX7_scene_30 rfl ?_
        refine V.iconst (nI 0) dX7_scene_32 (by decide +kernel) ?_
        refine V.sipush (nI 255) dX7_scene_33 (by decide +kernel) ?_
        refine V.cSi (t_in w (nI 0) (nI 255)) dX7_scene_36 k_X7_87 rfl rfl (Nat.le_of_ble_eq_true rfl) rfl ?_
        first | refine V.if_neB 45 dX7_scene_39 (by decide) (fun c39 => ?_) (fun c39 => ?_) | refine V.if_neN 45 dX7_scene_39 (by decide) (by omega) (fun c39 => ?_) (fun c39 => ?_) | refine V.if_ne 45 dX7_scene_39 (by decide) (fun c39 => ?_) (fun c39 => ?_)
        · rw [c8, c17, c27, c39] at h
          cases h
        · refine V.bipush (-2) dX7_scene_42 (by decide +kernel) ?_
          exact V.ireturn dX7_scene_44 rfl (by first | rfl | decide +kernel) (⟨rfl, rfl⟩)
theorem t_scene_none {a b c o w : Int32} (h : (inB a (nI 5) (nI 300) && inB c (nI 0) (nI 2) && inB o (nI 0) (nI 1) && inB w (nI 0) (nI 255)) = true) (hb : isIn b 8 = false) : Mt (dp + 2) 0 0 mX7_scene [.ref 45, .int a, .int b, .int c, .int o, .int w] (HH f ro rs rw rb m) (RI (-1) (HH f ro rs rw rb m)) := by
  refine Mt.of rfl rfl (Nat.le_of_ble_eq_true rfl) rfl ?_
  simp only [Bool.and_eq_true] at h
  obtain ⟨⟨⟨h1, h2⟩, h3⟩, h4⟩ := h
  refine V.ildn 1 dX7_scene_0 rfl rfl ?_
  refine V.iconst (nI 5) dX7_scene_1 (by decide +kernel) ?_
  refine V.sipush (nI 300) dX7_scene_2 (by decide +kernel) ?_
  refine V.cSi (t_in a (nI 5) (nI 300)) dX7_scene_5 k_X7_87 rfl rfl (Nat.le_of_ble_eq_true rfl) rfl ?_
  first | refine V.if_eqB 42 dX7_scene_8 (by decide) (fun c8 => ?_) (fun c8 => ?_) | refine V.if_eqN 42 dX7_scene_8 (by decide) (by omega) (fun c8 => ?_) (fun c8 => ?_) | refine V.if_eq 42 dX7_scene_8 (by decide) (fun c8 => ?_) (fun c8 => ?_)
  · rw [h1] at c8
    cases c8
  · refine V.ildn 3 dX7_scene_11 rfl rfl ?_
    refine V.iconst (nI 0) dX7_scene_12 (by decide +kernel) ?_
    refine V.iconst (nI 2) dX7_scene_13 (by decide +kernel) ?_
    refine V.cSi (t_in c (nI 0) (nI 2)) dX7_scene_14 k_X7_87 rfl rfl (Nat.le_of_ble_eq_true rfl) rfl ?_
    first | refine V.if_eqB 42 dX7_scene_17 (by decide) (fun c17 => ?_) (fun c17 => ?_) | refine V.if_eqN 42 dX7_scene_17 (by decide) (by omega) (fun c17 => ?_) (fun c17 => ?_) | refine V.if_eq 42 dX7_scene_17 (by decide) (fun c17 => ?_) (fun c17 => ?_)
    · rw [h2] at c17
      cases c17
    · refine V.iload dX7_scene_20 rfl ?_
      refine V.iconst (nI 0) dX7_scene_22 (by decide +kernel) ?_
      refine V.iconst (nI 1) dX7_scene_23 (by decide +kernel) ?_
      refine V.cSi (t_in o (nI 0) (nI 1)) dX7_scene_24 k_X7_87 rfl rfl (Nat.le_of_ble_eq_true rfl) rfl ?_
      first | refine V.if_eqB 42 dX7_scene_27 (by decide) (fun c27 => ?_) (fun c27 => ?_) | refine V.if_eqN 42 dX7_scene_27 (by decide) (by omega) (fun c27 => ?_) (fun c27 => ?_) | refine V.if_eq 42 dX7_scene_27 (by decide) (fun c27 => ?_) (fun c27 => ?_)
      · rw [h3] at c27
        cases c27
      · refine V.iload dX7_scene_30 rfl ?_
        refine V.iconst (nI 0) dX7_scene_32 (by decide +kernel) ?_
        refine V.sipush (nI 255) dX7_scene_33 (by decide +kernel) ?_
        refine V.cSi (t_in w (nI 0) (nI 255)) dX7_scene_36 k_X7_87 rfl rfl (Nat.le_of_ble_eq_true rfl) rfl ?_
        first | refine V.if_neB 45 dX7_scene_39 (by decide) (fun c39 => ?_) (fun c39 => ?_) | refine V.if_neN 45 dX7_scene_39 (by decide) (by omega) (fun c39 => ?_) (fun c39 => ?_) | refine V.if_ne 45 dX7_scene_39 (by decide) (fun c39 => ?_) (fun c39 => ?_)
        · refine V.ildn 2 dX7_scene_45 rfl rfl ?_
          refine V.iconst (nI 0) dX7_scene_46 (by decide +kernel) ?_
          refine V.bipush (nI 7) dX7_scene_47 (by decide +kernel) ?_
          refine V.cSi (t_in b (nI 0) (nI 7)) dX7_scene_49 k_X7_87 rfl rfl (Nat.le_of_ble_eq_true rfl) rfl ?_
          rw [inB_7, hb]
          first | refine V.if_neB 57 dX7_scene_52 (by decide) (fun c52 => ?_) (fun c52 => ?_) | refine V.if_neN 57 dX7_scene_52 (by decide) (by omega) (fun c52 => ?_) (fun c52 => ?_) | refine V.if_ne 57 dX7_scene_52 (by decide) (fun c52 => ?_) (fun c52 => ?_)
          · cases c52
          · refine V.iconst (-1) dX7_scene_55 (by decide +kernel) ?_
            exact V.ireturn dX7_scene_56 rfl (by first | rfl | decide +kernel) (⟨rfl, rfl⟩)
        · rw [h4] at c39
          cases c39
theorem t_scene_full (k1 : m 1 0 = nI 20) {a b c o w : Int32} (h : (inB a (nI 5) (nI 300) && inB c (nI 0) (nI 2) && inB o (nI 0) (nI 1) && inB w (nI 0) (nI 255)) = true) (hb : isIn b 8 = true) : Mt (dp + 2) 0 0 mX7_scene [.ref 45, .int a, .int b, .int c, .int o, .int w] (HH f ro rs rw rb m) (RI (-4) (HH f ro rs rw rb m)) := by
  refine Mt.of rfl rfl (Nat.le_of_ble_eq_true rfl) rfl ?_
  simp only [Bool.and_eq_true] at h
  obtain ⟨⟨⟨h1, h2⟩, h3⟩, h4⟩ := h
  refine V.ildn 1 dX7_scene_0 rfl rfl ?_
  refine V.iconst (nI 5) dX7_scene_1 (by decide +kernel) ?_
  refine V.sipush (nI 300) dX7_scene_2 (by decide +kernel) ?_
  refine V.cSi (t_in a (nI 5) (nI 300)) dX7_scene_5 k_X7_87 rfl rfl (Nat.le_of_ble_eq_true rfl) rfl ?_
  first | refine V.if_eqB 42 dX7_scene_8 (by decide) (fun c8 => ?_) (fun c8 => ?_) | refine V.if_eqN 42 dX7_scene_8 (by decide) (by omega) (fun c8 => ?_) (fun c8 => ?_) | refine V.if_eq 42 dX7_scene_8 (by decide) (fun c8 => ?_) (fun c8 => ?_)
  · rw [h1] at c8
    cases c8
  · refine V.ildn 3 dX7_scene_11 rfl rfl ?_
    refine V.iconst (nI 0) dX7_scene_12 (by decide +kernel) ?_
    refine V.iconst (nI 2) dX7_scene_13 (by decide +kernel) ?_
    refine V.cSi (t_in c (nI 0) (nI 2)) dX7_scene_14 k_X7_87 rfl rfl (Nat.le_of_ble_eq_true rfl) rfl ?_
    first | refine V.if_eqB 42 dX7_scene_17 (by decide) (fun c17 => ?_) (fun c17 => ?_) | refine V.if_eqN 42 dX7_scene_17 (by decide) (by omega) (fun c17 => ?_) (fun c17 => ?_) | refine V.if_eq 42 dX7_scene_17 (by decide) (fun c17 => ?_) (fun c17 => ?_)
    · rw [h2] at c17
      cases c17
    · refine V.iload dX7_scene_20 rfl ?_
      refine V.iconst (nI 0) dX7_scene_22 (by decide +kernel) ?_
      refine V.iconst (nI 1) dX7_scene_23 (by decide +kernel) ?_
      refine V.cSi (t_in o (nI 0) (nI 1)) dX7_scene_24 k_X7_87 rfl rfl (Nat.le_of_ble_eq_true rfl) rfl ?_
      first | refine V.if_eqB 42 dX7_scene_27 (by decide) (fun c27 => ?_) (fun c27 => ?_) | refine V.if_eqN 42 dX7_scene_27 (by decide) (by omega) (fun c27 => ?_) (fun c27 => ?_) | refine V.if_eq 42 dX7_scene_27 (by decide) (fun c27 => ?_) (fun c27 => ?_)
      · rw [h3] at c27
        cases c27
      · refine V.iload dX7_scene_30 rfl ?_
        refine V.iconst (nI 0) dX7_scene_32 (by decide +kernel) ?_
        refine V.sipush (nI 255) dX7_scene_33 (by decide +kernel) ?_
        refine V.cSi (t_in w (nI 0) (nI 255)) dX7_scene_36 k_X7_87 rfl rfl (Nat.le_of_ble_eq_true rfl) rfl ?_
        first | refine V.if_neB 45 dX7_scene_39 (by decide) (fun c39 => ?_) (fun c39 => ?_) | refine V.if_neN 45 dX7_scene_39 (by decide) (by omega) (fun c39 => ?_) (fun c39 => ?_) | refine V.if_ne 45 dX7_scene_39 (by decide) (fun c39 => ?_) (fun c39 => ?_)
        · refine V.ildn 2 dX7_scene_45 rfl rfl ?_
          refine V.iconst (nI 0) dX7_scene_46 (by decide +kernel) ?_
          refine V.bipush (nI 7) dX7_scene_47 (by decide +kernel) ?_
          refine V.cSi (t_in b (nI 0) (nI 7)) dX7_scene_49 k_X7_87 rfl rfl (Nat.le_of_ble_eq_true rfl) rfl ?_
          rw [inB_7, hb]
          first | refine V.if_neB 57 dX7_scene_52 (by decide) (fun c52 => ?_) (fun c52 => ?_) | refine V.if_neN 57 dX7_scene_52 (by decide) (by omega) (fun c52 => ?_) (fun c52 => ?_) | refine V.if_ne 57 dX7_scene_52 (by decide) (fun c52 => ?_) (fun c52 => ?_)
          · refine V.aldn 0 dX7_scene_57 rfl rfl ?_
            refine V.gf7_1 dX7_scene_58 f_X7_84 ?_
            refine V.top k1 ?_
            refine V.bipush (nI 20) dX7_scene_61 (by decide +kernel) ?_
            first | refine V.icmp_neN 69 dX7_scene_63 (by decide) (by omega) (by omega) (fun c63 => ?_) (fun c63 => ?_) | refine V.icmp_ne 69 dX7_scene_63 (by decide) (fun c63 => ?_) (fun c63 => ?_)
            · exact absurd rfl c63
            · refine V.bipush (-4) dX7_scene_66 (by decide +kernel) ?_
              exact V.ireturn dX7_scene_68 rfl (by first | rfl | decide +kernel) (⟨rfl, rfl⟩)
          · cases c52
        · rw [h4] at c39
          cases c39
theorem t_scene (hM : MS F n nd R D m) (hn : n < 20) {a b c o w : Int32} (h : (inB a (nI 5) (nI 300) && inB c (nI 0) (nI 2) && inB o (nI 0) (nI 1) && inB w (nI 0) (nI 255)) = true) (hb : isIn b 8 = true) : Mt (dp + 2) 0 0 mX7_scene [.ref 45, .int a, .int b, .int c, .int o, .int w] (HH f ro rs rw rb m) (fun r h' => ∃ m', r = some (.int (nI n)) ∧ h' = HH f ro rs rw rb m' ∧ MS (fScene F n a b c o w) (n + 1) nd R (upD D n none) m') := by
  refine Mt.of rfl rfl (Nat.le_of_ble_eq_true rfl) rfl ?_
  simp only [Bool.and_eq_true] at h
  obtain ⟨⟨⟨h1, h2⟩, h3⟩, h4⟩ := h
  obtain ⟨⟨hnd, h13, hF, hp, hR⟩, hD, k1, k8⟩ := hM
  have hfin : MS (fScene F n a b c o w) (n + 1) nd R (upD D n none) (up2 (up2 (up2 (up2 (up2 (up2 (up2 m 2 n a) 3 n b) 4 n c) 5 n o) 6 n w) 8 n (-1)) 1 0 (nI (n + 1))) := by
    have hS : Sm [2, 3, 4, 5, 6, 8, 1] m (up2 (up2 (up2 (up2 (up2 (up2 (up2 m 2 n a) 3 n b) 4 n c) 5 n o) 6 n w) 8 n (-1)) 1 0 (nI (n + 1))) := ((((((Sm.rf.up (by decide)).up (by decide)).up (by decide)).up (by decide)).up (by decide)).up (by decide)).up (by decide)
    refine ⟨⟨hnd, (congrFun (hS 13 (by decide)) 0).trans h13, film_no rfl (film_no rfl (film_up (film_up (film_up (film_up (film_up hF)))))), hp.scene hb, fun d hd => rowM_congr (congrFun (hS 16 (by decide)) d) (fun k _ => congrFun (hS 17 (by decide)) _) (hR d hd)⟩, hD.scene hn, by rw [up2_at, if_pos ⟨rfl, rfl⟩], fun s hs => ?_⟩
    rw [up2_at, if_neg (by omega), up2_at]
    by_cases e : s = n
    · rw [if_pos ⟨rfl, e⟩, e, upD_s]; rfl
    · rw [if_neg (fun z => e z.2), upD_n e, up2_at, if_neg (by omega), up2_at, if_neg (by omega), up2_at, if_neg (by omega), up2_at, if_neg (by omega), up2_at, if_neg (by omega)]
      exact k8 s (by omega)
  have rest : V mX7_scene (dp + 2) 0 0 118 [some (.ref 45), some (.int a), some (.int b), some (.int c), some (.int o), some (.int w)] [.int o, .int (nI n), .ref 49] (HH f ro rs rw rb (up2 (up2 (up2 m 2 n a) 3 n b) 4 n c)) (fun r h' => ∃ m', r = some (.int (nI n)) ∧ h' = HH f ro rs rw rb m' ∧ MS (fScene F n a b c o w) (n + 1) nd R (upD D n none) m') := by
    refine V.ast_49 dX7_scene_118 (ix_nI (by omega) (by decide)) (by rcases inB_01 h3 with rfl | rfl <;> decide +kernel) ?_
    refine V.aldn 0 dX7_scene_119 rfl rfl ?_
    refine V.gf7_6 dX7_scene_120 f_X7_23 ?_
    refine V.aldn 0 dX7_scene_123 rfl rfl ?_
    refine V.gf7_1 dX7_scene_124 f_X7_84 ?_
    refine V.top (y := nI n) (by rw [up2_at, if_neg (by omega), up2_at, if_neg (by omega), up2_at, if_neg (by omega), up2_at, if_neg (by omega)]; exact k1) ?_
    refine V.iload dX7_scene_127 rfl ?_
    refine V.ast_50 dX7_scene_129 (ix_nI (by omega) (by decide)) ?_
    refine V.aldn 0 dX7_scene_130 rfl rfl ?_
    refine V.gf7_8 dX7_scene_131 f_X7_29 ?_
    refine V.aldn 0 dX7_scene_134 rfl rfl ?_
    refine V.gf7_1 dX7_scene_135 f_X7_84 ?_
    refine V.top (y := nI n) (by rw [up2_at, if_neg (by omega), up2_at, if_neg (by omega), up2_at, if_neg (by omega), up2_at, if_neg (by omega), up2_at, if_neg (by omega)]; exact k1) ?_
    refine V.iconst (-1) dX7_scene_138 (by decide +kernel) ?_
    refine V.ast_52 dX7_scene_139 (ix_nI (by omega) (by decide)) ?_
    refine V.aldn 0 dX7_scene_140 rfl rfl ?_
    refine V.dupr dX7_scene_141 ?_
    refine V.gf7_1 dX7_scene_142 f_X7_84 ?_
    refine V.top (y := nI n) (by rw [up2_at, if_neg (by omega), up2_at, if_neg (by omega), up2_at, if_neg (by omega), up2_at, if_neg (by omega), up2_at, if_neg (by omega), up2_at, if_neg (by omega)]; exact k1) ?_
    refine V.iconst (nI 1) dX7_scene_145 (by decide +kernel) ?_
    first | refine V.iaddN dX7_scene_146 ?_ | refine V.iadd dX7_scene_146 ?_
    refine V.pf7_1 dX7_scene_147 (fp_X7_84 rfl) ?_
    refine V.aldn 0 dX7_scene_150 rfl rfl ?_
    refine V.gf7_1 dX7_scene_151 f_X7_84 ?_
    refine V.top (y := nI (n + 1)) (by rw [up2_at, if_pos ⟨rfl, rfl⟩]) ?_
    refine V.iconst (nI 1) dX7_scene_154 (by decide +kernel) ?_
    refine V.isubN dX7_scene_155 (by omega) ?_
    exact V.ireturn dX7_scene_156 rfl (by first | rfl | decide +kernel) (⟨_, by rw [Nat.add_sub_cancel], rfl, hfin⟩)
  refine V.ildn 1 dX7_scene_0 rfl rfl ?_
  refine V.iconst (nI 5) dX7_scene_1 (by decide +kernel) ?_
  refine V.sipush (nI 300) dX7_scene_2 (by decide +kernel) ?_
  refine V.cSi (t_in a (nI 5) (nI 300)) dX7_scene_5 k_X7_87 rfl rfl (Nat.le_of_ble_eq_true rfl) rfl ?_
  first | refine V.if_eqB 42 dX7_scene_8 (by decide) (fun c8 => ?_) (fun c8 => ?_) | refine V.if_eqN 42 dX7_scene_8 (by decide) (by omega) (fun c8 => ?_) (fun c8 => ?_) | refine V.if_eq 42 dX7_scene_8 (by decide) (fun c8 => ?_) (fun c8 => ?_)
  · rw [h1] at c8
    cases c8
  · refine V.ildn 3 dX7_scene_11 rfl rfl ?_
    refine V.iconst (nI 0) dX7_scene_12 (by decide +kernel) ?_
    refine V.iconst (nI 2) dX7_scene_13 (by decide +kernel) ?_
    refine V.cSi (t_in c (nI 0) (nI 2)) dX7_scene_14 k_X7_87 rfl rfl (Nat.le_of_ble_eq_true rfl) rfl ?_
    first | refine V.if_eqB 42 dX7_scene_17 (by decide) (fun c17 => ?_) (fun c17 => ?_) | refine V.if_eqN 42 dX7_scene_17 (by decide) (by omega) (fun c17 => ?_) (fun c17 => ?_) | refine V.if_eq 42 dX7_scene_17 (by decide) (fun c17 => ?_) (fun c17 => ?_)
    · rw [h2] at c17
      cases c17
    · refine V.iload dX7_scene_20 rfl ?_
      refine V.iconst (nI 0) dX7_scene_22 (by decide +kernel) ?_
      refine V.iconst (nI 1) dX7_scene_23 (by decide +kernel) ?_
      refine V.cSi (t_in o (nI 0) (nI 1)) dX7_scene_24 k_X7_87 rfl rfl (Nat.le_of_ble_eq_true rfl) rfl ?_
      first | refine V.if_eqB 42 dX7_scene_27 (by decide) (fun c27 => ?_) (fun c27 => ?_) | refine V.if_eqN 42 dX7_scene_27 (by decide) (by omega) (fun c27 => ?_) (fun c27 => ?_) | refine V.if_eq 42 dX7_scene_27 (by decide) (fun c27 => ?_) (fun c27 => ?_)
      · rw [h3] at c27
        cases c27
      · refine V.iload dX7_scene_30 rfl ?_
        refine V.iconst (nI 0) dX7_scene_32 (by decide +kernel) ?_
        refine V.sipush (nI 255) dX7_scene_33 (by decide +kernel) ?_
        refine V.cSi (t_in w (nI 0) (nI 255)) dX7_scene_36 k_X7_87 rfl rfl (Nat.le_of_ble_eq_true rfl) rfl ?_
        first | refine V.if_neB 45 dX7_scene_39 (by decide) (fun c39 => ?_) (fun c39 => ?_) | refine V.if_neN 45 dX7_scene_39 (by decide) (by omega) (fun c39 => ?_) (fun c39 => ?_) | refine V.if_ne 45 dX7_scene_39 (by decide) (fun c39 => ?_) (fun c39 => ?_)
        · refine V.ildn 2 dX7_scene_45 rfl rfl ?_
          refine V.iconst (nI 0) dX7_scene_46 (by decide +kernel) ?_
          refine V.bipush (nI 7) dX7_scene_47 (by decide +kernel) ?_
          refine V.cSi (t_in b (nI 0) (nI 7)) dX7_scene_49 k_X7_87 rfl rfl (Nat.le_of_ble_eq_true rfl) rfl ?_
          rw [inB_7, hb]
          first | refine V.if_neB 57 dX7_scene_52 (by decide) (fun c52 => ?_) (fun c52 => ?_) | refine V.if_neN 57 dX7_scene_52 (by decide) (by omega) (fun c52 => ?_) (fun c52 => ?_) | refine V.if_ne 57 dX7_scene_52 (by decide) (fun c52 => ?_) (fun c52 => ?_)
          · refine V.aldn 0 dX7_scene_57 rfl rfl ?_
            refine V.gf7_1 dX7_scene_58 f_X7_84 ?_
            refine V.top k1 ?_
            refine V.bipush (nI 20) dX7_scene_61 (by decide +kernel) ?_
            first | refine V.icmp_neN 69 dX7_scene_63 (by decide) (by omega) (by omega) (fun c63 => ?_) (fun c63 => ?_) | refine V.icmp_ne 69 dX7_scene_63 (by decide) (fun c63 => ?_) (fun c63 => ?_)
            · refine V.aldn 0 dX7_scene_69 rfl rfl ?_
              refine V.gf7_2 dX7_scene_70 f_X7_7 ?_
              refine V.aldn 0 dX7_scene_73 rfl rfl ?_
              refine V.gf7_1 dX7_scene_74 f_X7_84 ?_
              refine V.top k1 ?_
              refine V.ildn 1 dX7_scene_77 rfl rfl ?_
              refine V.ast_46 dX7_scene_78 (ix_nI (by omega) (by decide)) ?_
              refine V.aldn 0 dX7_scene_79 rfl rfl ?_
              refine V.gf7_3 dX7_scene_80 f_X7_13 ?_
              refine V.aldn 0 dX7_scene_83 rfl rfl ?_
              refine V.gf7_1 dX7_scene_84 f_X7_84 ?_
              refine V.top (y := nI n) (by rw [up2_at, if_neg (by omega)]; exact k1) ?_
              refine V.ildn 2 dX7_scene_87 rfl rfl ?_
              refine V.ast_47 dX7_scene_88 (ix_nI (by omega) (by decide)) ?_
              refine V.aldn 0 dX7_scene_89 rfl rfl ?_
              refine V.gf7_4 dX7_scene_90 f_X7_16 ?_
              refine V.aldn 0 dX7_scene_93 rfl rfl ?_
              refine V.gf7_1 dX7_scene_94 f_X7_84 ?_
              refine V.top (y := nI n) (by rw [up2_at, if_neg (by omega), up2_at, if_neg (by omega)]; exact k1) ?_
              refine V.ildn 3 dX7_scene_97 rfl rfl ?_
              refine V.ast_48 dX7_scene_98 (ix_nI (by omega) (by decide)) ?_
              refine V.aldn 0 dX7_scene_99 rfl rfl ?_
              refine V.gf7_5 dX7_scene_100 f_X7_19 ?_
              refine V.aldn 0 dX7_scene_103 rfl rfl ?_
              refine V.gf7_1 dX7_scene_104 f_X7_84 ?_
              refine V.top (y := nI n) (by rw [up2_at, if_neg (by omega), up2_at, if_neg (by omega), up2_at, if_neg (by omega)]; exact k1) ?_
              refine V.iload dX7_scene_107 rfl ?_
              refine V.iconst (nI 1) dX7_scene_109 (by decide +kernel) ?_
              refine V.icmp_ne 117 dX7_scene_110 (by decide) (fun c110 => ?_) (fun c110 => ?_)
              · refine V.iconst (nI 0) dX7_scene_117 (by decide +kernel) ?_
                refine V.top (y := o) (by rcases inB_01 h3 with q | q; exact q.symm; exact absurd q c110) ?_
                exact rest
              · refine V.iconst (nI 1) dX7_scene_113 (by decide +kernel) ?_
                refine V.top c110.symm ?_
                refine V.goto 118 dX7_scene_114 (by decide) ?_
                exact rest
            · exact absurd c63 (by omega)
          · cases c52
        · rw [h4] at c39
          cases c39
end MODEL
