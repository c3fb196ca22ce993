/-! the class's face: looks -/
section CLASS
variable {f ro rs : Nat → Nat → Int32} {rw rb : Nat → Nat} {m : Nat → Nat → Int32} {dp : Nat} {F : Nat → Nat → Int32} {n nd : Nat} {R : Nat → List Nat} {D : Nat → Option Nat}
theorem pq_ri {M6 M7 : MD} {args : List Value} {v : Int32} {h : List AC} (h6 : Mt 20 0 0 M6 (.ref 0 :: args) h (RI v h)) (h7 : Mt 20 0 0 M7 (.ref 45 :: args) h (RI v h)) (hg : GH h) : Mt 20 0 0 M6 (.ref 0 :: args) h (PQ M7 args) := h6.weaken (fun r h' q => by rw [q.1, q.2]; exact PQ.ri h7 hg)
theorem gh_of (hJ : JV F n nd R D) (hP : CP F n nd R f ro rs rw) (hM : MS F n nd R D m) : GH (HH f ro rs rw rb m) := ⟨F, n, nd, R, D, f, ro, rs, rw, rb, m, rfl, hJ, hP, hM⟩
theorem a_about (hO : GO F) (hD : DR n nd R D) (hP : CP F n nd R f ro rs rw) (x w : Int32) : Mt (dp + 4) 0 0 mX6_about [.ref 0, .int x, .int w] (HH f ro rs rw rb m) (RI (if isIn x n = true ∧ isIn w 8 = true then vAbout F R D x.toNatClampNeg w.toNatClampNeg else -1) (HH f ro rs rw rb m)) := by
  refine Mt.of rfl rfl (Nat.le_of_ble_eq_true rfl) rfl ?_
  have hn20 := hP.1.1
  have hC := hP.2.2.2.1
  generalize hv : (if isIn x n = true ∧ isIn w 8 = true then vAbout F R D x.toNatClampNeg w.toNatClampNeg else -1) = v
  have swt : isIn x n = true → V mX6_about (dp + 4) 0 0 14 [some (.ref 0), some (.int x), some (.int w)] [.int w] (HH f ro rs rw rb m) (RI v (HH f ro rs rw rb m)) := by
    intro hx
    obtain ⟨s, hs, rfl⟩ := (isIn_iff (by omega)).mp hx
    have hcl : (nI s).toNatClampNeg = s := nI_clamp (by omega)
    by_cases hw : isIn w 8 = true
    · obtain ⟨j, hj, rfl⟩ := (isIn_iff (by decide)).mp hw
      have hcj : (nI j).toNatClampNeg = j := nI_clamp (by omega)
      rw [if_pos ⟨hx, hw⟩, hcl, hcj] at hv
      rcases (show j = 0 ∨ j = 1 ∨ j = 2 ∨ j = 3 ∨ j = 4 ∨ j = 5 ∨ j = 6 ∨ j = 7 by omega) with rfl | rfl | rfl | rfl | rfl | rfl | rfl | rfl
      · refine V.tabIn (off := 46) 60 dX6_about_14 (by decide +kernel) (by decide +kernel) (by decide +kernel) (by decide) ?_
        refine V.aldn 0 dX6_about_60 rfl rfl ?_
        refine V.gf6_0 dX6_about_61 f_X6_10 ?_
        refine V.gf2_0 dX6_about_64 f_X6_99 ?_
        refine V.ildn 1 dX6_about_67 rfl rfl ?_
        refine V.ald_2 dX6_about_68 (ix_nI (by omega) (by decide)) ?_
        refine V.top ((congrFun (hC 2 rfl) s).trans hv) ?_
        exact V.ireturn dX6_about_69 rfl (by first | rfl | decide +kernel) (⟨rfl, rfl⟩)
      · refine V.tabIn (off := 56) 70 dX6_about_14 (by decide +kernel) (by decide +kernel) (by decide +kernel) (by decide) ?_
        refine V.aldn 0 dX6_about_70 rfl rfl ?_
        refine V.gf6_0 dX6_about_71 f_X6_10 ?_
        refine V.gf2_1 dX6_about_74 f_X6_102 ?_
        refine V.ildn 1 dX6_about_77 rfl rfl ?_
        refine V.ald_3 dX6_about_78 (ix_nI (by omega) (by decide)) ?_
        refine V.top ((congrFun (hC 3 rfl) s).trans hv) ?_
        exact V.ireturn dX6_about_79 rfl (by first | rfl | decide +kernel) (⟨rfl, rfl⟩)
      · refine V.tabIn (off := 66) 80 dX6_about_14 (by decide +kernel) (by decide +kernel) (by decide +kernel) (by decide) ?_
        refine V.aldn 0 dX6_about_80 rfl rfl ?_
        refine V.gf6_0 dX6_about_81 f_X6_10 ?_
        refine V.gf2_2 dX6_about_84 f_X6_105 ?_
        refine V.ildn 1 dX6_about_87 rfl rfl ?_
        refine V.ald_4 dX6_about_88 (ix_nI (by omega) (by decide)) ?_
        refine V.top ((congrFun (hC 4 rfl) s).trans hv) ?_
        exact V.ireturn dX6_about_89 rfl (by first | rfl | decide +kernel) (⟨rfl, rfl⟩)
      · refine V.tabIn (off := 76) 90 dX6_about_14 (by decide +kernel) (by decide +kernel) (by decide +kernel) (by decide) ?_
        have hv : (if F 5 s = 0 then nI 0 else nI 1) = v := hv
        have hv2 : F 5 s = v := by
          rcases hO s (by omega) with q | q
          · rw [← hv, q, if_pos nI_0]
          · rw [← hv, q, if_neg (by decide +kernel)]
        refine V.aldn 0 dX6_about_90 rfl rfl ?_
        refine V.gf6_0 dX6_about_91 f_X6_10 ?_
        refine V.gf2_3 dX6_about_94 f_X6_108 ?_
        refine V.ildn 1 dX6_about_97 rfl rfl ?_
        refine V.ald_5 dX6_about_98 (ix_nI (by omega) (by decide)) ?_
        refine V.top ((congrFun (hC 5 rfl) s).trans hv2) ?_
        exact V.ireturn dX6_about_99 rfl (by first | rfl | decide +kernel) (⟨rfl, rfl⟩)
      · refine V.tabIn (off := 86) 100 dX6_about_14 (by decide +kernel) (by decide +kernel) (by decide +kernel) (by decide) ?_
        refine V.aldn 0 dX6_about_100 rfl rfl ?_
        refine V.gf6_0 dX6_about_101 f_X6_10 ?_
        refine V.gf2_4 dX6_about_104 f_X6_111 ?_
        refine V.ildn 1 dX6_about_107 rfl rfl ?_
        refine V.ald_6 dX6_about_108 (ix_nI (by omega) (by decide)) ?_
        refine V.top ((congrFun (hC 6 rfl) s).trans hv) ?_
        exact V.ireturn dX6_about_109 rfl (by first | rfl | decide +kernel) (⟨rfl, rfl⟩)
      · refine V.tabIn (off := 96) 110 dX6_about_14 (by decide +kernel) (by decide +kernel) (by decide +kernel) (by decide) ?_
        refine V.aldn 0 dX6_about_110 rfl rfl ?_
        refine V.gf6_1 dX6_about_111 f_X6_21 ?_
        refine V.ildn 1 dX6_about_114 rfl rfl ?_
        refine V.cVi ((c_dayWith hP hD hs : Mt (dp + 1 + 2) 0 0 _ _ _ _)) dX6_about_115 k_X6_114 rfl rfl rfl (Nat.le_of_ble_eq_true rfl) rfl ?_
        refine V.top hv ?_
        exact V.ireturn dX6_about_118 rfl (by first | rfl | decide +kernel) (⟨rfl, rfl⟩)
      · refine V.tabIn (off := 105) 119 dX6_about_14 (by decide +kernel) (by decide +kernel) (by decide +kernel) (by decide) ?_
        refine V.aldn 0 dX6_about_119 rfl rfl ?_
        refine V.gf6_1 dX6_about_120 f_X6_21 ?_
        refine V.ildn 1 dX6_about_123 rfl rfl ?_
        refine V.cVi ((c_placeInRow hP hD hs : Mt (dp + 3) 0 0 _ _ _ _)) dX6_about_124 k_X6_117 rfl rfl rfl (Nat.le_of_ble_eq_true rfl) rfl ?_
        refine V.top hv ?_
        exact V.ireturn dX6_about_127 rfl (by first | rfl | decide +kernel) (⟨rfl, rfl⟩)
      · refine V.tabIn (off := 114) 128 dX6_about_14 (by decide +kernel) (by decide +kernel) (by decide +kernel) (by decide) ?_
        refine V.aldn 0 dX6_about_128 rfl rfl ?_
        refine V.gf6_0 dX6_about_129 f_X6_10 ?_
        refine V.gf2_5 dX6_about_132 f_X6_89 ?_
        refine V.ildn 1 dX6_about_135 rfl rfl ?_
        refine V.ald_7 dX6_about_136 (ix_nI (by omega) (by decide)) ?_
        refine V.top ((congrFun (hC 7 rfl) s).trans hv) ?_
        exact V.ireturn dX6_about_137 rfl (by first | rfl | decide +kernel) (⟨rfl, rfl⟩)
    · rw [if_neg (fun q => hw q.2)] at hv
      refine V.tabOut 138 dX6_about_14 (tabOut_of (k := 8) (by decide) (by simpa using hw)) (by decide) ?_
      refine V.iconst (-1) dX6_about_138 (by decide +kernel) ?_
      refine V.top hv ?_
      exact V.ireturn dX6_about_139 rfl (by first | rfl | decide +kernel) (⟨rfl, rfl⟩)
  refine V.aldn 0 dX6_about_0 rfl rfl ?_
  refine V.gf6_0 dX6_about_1 f_X6_10 ?_
  refine V.ildn 1 dX6_about_4 rfl rfl ?_
  refine V.cVi ((c_hasScene hP.2.1 x : Mt (dp + 2 + 1) 0 0 _ _ _ _)) dX6_about_5 k_X6_78 rfl rfl rfl (Nat.le_of_ble_eq_true rfl) rfl ?_
  first | refine V.if_neB 13 dX6_about_8 (by decide) (fun c8 => ?_) (fun c8 => ?_) | refine V.if_neN 13 dX6_about_8 (by decide) (by omega) (fun c8 => ?_) (fun c8 => ?_) | refine V.if_ne 13 dX6_about_8 (by decide) (fun c8 => ?_) (fun c8 => ?_)
  · refine V.ildn 2 dX6_about_13 rfl rfl ?_
    exact swt c8
  · refine V.iconst (-1) dX6_about_11 (by decide +kernel) ?_
    exact V.ireturn dX6_about_12 rfl (by first | rfl | decide +kernel) (⟨by rw [← hv, if_neg (fun q => by rw [c8] at q; cases q.1)], rfl⟩)
theorem a_row (hP : CP F n nd R f ro rs rw) (x w : Int32) : Mt (dp + 2) 0 0 mX6_row [.ref 0, .int x, .int w] (HH f ro rs rw rb m) (RI (if isIn x nd = true ∧ isIn w (R x.toNatClampNeg).length = true then nI ((R x.toNatClampNeg).getD w.toNatClampNeg 0) else -1) (HH f ro rs rw rb m)) := by
  refine Mt.of rfl rfl (Nat.le_of_ble_eq_true rfl) rfl ?_
  have hnd := hP.1.2.1
  generalize hv : (if isIn x nd = true ∧ isIn w (R x.toNatClampNeg).length = true then nI ((R x.toNatClampNeg).getD w.toNatClampNeg 0) else -1) = v
  have go : isIn x nd = true → V mX6_row (dp + 2) 0 0 13 [some (.ref 0), some (.int x), some (.int w)] [] (HH f ro rs rw rb m) (RI v (HH f ro rs rw rb m)) := by
    intro hx
    obtain ⟨d, hd, rfl⟩ := (isIn_iff (by omega)).mp hx
    have hcl : (nI d).toNatClampNeg = d := nI_clamp (by omega)
    rw [hcl] at hv
    have hk := hP.2.2.2.2.1.1 d (by omega)
    have e : (if isIn w (R d).length = true then nI ((R d).getD w.toNatClampNeg 0) else -1) = v := by
      rw [← hv]
      by_cases q : isIn w (R d).length = true
      · rw [if_pos q, if_pos ⟨hx, q⟩]
      · rw [if_neg q, if_neg (fun z => q z.2)]
    refine V.aldn 0 dX6_row_13 rfl rfl ?_
    refine V.gf6_1 dX6_row_14 f_X6_21 ?_
    refine V.gf3_1 dX6_row_17 f_X6_123 ?_
    refine V.ildn 1 dX6_row_20 rfl rfl ?_
    refine V.ald_13 dX6_row_21 (ix_nI (by omega) (by decide)) ?_
    refine V.ildn 2 dX6_row_22 rfl rfl ?_
    refine V.cVi ((c_sceneAt hk (hP.2.2.2.2.2 d (by omega)).1 w : Mt (dp + 1) 0 0 _ _ _ _)) dX6_row_23 k_X6_127 rfl rfl (HH_row (by omega)) (Nat.le_of_ble_eq_true rfl) rfl ?_
    refine V.top e ?_
    exact V.ireturn dX6_row_26 rfl (by first | rfl | decide +kernel) (⟨rfl, rfl⟩)
  refine V.aldn 0 dX6_row_0 rfl rfl ?_
  refine V.gf6_1 dX6_row_1 f_X6_21 ?_
  refine V.ildn 1 dX6_row_4 rfl rfl ?_
  refine V.cVi ((c_hasDay hP.2.2.1 x : Mt (dp + 1) 0 0 _ _ _ _)) dX6_row_5 k_X6_120 rfl rfl rfl (Nat.le_of_ble_eq_true rfl) rfl ?_
  first | refine V.if_neB 13 dX6_row_8 (by decide) (fun c8 => ?_) (fun c8 => ?_) | refine V.if_neN 13 dX6_row_8 (by decide) (by omega) (fun c8 => ?_) (fun c8 => ?_) | refine V.if_ne 13 dX6_row_8 (by decide) (fun c8 => ?_) (fun c8 => ?_)
  · exact go c8
  · refine V.iconst (-1) dX6_row_11 (by decide +kernel) ?_
    exact V.ireturn dX6_row_12 rfl (by first | rfl | decide +kernel) (⟨by rw [← hv, if_neg (fun q => by rw [c8] at q; cases q.1)], rfl⟩)
theorem a_of (hP : CP F n nd R f ro rs rw) (x w : Int32) : Mt (dp + 2) 0 0 mX6_of [.ref 0, .int x, .int w] (HH f ro rs rw rb m) (RI (if isIn x nd = true ∧ isIn w 6 = true then vOf F (R x.toNatClampNeg) w.toNatClampNeg else -1) (HH f ro rs rw rb m)) := by
  refine Mt.of rfl rfl (Nat.le_of_ble_eq_true rfl) rfl ?_
  have hnd := hP.1.2.1
  generalize hv : (if isIn x nd = true ∧ isIn w 6 = true then vOf F (R x.toNatClampNeg) w.toNatClampNeg else -1) = v
  have go : isIn x nd = true → V mX6_of (dp + 2) 0 0 13 [some (.ref 0), some (.int x), some (.int w), none] [] (HH f ro rs rw rb m) (RI v (HH f ro rs rw rb m)) := by
    intro hx
    obtain ⟨d, hd, rfl⟩ := (isIn_iff (by omega)).mp hx
    have hcl : (nI d).toNatClampNeg = d := nI_clamp (by omega)
    have h20 := hP.lt20 (d := d) (by omega)
    obtain ⟨⟨-, -, hB, hpl⟩, -, -, -, hw, hR⟩ := hP
    have hk := hw.1 d (by omega)
    obtain ⟨⟨e1, e5, es⟩, ⟨c1, c2, c3, c4, c5, c6, c7⟩, c9⟩ := hR d (by omega)
    have swt : V mX6_of (dp + 2) 0 0 24 [some (.ref 0), some (.int (nI d)), some (.int w), some (.ref (16 + 2 * rw d))] [.int w] (HH f ro rs rw rb m) (RI v (HH f ro rs rw rb m)) := by
      by_cases hw : isIn w 6 = true
      · obtain ⟨j, hj, rfl⟩ := (isIn_iff (by decide)).mp hw
        have hcj : (nI j).toNatClampNeg = j := nI_clamp (by omega)
        rw [if_pos ⟨hx, hw⟩, hcl, hcj] at hv
        rcases (show j = 0 ∨ j = 1 ∨ j = 2 ∨ j = 3 ∨ j = 4 ∨ j = 5 by omega) with rfl | rfl | rfl | rfl | rfl | rfl
        · refine V.tabIn (off := 40) 64 dX6_of_24 (by decide +kernel) (by decide +kernel) (by decide +kernel) (by decide) ?_
          refine V.aldn 3 dX6_of_64 rfl rfl ?_
          refine V.gf5_1 dX6_of_65 f_X6_132 (by omega) ?_
          refine V.top (e1.trans hv) ?_
          exact V.ireturn dX6_of_68 rfl (by first | rfl | decide +kernel) (⟨rfl, rfl⟩)
        · refine V.tabIn (off := 45) 69 dX6_of_24 (by decide +kernel) (by decide +kernel) (by decide +kernel) (by decide) ?_
          refine V.aldn 3 dX6_of_69 rfl rfl ?_
          refine V.gf5_4 dX6_of_70 f_X6_136 (by omega) ?_
          refine V.top (c3.trans hv) ?_
          exact V.ireturn dX6_of_73 rfl (by first | rfl | decide +kernel) (⟨rfl, rfl⟩)
        · refine V.tabIn (off := 50) 74 dX6_of_24 (by decide +kernel) (by decide +kernel) (by decide +kernel) (by decide) ?_
          obtain ⟨t, ht, et⟩ := mins_bd hB hpl e5 h20
          have hv : ovr (mins F (R d)) = v := hv
          refine V.aldn 3 dX6_of_74 rfl rfl ?_
          refine V.cVi ((c_halfHoursOver hk (c3.trans et) ht : Mt (dp + 1) 0 0 _ _ _ _)) dX6_of_75 k_X6_138 rfl rfl (HH_row (by omega)) (Nat.le_of_ble_eq_true rfl) rfl ?_
          refine V.top (y := v) (by rw [← et]; exact hv) ?_
          exact V.ireturn dX6_of_78 rfl (by first | rfl | decide +kernel) (⟨rfl, rfl⟩)
        · refine V.tabIn (off := 55) 79 dX6_of_24 (by decide +kernel) (by decide +kernel) (by decide +kernel) (by decide) ?_
          refine V.aldn 3 dX6_of_79 rfl rfl ?_
          refine V.gf5_6 dX6_of_80 f_X6_142 (by omega) ?_
          refine V.top (c5.trans hv) ?_
          exact V.ireturn dX6_of_83 rfl (by first | rfl | decide +kernel) (⟨rfl, rfl⟩)
        · refine V.tabIn (off := 60) 84 dX6_of_24 (by decide +kernel) (by decide +kernel) (by decide +kernel) (by decide) ?_
          refine V.aldn 3 dX6_of_84 rfl rfl ?_
          refine V.gf5_5 dX6_of_85 f_X6_144 (by omega) ?_
          refine V.top (c4.trans hv) ?_
          exact V.ireturn dX6_of_88 rfl (by first | rfl | decide +kernel) (⟨rfl, rfl⟩)
        · refine V.tabIn (off := 65) 89 dX6_of_24 (by decide +kernel) (by decide +kernel) (by decide +kernel) (by decide) ?_
          have hv : bI (hasL F (R d) (nI 2)) = v := hv
          rw [nit_any] at c7
          refine V.aldn 3 dX6_of_89 rfl rfl ?_
          refine V.gf5_8 dX6_of_90 f_X6_147 (by omega) ?_
          refine V.top c7 ?_
          first | refine V.if_eqB 100 dX6_of_93 (by decide) (fun c93 => ?_) (fun c93 => ?_) | refine V.if_eqN 100 dX6_of_93 (by decide) (by omega) (fun c93 => ?_) (fun c93 => ?_) | refine V.if_eq 100 dX6_of_93 (by decide) (fun c93 => ?_) (fun c93 => ?_)
          · refine V.iconst (nI 0) dX6_of_100 (by decide +kernel) ?_
            exact V.ireturn dX6_of_101 rfl (by first | rfl | decide +kernel) (⟨by rw [← hv, c93]; rfl, rfl⟩)
          · refine V.iconst (nI 1) dX6_of_96 (by decide +kernel) ?_
            refine V.goto 101 dX6_of_97 (by decide) ?_
            exact V.ireturn dX6_of_101 rfl (by first | rfl | decide +kernel) (⟨by rw [← hv, c93]; rfl, rfl⟩)
      · rw [if_neg (fun q => hw q.2)] at hv
        refine V.tabOut 102 dX6_of_24 (tabOut_of (k := 6) (by decide) (by simpa using hw)) (by decide) ?_
        refine V.iconst (-1) dX6_of_102 (by decide +kernel) ?_
        refine V.top hv ?_
        exact V.ireturn dX6_of_103 rfl (by first | rfl | decide +kernel) (⟨rfl, rfl⟩)
    refine V.aldn 0 dX6_of_13 rfl rfl ?_
    refine V.gf6_1 dX6_of_14 f_X6_21 ?_
    refine V.gf3_1 dX6_of_17 f_X6_123 ?_
    refine V.ildn 1 dX6_of_20 rfl rfl ?_
    refine V.ald_13 dX6_of_21 (ix_nI (by omega) (by decide)) ?_
    refine V.astn 3 dX6_of_22 rfl (Nat.le_of_ble_eq_true rfl) ?_
    refine V.ildn 2 dX6_of_23 rfl rfl ?_
    exact swt
  refine V.aldn 0 dX6_of_0 rfl rfl ?_
  refine V.gf6_1 dX6_of_1 f_X6_21 ?_
  refine V.ildn 1 dX6_of_4 rfl rfl ?_
  refine V.cVi ((c_hasDay hP.2.2.1 x : Mt (dp + 1) 0 0 _ _ _ _)) dX6_of_5 k_X6_120 rfl rfl rfl (Nat.le_of_ble_eq_true rfl) rfl ?_
  first | refine V.if_neB 13 dX6_of_8 (by decide) (fun c8 => ?_) (fun c8 => ?_) | refine V.if_neN 13 dX6_of_8 (by decide) (by omega) (fun c8 => ?_) (fun c8 => ?_) | refine V.if_ne 13 dX6_of_8 (by decide) (fun c8 => ?_) (fun c8 => ?_)
  · exact go c8
  · refine V.iconst (-1) dX6_of_11 (by decide +kernel) ?_
    exact V.ireturn dX6_of_12 rfl (by first | rfl | decide +kernel) (⟨by rw [← hv, if_neg (fun q => by rw [c8] at q; cases q.1)], rfl⟩)
theorem a_held (hP : CP F n nd R f ro rs rw) (x w : Int32) : Mt (dp + 4) 0 0 mX6_held [.ref 0, .int x, .int w] (HH f ro rs rw rb m) (RI (if isIn x 8 = true ∧ isIn w 4 = true then vHeld F nd R x.toNatClampNeg w.toNatClampNeg else -1) (HH f ro rs rw rb m)) := by
  refine Mt.of rfl rfl (Nat.le_of_ble_eq_true rfl) rfl ?_
  generalize hv : (if isIn x 8 = true ∧ isIn w 4 = true then vHeld F nd R x.toNatClampNeg w.toNatClampNeg else -1) = v
  have swt : isIn x 8 = true → V mX6_held (dp + 4) 0 0 10 [some (.ref 0), some (.int x), some (.int w)] [.int w] (HH f ro rs rw rb m) (RI v (HH f ro rs rw rb m)) := by
    intro hx
    obtain ⟨p, hp, rfl⟩ := (isIn_iff (by decide)).mp hx
    have hcl : (nI p).toNatClampNeg = p := nI_clamp (by omega)
    by_cases hw : isIn w 4 = true
    · obtain ⟨j, hj, rfl⟩ := (isIn_iff (by decide)).mp hw
      have hcj : (nI j).toNatClampNeg = j := nI_clamp (by omega)
      rw [if_pos ⟨hx, hw⟩, hcl, hcj] at hv
      rcases (show j = 0 ∨ j = 1 ∨ j = 2 ∨ j = 3 by omega) with rfl | rfl | rfl | rfl
      · refine V.tabIn (off := 30) 40 dX6_held_10 (by decide +kernel) (by decide +kernel) (by decide +kernel) (by decide) ?_
        refine V.aldn 0 dX6_held_40 rfl rfl ?_
        refine V.gf6_1 dX6_held_41 f_X6_21 ?_
        refine V.ildn 1 dX6_held_44 rfl rfl ?_
        refine V.cVi ((c_firstDayOf hP hp : Mt (dp + 3) 0 0 _ _ _ _)) dX6_held_45 k_X6_151 rfl rfl rfl (Nat.le_of_ble_eq_true rfl) rfl ?_
        refine V.top hv ?_
        exact V.ireturn dX6_held_48 rfl (by first | rfl | decide +kernel) (⟨rfl, rfl⟩)
      · refine V.tabIn (off := 39) 49 dX6_held_10 (by decide +kernel) (by decide +kernel) (by decide +kernel) (by decide) ?_
        refine V.aldn 0 dX6_held_49 rfl rfl ?_
        refine V.gf6_1 dX6_held_50 f_X6_21 ?_
        refine V.ildn 1 dX6_held_53 rfl rfl ?_
        refine V.cVi ((c_lastDayOf hP hp : Mt (dp + 3) 0 0 _ _ _ _)) dX6_held_54 k_X6_154 rfl rfl rfl (Nat.le_of_ble_eq_true rfl) rfl ?_
        refine V.top hv ?_
        exact V.ireturn dX6_held_57 rfl (by first | rfl | decide +kernel) (⟨rfl, rfl⟩)
      · refine V.tabIn (off := 48) 58 dX6_held_10 (by decide +kernel) (by decide +kernel) (by decide +kernel) (by decide) ?_
        refine V.aldn 0 dX6_held_58 rfl rfl ?_
        refine V.gf6_1 dX6_held_59 f_X6_21 ?_
        refine V.ildn 1 dX6_held_62 rfl rfl ?_
        refine V.cVi ((c_daysWith hP hp : Mt (dp + 3) 0 0 _ _ _ _)) dX6_held_63 k_X6_157 rfl rfl rfl (Nat.le_of_ble_eq_true rfl) rfl ?_
        refine V.top hv ?_
        exact V.ireturn dX6_held_66 rfl (by first | rfl | decide +kernel) (⟨rfl, rfl⟩)
      · refine V.tabIn (off := 57) 67 dX6_held_10 (by decide +kernel) (by decide +kernel) (by decide +kernel) (by decide) ?_
        refine V.aldn 0 dX6_held_67 rfl rfl ?_
        refine V.gf6_2 dX6_held_68 f_X6_30 ?_
        refine V.ildn 1 dX6_held_71 rfl rfl ?_
        refine V.cVi ((c_paidDays hP hp : Mt (dp + 3) 0 0 _ _ _ _)) dX6_held_72 k_X6_160 rfl rfl rfl (Nat.le_of_ble_eq_true rfl) rfl ?_
        refine V.top hv ?_
        exact V.ireturn dX6_held_75 rfl (by first | rfl | decide +kernel) (⟨rfl, rfl⟩)
    · rw [if_neg (fun q => hw q.2)] at hv
      refine V.tabOut 76 dX6_held_10 (tabOut_of (k := 4) (by decide) (by simpa using hw)) (by decide) ?_
      refine V.iconst (-1) dX6_held_76 (by decide +kernel) ?_
      refine V.top hv ?_
      exact V.ireturn dX6_held_77 rfl (by first | rfl | decide +kernel) (⟨rfl, rfl⟩)
  refine V.ildn 1 dX6_held_0 rfl rfl ?_
  refine V.cSi ((c_isPlayer x : Mt (dp + 1 + 2) 0 0 _ _ _ _)) dX6_held_1 k_X6_55 rfl rfl (Nat.le_of_ble_eq_true rfl) rfl ?_
  first | refine V.if_neB 9 dX6_held_4 (by decide) (fun c4 => ?_) (fun c4 => ?_) | refine V.if_neN 9 dX6_held_4 (by decide) (by omega) (fun c4 => ?_) (fun c4 => ?_) | refine V.if_ne 9 dX6_held_4 (by decide) (fun c4 => ?_) (fun c4 => ?_)
  · refine V.ildn 2 dX6_held_9 rfl rfl ?_
    exact swt c4
  · refine V.iconst (-1) dX6_held_7 (by decide +kernel) ?_
    exact V.ireturn dX6_held_8 rfl (by first | rfl | decide +kernel) (⟨by rw [← hv, if_neg (fun q => by rw [c4] at q; cases q.1)], rfl⟩)
theorem a_cost (hP : CP F n nd R f ro rs rw) (hF : FC F) (w : Int32) : Mt (dp + 6) 0 0 mX6_cost [.ref 0, .int w] (HH f ro rs rw rb m) (RI (if isIn w 4 = true then vCost F nd R w.toNatClampNeg else -1) (HH f ro rs rw rb m)) := by
  refine Mt.of rfl rfl (Nat.le_of_ble_eq_true rfl) rfl ?_
  generalize hv : (if isIn w 4 = true then vCost F nd R w.toNatClampNeg else -1) = v
  refine V.ildn 1 dX6_cost_0 rfl rfl ?_
  by_cases hw : isIn w 4 = true
  · obtain ⟨j, hj, rfl⟩ := (isIn_iff (by decide)).mp hw
    have hcj : (nI j).toNatClampNeg = j := nI_clamp (by omega)
    rw [if_pos hw, hcj] at hv
    rcases (show j = 0 ∨ j = 1 ∨ j = 2 ∨ j = 3 by omega) with rfl | rfl | rfl | rfl
    · refine V.tabIn (off := 31) 32 dX6_cost_1 (by decide +kernel) (by decide +kernel) (by decide +kernel) (by decide) ?_
      refine V.aldn 0 dX6_cost_32 rfl rfl ?_
      refine V.gf6_2 dX6_cost_33 f_X6_30 ?_
      refine V.cVi ((c_total hP hF : Mt (dp + 5) 0 0 _ _ _ _)) dX6_cost_36 k_X6_163 rfl rfl rfl (Nat.le_of_ble_eq_true rfl) rfl ?_
      refine V.top hv ?_
      exact V.ireturn dX6_cost_39 rfl (by first | rfl | decide +kernel) (⟨rfl, rfl⟩)
    · refine V.tabIn (off := 39) 40 dX6_cost_1 (by decide +kernel) (by decide +kernel) (by decide +kernel) (by decide) ?_
      refine V.aldn 0 dX6_cost_40 rfl rfl ?_
      refine V.gf6_2 dX6_cost_41 f_X6_30 ?_
      refine V.cVi ((c_wages hP hF : Mt (dp + 1 + 4) 0 0 _ _ _ _)) dX6_cost_44 k_X6_166 rfl rfl rfl (Nat.le_of_ble_eq_true rfl) rfl ?_
      refine V.top hv ?_
      exact V.ireturn dX6_cost_47 rfl (by first | rfl | decide +kernel) (⟨rfl, rfl⟩)
    · refine V.tabIn (off := 47) 48 dX6_cost_1 (by decide +kernel) (by decide +kernel) (by decide +kernel) (by decide) ?_
      refine V.aldn 0 dX6_cost_48 rfl rfl ?_
      refine V.gf6_2 dX6_cost_49 f_X6_30 ?_
      refine V.cVi ((c_rents hP : Mt (dp + 2 + 3) 0 0 _ _ _ _)) dX6_cost_52 k_X6_169 rfl rfl rfl (Nat.le_of_ble_eq_true rfl) rfl ?_
      refine V.top hv ?_
      exact V.ireturn dX6_cost_55 rfl (by first | rfl | decide +kernel) (⟨rfl, rfl⟩)
    · refine V.tabIn (off := 55) 56 dX6_cost_1 (by decide +kernel) (by decide +kernel) (by decide +kernel) (by decide) ?_
      refine V.aldn 0 dX6_cost_56 rfl rfl ?_
      refine V.gf6_2 dX6_cost_57 f_X6_30 ?_
      refine V.cVi ((c_overtime hP : Mt (dp + 3 + 2) 0 0 _ _ _ _)) dX6_cost_60 k_X6_172 rfl rfl rfl (Nat.le_of_ble_eq_true rfl) rfl ?_
      refine V.top hv ?_
      exact V.ireturn dX6_cost_63 rfl (by first | rfl | decide +kernel) (⟨rfl, rfl⟩)
  · rw [if_neg hw] at hv
    refine V.tabOut 64 dX6_cost_1 (tabOut_of (k := 4) (by decide) (by simpa using hw)) (by decide) ?_
    refine V.iconst (-1) dX6_cost_64 (by decide +kernel) ?_
    refine V.top hv ?_
    exact V.ireturn dX6_cost_65 rfl (by first | rfl | decide +kernel) (⟨rfl, rfl⟩)
theorem a_below (hP : CP F n nd R f ro rs rw) (hD : DR n nd R D) : Mt (dp + 4) 0 0 mX6_below [.ref 0] (HH f ro rs rw rb m) (RI (blw F n nd D) (HH f ro rs rw rb m)) := by
  refine Mt.of rfl rfl (Nat.le_of_ble_eq_true rfl) rfl ?_
  refine V.aldn 0 dX6_below_0 rfl rfl ?_
  refine V.gf6_2 dX6_below_1 f_X6_30 ?_
  refine V.cVi ((c_leastPossible hP hD : Mt (dp + 3) 0 0 _ _ _ _)) dX6_below_4 k_X6_175 rfl rfl rfl (Nat.le_of_ble_eq_true rfl) rfl ?_
  exact V.ireturn dX6_below_7 rfl (by first | rfl | decide +kernel) (⟨rfl, rfl⟩)
theorem cnt_cut {p q : Nat → Bool} {n k : Nat} (h : n ≤ k) (h1 : ∀ i, i < n → p i = q i) (h2 : ∀ i, n ≤ i → i < k → p i = false) : cnt p k = cnt q n := by
  obtain ⟨b, rfl⟩ : ∃ b, k = n + b := ⟨k - n, by omega⟩
  rw [cnt_add, cnt_congr h1]
  have : ∀ b, (∀ i, i < b → p (n + i) = false) → cnt (fun i => p (n + i)) b = 0 := by
    intro b
    induction b with
    | zero => intro _; rfl
    | succ b ih => intro h; rw [cnt, ih (fun i hi => h i (by omega)), h b (by omega)]; rfl
  rw [this b (fun i hi => h2 _ (by omega) (by omega))]
  rfl
theorem orN_bit {i : Nat} (hi : i < 32) : ∀ {k : Nat}, (btB (orN F k) i = true ↔ ∃ s, s < k ∧ btB (F 7 s) i = true) := by
  intro k
  induction k with
  | zero => rw [orN, btB_0 hi]; simp
  | succ k ih =>
    rw [orN, btB_or hi, Bool.or_eq_true, ih]
    constructor
    · rintro (⟨s, h1, h2⟩ | h)
      · exact ⟨s, by omega, h2⟩
      · exact ⟨k, by omega, h⟩
    · rintro ⟨s, h1, h2⟩
      rcases Nat.lt_succ_iff_lt_or_eq.mp h1 with q | q
      · exact Or.inl ⟨s, q, h2⟩
      · exact Or.inr (by rw [← q]; exact h2)
theorem a_count (hN : NB F n) (hD : DR n nd R D) (hP : CP F n nd R f ro rs rw) (w : Int32) : Mt (dp + 2) 0 0 mX6_count [.ref 0, .int w] (HH f ro rs rw rb m) (RI (if isIn w 4 = true then vCount F n nd D w.toNatClampNeg else -1) (HH f ro rs rw rb m)) := by
  refine Mt.of rfl rfl (Nat.le_of_ble_eq_true rfl) rfl ?_
  have hn := hD.1
  have hnd := hP.1.2.1
  generalize hv : (if isIn w 4 = true then vCount F n nd D w.toNatClampNeg else -1) = v
  refine V.ildn 1 dX6_count_0 rfl rfl ?_
  by_cases hw : isIn w 4 = true
  · obtain ⟨j, hj, rfl⟩ := (isIn_iff (by decide)).mp hw
    have hcj : (nI j).toNatClampNeg = j := nI_clamp (by omega)
    rw [if_pos hw, hcj] at hv
    rcases (show j = 0 ∨ j = 1 ∨ j = 2 ∨ j = 3 by omega) with rfl | rfl | rfl | rfl
    · refine V.tabIn (off := 31) 32 dX6_count_1 (by decide +kernel) (by decide +kernel) (by decide +kernel) (by decide) ?_
      refine V.aldn 0 dX6_count_32 rfl rfl ?_
      refine V.gf6_0 dX6_count_33 f_X6_10 ?_
      refine V.gf2_10 dX6_count_36 f_X6_225 ?_
      refine V.top (hP.2.1.trans hv) ?_
      exact V.ireturn dX6_count_39 rfl (by first | rfl | decide +kernel) (⟨rfl, rfl⟩)
    · refine V.tabIn (off := 39) 40 dX6_count_1 (by decide +kernel) (by decide +kernel) (by decide +kernel) (by decide) ?_
      refine V.aldn 0 dX6_count_40 rfl rfl ?_
      refine V.gf6_1 dX6_count_41 f_X6_21 ?_
      refine V.gf3_4 dX6_count_44 f_X6_204 ?_
      refine V.top (hP.2.2.1.trans hv) ?_
      exact V.ireturn dX6_count_47 rfl (by first | rfl | decide +kernel) (⟨rfl, rfl⟩)
    · refine V.tabIn (off := 47) 48 dX6_count_1 (by decide +kernel) (by decide +kernel) (by decide +kernel) (by decide) ?_
      have hv : nI (cnt (fun s => (D s).isSome) n) = v := hv
      have mb : ∀ s, s < 32 → (btB (mall R nd) s = true ↔ s < n ∧ (D s).isSome = true) := fun s hs => by
        rw [mall_bit hs (fun d hd => hP.lt20 (by omega))]
        constructor
        · rintro ⟨d, h1, h2⟩
          have := hD.2.2.1 s d h1 h2
          exact ⟨this.1, by rw [this.2]; rfl⟩
        · rintro ⟨h1, h2⟩
          obtain ⟨d, hd⟩ := Option.isSome_iff_exists.mp h2
          exact ⟨d, (hD.2.1 s d h1 hd).1, (hD.2.1 s d h1 hd).2⟩
      have e : cnt (fun i => btB (mall R nd) i) 32 = cnt (fun s => (D s).isSome) n := by
        refine cnt_cut (by omega) (fun i hi => ?_) (fun i h1 h2 => ?_)
        · rw [Bool.eq_iff_iff, mb i (by omega)]; exact ⟨fun q => q.2, fun q => ⟨hi, q⟩⟩
        · cases h : btB (mall R nd) i with
          | false => rfl
          | true => have := ((mb i h2).mp h).1; omega
      refine V.aldn 0 dX6_count_48 rfl rfl ?_
      refine V.gf6_1 dX6_count_49 f_X6_21 ?_
      refine V.cVi ((c_scenesInRows hP : Mt (dp + 1) 0 0 _ _ _ _)) dX6_count_52 k_X6_228 rfl rfl rfl (Nat.le_of_ble_eq_true rfl) rfl ?_
      refine V.cSi ((j_bitCount (mall R nd) : Mt (dp + 1) 0 0 _ _ _ _)) dX6_count_55 k_X6_231 rfl rfl (Nat.le_of_ble_eq_true rfl) rfl ?_
      refine V.top (y := v) (by rw [e]; exact hv) ?_
      exact V.ireturn dX6_count_58 rfl (by first | rfl | decide +kernel) (⟨rfl, rfl⟩)
    · refine V.tabIn (off := 58) 59 dX6_count_1 (by decide +kernel) (by decide +kernel) (by decide +kernel) (by decide) ?_
      have hv : nI (cnt (fun a => btB (orN F n) a) n) = v := hv
      have e : cnt (fun i => btB (orN F n) i) 32 = cnt (fun a => btB (orN F n) a) n := by
        refine cnt_cut (by omega) (fun i hi => rfl) (fun i h1 h2 => ?_)
        cases h : btB (orN F n) i with
        | false => rfl
        | true =>
          obtain ⟨s, q1, q2⟩ := (orN_bit h2).mp h
          have := hN.2 s i (by omega) h2 q2
          omega
      refine V.aldn 0 dX6_count_59 rfl rfl ?_
      refine V.gf6_0 dX6_count_60 f_X6_10 ?_
      refine V.cVi ((c_scenesAheadOfSome hP.2.2.2.1 hn hP.2.1 : Mt (dp + 1) 0 0 _ _ _ _)) dX6_count_63 k_X6_236 rfl rfl rfl (Nat.le_of_ble_eq_true rfl) rfl ?_
      refine V.cSi ((j_bitCount (orN F n) : Mt (dp + 1) 0 0 _ _ _ _)) dX6_count_66 k_X6_231 rfl rfl (Nat.le_of_ble_eq_true rfl) rfl ?_
      refine V.top (y := v) (by rw [e]; exact hv) ?_
      exact V.ireturn dX6_count_69 rfl (by first | rfl | decide +kernel) (⟨rfl, rfl⟩)
  · rw [if_neg hw] at hv
    refine V.tabOut 70 dX6_count_1 (tabOut_of (k := 4) (by decide) (by simpa using hw)) (by decide) ?_
    refine V.iconst (-1) dX6_count_70 (by decide +kernel) ?_
    refine V.top hv ?_
    exact V.ireturn dX6_count_71 rfl (by first | rfl | decide +kernel) (⟨rfl, rfl⟩)
section PAIR
theorem p_about (hJ : JV F n nd R D) (hP : CP F n nd R f ro rs rw) (hM : MS F n nd R D m) (x w : Int32) : Mt 20 0 0 mX6_about [.ref 0, .int x, .int w] (HH f ro rs rw rb m) (PQ mX7_about [.int x, .int w]) := pq_ri (a_about (dp := 16) hJ.2.1 hJ.1.2.2.1 hP x w) (t_about (dp := 17) hM x w) (gh_of hJ hP hM)
theorem p_row (hJ : JV F n nd R D) (hP : CP F n nd R f ro rs rw) (hM : MS F n nd R D m) (x w : Int32) : Mt 20 0 0 mX6_row [.ref 0, .int x, .int w] (HH f ro rs rw rb m) (PQ mX7_row [.int x, .int w]) := pq_ri (a_row (dp := 18) hP x w) (t_row (dp := 17) hM x w) (gh_of hJ hP hM)
theorem p_of (hJ : JV F n nd R D) (hP : CP F n nd R f ro rs rw) (hM : MS F n nd R D m) (x w : Int32) : Mt 20 0 0 mX6_of [.ref 0, .int x, .int w] (HH f ro rs rw rb m) (PQ mX7_of [.int x, .int w]) := pq_ri (a_of (dp := 18) hP x w) (t_of (dp := 16) hM x w) (gh_of hJ hP hM)
theorem p_held (hJ : JV F n nd R D) (hP : CP F n nd R f ro rs rw) (hM : MS F n nd R D m) (x w : Int32) : Mt 20 0 0 mX6_held [.ref 0, .int x, .int w] (HH f ro rs rw rb m) (PQ mX7_held [.int x, .int w]) := pq_ri (a_held (dp := 16) hP x w) (t_held (dp := 16) hM x w) (gh_of hJ hP hM)
theorem p_cost (hJ : JV F n nd R D) (hP : CP F n nd R f ro rs rw) (hM : MS F n nd R D m) (w : Int32) : Mt 20 0 0 mX6_cost [.ref 0, .int w] (HH f ro rs rw rb m) (PQ mX7_cost [.int w]) := pq_ri (a_cost (dp := 14) hP hJ.1.1.2.2.2.2 w) (t_cost (dp := 14) hM w) (gh_of hJ hP hM)
theorem p_below (hJ : JV F n nd R D) (hP : CP F n nd R f ro rs rw) (hM : MS F n nd R D m) : Mt 20 0 0 mX6_below [.ref 0] (HH f ro rs rw rb m) (PQ mX7_below []) := pq_ri (a_below (dp := 16) hP hJ.1.2.2.1) (t_below (dp := 19) hM) (gh_of hJ hP hM)
theorem p_count (hJ : JV F n nd R D) (hP : CP F n nd R f ro rs rw) (hM : MS F n nd R D m) (w : Int32) : Mt 20 0 0 mX6_count [.ref 0, .int w] (HH f ro rs rw rb m) (PQ mX7_count [.int w]) := pq_ri (a_count (dp := 18) (hJ.1.1.1.nb hJ.1.2.2.1.1) hJ.1.2.2.1 hP w) (t_count (dp := 19) hM w) (gh_of hJ hP hM)
end PAIR
end CLASS
