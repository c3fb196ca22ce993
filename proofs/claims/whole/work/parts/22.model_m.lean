/-! the reference: what is looked up -/
def orP (F : Nat → Nat → Int32) (l : List Nat) : Nat → Int32
  | 0 => nI 0
  | k + 1 => orP F l k ||| F 6 (l.getD k 0)
def orN (F : Nat → Nat → Int32) : Nat → Int32
  | 0 => nI 0
  | k + 1 => orN F k ||| F 7 k
def grt (F : Nat → Nat → Int32) : Nat → Int32
  | 0 => nI 0
  | k + 1 => if F 14 k ≤ grt F k then grt F k else F 14 k
def bsum (F : Nat → Nat → Int32) (D : Nat → Option Nat) (p : Nat) : Nat → Int32
  | 0 => nI 0
  | k + 1 => if D k = none then bsum F D p k else bsum F D p k + (if btB (F 6 k) p = true then F 2 k else nI 0)
def busd (F : Nat → Nat → Int32) (D : Nat → Option Nat) (p : Nat) : Nat → Bool
  | 0 => false
  | k + 1 => if D k = none then busd F D p k else (busd F D p k || decide (F 3 k = nI p))
def blwP (F : Nat → Nat → Int32) (n : Nat) (D : Nat → Option Nat) (g : Int32) (p : Nat) : Int32 := F 9 p * ((bsum F D p n + g - nI 1) / g) + (if busd F D p n = true then F 11 p else nI 0)
def blw (F : Nat → Nat → Int32) (n nd : Nat) (D : Nat → Option Nat) : Int32 := if 0 < grt F nd then sm (blwP F n D (grt F nd)) 8 else nI 0
/-- the answers to a look at a scene, a day, a player, the cost, a count -/
def vAbout (F : Nat → Nat → Int32) (R : Nat → List Nat) (D : Nat → Option Nat) (s j : Nat) : Int32 := match j with
  | 0 => F 2 s
  | 1 => F 3 s
  | 2 => F 4 s
  | 3 => if F 5 s = 0 then nI 0 else nI 1
  | 4 => F 6 s
  | 5 => dI (D s)
  | 6 => (match D s with | none => -1 | some d => ixo (R d) s)
  | 7 => F 7 s
  | _ => -1
def vOf (F : Nat → Nat → Int32) (l : List Nat) (j : Nat) : Int32 := match j with
  | 0 => nI l.length
  | 1 => mins F l
  | 2 => ovr (mins F l)
  | 3 => orP F l l.length
  | 4 => sunm F l
  | 5 => bI (hasL F l (nI 2))
  | _ => -1
def vHeld (F : Nat → Nat → Int32) (nd : Nat) (R : Nat → List Nat) (p j : Nat) : Int32 := match j with
  | 0 => dI (eg (fun d => plB F (R d) p) false nd)
  | 1 => dI (eg (fun d => plB F (R d) p) true nd)
  | 2 => nI (cnt (fun d => plB F (R d) p) nd)
  | 3 => nI (pdS (fun d => plB F (R d) p) (F 10 p) nd).1
  | _ => -1
def vCost (F : Nat → Nat → Int32) (nd : Nat) (R : Nat → List Nat) (j : Nat) : Int32 := match j with
  | 0 => costC F nd R
  | 1 => payC F nd R
  | 2 => rentC F nd R
  | 3 => overC F nd R
  | _ => -1
def vCount (F : Nat → Nat → Int32) (n nd : Nat) (D : Nat → Option Nat) (j : Nat) : Int32 := match j with
  | 0 => nI n
  | 1 => nI nd
  | 2 => nI (cnt (fun s => (D s).isSome) n)
  | 3 => nI (cnt (fun a => btB (orN F n) a) n)
  | _ => -1
theorem tabOut_of {x : Int32} {k : Nat} (hk : k < 2 ^ 31) (h : isIn x k = false) : x.toInt < 0 ∨ (k : Int) - 1 < x.toInt := by
  unfold isIn at h
  rw [Bool.and_eq_false_iff, decide_eq_false_iff_not, decide_eq_false_iff_not, Int32.not_le, Int32.not_lt, Int32.lt_iff_toInt_lt, Int32.le_iff_toInt_le, nI_toInt hk] at h
  rcases h with h | h
  · left; exact h
  · right; omega
theorem ret_narrow (x : Int32) : narrow .int (.int x) = .int x := rfl
section MODEL
variable {f ro rs : Nat → Nat → Int32} {rw rb : Nat → Nat} {m : Nat → Nat → Int32} {dp : Nat} {F : Nat → Nat → Int32} {n nd : Nat} {R : Nat → List Nat} {D : Nat → Option Nat}
theorem t_about (hM : MS F n nd R D m) (x w : Int32) : Mt (dp + 3) 0 0 mX7_about [.ref 45, .int x, .int w] (HH f ro rs rw rb m) (RI (if isIn x n = true ∧ isIn w 8 = true then vAbout F R D x.toNatClampNeg w.toNatClampNeg else -1) (HH f ro rs rw rb m)) := by
  refine Mt.of rfl rfl (Nat.le_of_ble_eq_true rfl) rfl ?_
  have hn20 := hM.2.1.1
  have hnd := hM.1.1
  have hF := hM.1.2.2.1
  generalize hv : (if isIn x n = true ∧ isIn w 8 = true then vAbout F R D x.toNatClampNeg w.toNatClampNeg else -1) = v
  have swt : isIn x n = true → V mX7_about (dp + 3) 0 0 11 [some (.ref 45), some (.int x), some (.int w)] [.int w] (HH f ro rs rw rb m) (RI v (HH f ro rs rw rb m)) := by
    intro hx
    obtain ⟨s, hs, rfl⟩ := (isIn_iff (by omega)).mp hx
    have hcl : (nI s).toNatClampNeg = s := nI_clamp (by omega)
    by_cases hw : isIn w 8 = true
    · obtain ⟨j, hj, rfl⟩ := (isIn_iff (by decide)).mp hw
      have hcj : (nI j).toNatClampNeg = j := nI_clamp (by omega)
      rw [if_pos ⟨hx, hw⟩, hcl, hcj] at hv
      rcases (show j = 0 ∨ j = 1 ∨ j = 2 ∨ j = 3 ∨ j = 4 ∨ j = 5 ∨ j = 6 ∨ j = 7 by omega) with rfl | rfl | rfl | rfl | rfl | rfl | rfl | rfl
      · refine V.tabIn (off := 45) 56 dX7_about_11 (by decide +kernel) (by decide +kernel) (by decide +kernel) (by decide) ?_
        refine V.aldn 0 dX7_about_56 rfl rfl ?_
        refine V.gf7_2 dX7_about_57 f_X7_7 ?_
        refine V.ildn 1 dX7_about_60 rfl rfl ?_
        refine V.ald_46 dX7_about_61 (ix_nI (by omega) (by decide)) ?_
        refine V.top ((congrFun (hF 2 rfl) s).trans hv) ?_
        exact V.ireturn dX7_about_62 rfl (by first | rfl | decide +kernel) (⟨rfl, rfl⟩)
      · refine V.tabIn (off := 52) 63 dX7_about_11 (by decide +kernel) (by decide +kernel) (by decide +kernel) (by decide) ?_
        refine V.aldn 0 dX7_about_63 rfl rfl ?_
        refine V.gf7_3 dX7_about_64 f_X7_13 ?_
        refine V.ildn 1 dX7_about_67 rfl rfl ?_
        refine V.ald_47 dX7_about_68 (ix_nI (by omega) (by decide)) ?_
        refine V.top ((congrFun (hF 3 rfl) s).trans hv) ?_
        exact V.ireturn dX7_about_69 rfl (by first | rfl | decide +kernel) (⟨rfl, rfl⟩)
      · refine V.tabIn (off := 59) 70 dX7_about_11 (by decide +kernel) (by decide +kernel) (by decide +kernel) (by decide) ?_
        refine V.aldn 0 dX7_about_70 rfl rfl ?_
        refine V.gf7_4 dX7_about_71 f_X7_16 ?_
        refine V.ildn 1 dX7_about_74 rfl rfl ?_
        refine V.ald_48 dX7_about_75 (ix_nI (by omega) (by decide)) ?_
        refine V.top ((congrFun (hF 4 rfl) s).trans hv) ?_
        exact V.ireturn dX7_about_76 rfl (by first | rfl | decide +kernel) (⟨rfl, rfl⟩)
      · refine V.tabIn (off := 66) 77 dX7_about_11 (by decide +kernel) (by decide +kernel) (by decide +kernel) (by decide) ?_
        have hv : (if F 5 s = 0 then nI 0 else nI 1) = v := hv
        refine V.aldn 0 dX7_about_77 rfl rfl ?_
        refine V.gf7_5 dX7_about_78 f_X7_19 ?_
        refine V.ildn 1 dX7_about_81 rfl rfl ?_
        refine V.ald_49 dX7_about_82 (ix_nI (by omega) (by decide)) ?_
        refine V.top (congrFun (hF 5 rfl) s) ?_
        refine V.if_eq 90 dX7_about_83 (by decide) (fun c83 => ?_) (fun c83 => ?_)
        · refine V.iconst (nI 0) dX7_about_90 (by decide +kernel) ?_
          exact V.ireturn dX7_about_91 rfl (by first | rfl | decide +kernel) (⟨by rw [← hv, if_pos c83], rfl⟩)
        · refine V.iconst (nI 1) dX7_about_86 (by decide +kernel) ?_
          refine V.goto 91 dX7_about_87 (by decide) ?_
          exact V.ireturn dX7_about_91 rfl (by first | rfl | decide +kernel) (⟨by rw [← hv, if_neg c83], rfl⟩)
      · refine V.tabIn (off := 81) 92 dX7_about_11 (by decide +kernel) (by decide +kernel) (by decide +kernel) (by decide) ?_
        refine V.aldn 0 dX7_about_92 rfl rfl ?_
        refine V.gf7_6 dX7_about_93 f_X7_23 ?_
        refine V.ildn 1 dX7_about_96 rfl rfl ?_
        refine V.ald_50 dX7_about_97 (ix_nI (by omega) (by decide)) ?_
        refine V.top ((congrFun (hF 6 rfl) s).trans hv) ?_
        exact V.ireturn dX7_about_98 rfl (by first | rfl | decide +kernel) (⟨rfl, rfl⟩)
      · refine V.tabIn (off := 88) 99 dX7_about_11 (by decide +kernel) (by decide +kernel) (by decide +kernel) (by decide) ?_
        refine V.aldn 0 dX7_about_99 rfl rfl ?_
        refine V.gf7_8 dX7_about_100 f_X7_29 ?_
        refine V.ildn 1 dX7_about_103 rfl rfl ?_
        refine V.ald_52 dX7_about_104 (ix_nI (by omega) (by decide)) ?_
        refine V.top ((hM.2.2.2 s hs).trans hv) ?_
        exact V.ireturn dX7_about_105 rfl (by first | rfl | decide +kernel) (⟨rfl, rfl⟩)
      · refine V.tabIn (off := 95) 106 dX7_about_11 (by decide +kernel) (by decide +kernel) (by decide +kernel) (by decide) ?_
        cases hD : D s with
        | none =>
          have hv : -1 = v := by rw [← hv]; show _ = (match D s with | none => -1 | some d => ixo (R d) s); rw [hD]
          refine V.aldn 0 dX7_about_106 rfl rfl ?_
          refine V.ildn 1 dX7_about_107 rfl rfl ?_
          refine V.cVi ((t_placeIn (l := []) (by omega) (by rw [hM.2.2.2 s hs, hD]) (fun d hd => by cases hd) (fun _ => rfl) : Mt (dp + 1 + 1) 0 0 _ _ _ _)) dX7_about_108 k_X7_113 rfl rfl rfl (Nat.le_of_ble_eq_true rfl) rfl ?_
          refine V.top hv ?_
          exact V.ireturn dX7_about_111 rfl (by first | rfl | decide +kernel) (⟨rfl, rfl⟩)
        | some d =>
          have hd := (hM.2.1.2.1 s d hs hD).1
          have hv : ixo (R d) s = v := by rw [← hv]; show _ = (match D s with | none => -1 | some d => ixo (R d) s); rw [hD]
          refine V.aldn 0 dX7_about_106 rfl rfl ?_
          refine V.ildn 1 dX7_about_107 rfl rfl ?_
          refine V.cVi ((t_placeIn (l := R d) (by omega) (by rw [hM.2.2.2 s hs, hD]) (fun d' hd' => by cases hd'; exact ⟨by omega, hM.1.2.2.2.2 d hd⟩) (fun h => by cases h) : Mt (dp + 1 + 1) 0 0 _ _ _ _)) dX7_about_108 k_X7_113 rfl rfl rfl (Nat.le_of_ble_eq_true rfl) rfl ?_
          refine V.top hv ?_
          exact V.ireturn dX7_about_111 rfl (by first | rfl | decide +kernel) (⟨rfl, rfl⟩)
      · refine V.tabIn (off := 101) 112 dX7_about_11 (by decide +kernel) (by decide +kernel) (by decide +kernel) (by decide) ?_
        refine V.aldn 0 dX7_about_112 rfl rfl ?_
        refine V.gf7_7 dX7_about_113 f_X7_26 ?_
        refine V.ildn 1 dX7_about_116 rfl rfl ?_
        refine V.ald_51 dX7_about_117 (ix_nI (by omega) (by decide)) ?_
        refine V.top ((congrFun (hF 7 rfl) s).trans hv) ?_
        exact V.ireturn dX7_about_118 rfl (by first | rfl | decide +kernel) (⟨rfl, rfl⟩)
    · rw [if_neg (fun q => hw q.2)] at hv
      refine V.tabOut 119 dX7_about_11 (tabOut_of (k := 8) (by decide) (by simpa using hw)) (by decide) ?_
      refine V.iconst (-1) dX7_about_119 (by decide +kernel) ?_
      refine V.top hv ?_
      exact V.ireturn dX7_about_120 rfl (by first | rfl | decide +kernel) (⟨rfl, rfl⟩)
  refine V.aldn 0 dX7_about_0 rfl rfl ?_
  refine V.ildn 1 dX7_about_1 rfl rfl ?_
  refine V.cVi (t_isScene hn20 hM.2.2.1 x) dX7_about_2 k_X7_98 rfl rfl rfl (Nat.le_of_ble_eq_true rfl) rfl ?_
  first | refine V.if_neB 10 dX7_about_5 (by decide) (fun c5 => ?_) (fun c5 => ?_) | refine V.if_neN 10 dX7_about_5 (by decide) (by omega) (fun c5 => ?_) (fun c5 => ?_) | refine V.if_ne 10 dX7_about_5 (by decide) (fun c5 => ?_) (fun c5 => ?_)
  · refine V.ildn 2 dX7_about_10 rfl rfl ?_
    exact swt c5
  · refine V.iconst (-1) dX7_about_8 (by decide +kernel) ?_
    exact V.ireturn dX7_about_9 rfl (by first | rfl | decide +kernel) (⟨by rw [← hv, if_neg (fun q => by rw [c5] at q; cases q.1)], rfl⟩)
theorem t_row (hM : MS F n nd R D m) (x w : Int32) : Mt (dp + 3) 0 0 mX7_row [.ref 45, .int x, .int w] (HH f ro rs rw rb m) (RI (if isIn x nd = true ∧ isIn w (R x.toNatClampNeg).length = true then nI ((R x.toNatClampNeg).getD w.toNatClampNeg 0) else -1) (HH f ro rs rw rb m)) := by
  refine Mt.of rfl rfl (Nat.le_of_ble_eq_true rfl) rfl ?_
  have hnd := hM.1.1
  generalize hv : (if isIn x nd = true ∧ isIn w (R x.toNatClampNeg).length = true then nI ((R x.toNatClampNeg).getD w.toNatClampNeg 0) else -1) = v
  have go : isIn x nd = true → V mX7_row (dp + 3) 0 0 8 [some (.ref 45), some (.int x), some (.int w)] [] (HH f ro rs rw rb m) (RI v (HH f ro rs rw rb m)) := by
    intro hx
    obtain ⟨d, hd, rfl⟩ := (isIn_iff (by omega)).mp hx
    have hcl : (nI d).toNatClampNeg = d := nI_clamp (by omega)
    rw [hcl] at hv
    obtain ⟨hz, hz5, hr⟩ := hM.1.2.2.2.2 d hd
    have ret : isIn w (R d).length = true → V mX7_row (dp + 3) 0 0 24 [some (.ref 45), some (.int (nI d)), some (.int w)] [] (HH f ro rs rw rb m) (RI v (HH f ro rs rw rb m)) := by
      intro hw
      obtain ⟨i, hi, rfl⟩ := (isIn_iff (by omega)).mp hw
      rw [if_pos ⟨hx, hw⟩, nI_clamp (by omega)] at hv
      refine V.aldn 0 dX7_row_24 rfl rfl ?_
      refine V.gf7_17 dX7_row_25 f_X7_53 ?_
      refine V.iconst (nI 5) dX7_row_28 (by decide +kernel) ?_
      refine V.ildn 1 dX7_row_29 rfl rfl ?_
      first | refine V.imulN dX7_row_30 ?_ | refine V.imul dX7_row_30 ?_
      refine V.ildn 2 dX7_row_31 rfl rfl ?_
      first | refine V.iaddN dX7_row_32 ?_ | refine V.iadd dX7_row_32 ?_
      refine V.ald_60 dX7_row_33 (ix_nI (by omega) (by decide)) ?_
      refine V.top ((hr i hi).1.trans hv) ?_
      refine V.goto 38 dX7_row_34 (by decide) ?_
      exact V.ireturn dX7_row_38 rfl (by first | rfl | decide +kernel) (⟨rfl, rfl⟩)
    refine V.ildn 2 dX7_row_8 rfl rfl ?_
    refine V.iconst (nI 0) dX7_row_9 (by decide +kernel) ?_
    refine V.aldn 0 dX7_row_10 rfl rfl ?_
    refine V.gf7_16 dX7_row_11 f_X7_50 ?_
    refine V.ildn 1 dX7_row_14 rfl rfl ?_
    refine V.ald_59 dX7_row_15 (ix_nI (by omega) (by decide)) ?_
    refine V.top hz ?_
    refine V.iconst (nI 1) dX7_row_16 (by decide +kernel) ?_
    refine V.isub dX7_row_17 ?_
    refine V.cSi ((t_in w (nI 0) (nI (R d).length - nI 1) : Mt (dp + 1 + 1) 0 0 _ _ _ _)) dX7_row_18 k_X7_87 rfl rfl (Nat.le_of_ble_eq_true rfl) rfl ?_
    rw [inB_isIn (by omega)]
    first | refine V.if_eqB 37 dX7_row_21 (by decide) (fun c21 => ?_) (fun c21 => ?_) | refine V.if_eqN 37 dX7_row_21 (by decide) (by omega) (fun c21 => ?_) (fun c21 => ?_) | refine V.if_eq 37 dX7_row_21 (by decide) (fun c21 => ?_) (fun c21 => ?_)
    · rw [if_neg (fun q => by rw [c21] at q; cases q.2)] at hv
      refine V.iconst (-1) dX7_row_37 (by decide +kernel) ?_
      exact V.ireturn dX7_row_38 rfl rfl ⟨by rw [hv], rfl⟩
    · exact ret c21
  refine V.aldn 0 dX7_row_0 rfl rfl ?_
  refine V.ildn 1 dX7_row_1 rfl rfl ?_
  refine V.cVi (t_isDay (by omega) hM.1.2.1 x) dX7_row_2 k_X7_106 rfl rfl rfl (Nat.le_of_ble_eq_true rfl) rfl ?_
  first | refine V.if_eqB 37 dX7_row_5 (by decide) (fun c5 => ?_) (fun c5 => ?_) | refine V.if_eqN 37 dX7_row_5 (by decide) (by omega) (fun c5 => ?_) (fun c5 => ?_) | refine V.if_eq 37 dX7_row_5 (by decide) (fun c5 => ?_) (fun c5 => ?_)
  · rw [if_neg (fun q => by rw [c5] at q; cases q.1)] at hv
    refine V.iconst (-1) dX7_row_37 (by decide +kernel) ?_
    exact V.ireturn dX7_row_38 rfl rfl ⟨by rw [hv], rfl⟩
  · exact go c5
theorem t_of (hM : MS F n nd R D m) (x w : Int32) : Mt (dp + 4) 0 0 mX7_of [.ref 45, .int x, .int w] (HH f ro rs rw rb m) (RI (if isIn x nd = true ∧ isIn w 6 = true then vOf F (R x.toNatClampNeg) w.toNatClampNeg else -1) (HH f ro rs rw rb m)) := by
  refine Mt.of rfl rfl (Nat.le_of_ble_eq_true rfl) rfl ?_
  have hn20 := hM.2.1.1
  have hnd := hM.1.1
  have hF := hM.1.2.2.1
  have hp := hM.1.2.2.2.1
  generalize hv : (if isIn x nd = true ∧ isIn w 6 = true then vOf F (R x.toNatClampNeg) w.toNatClampNeg else -1) = v
  have swt : isIn x nd = true → V mX7_of (dp + 4) 0 0 13 [some (.ref 45), some (.int x), some (.int w), some (.int (nI 0)), none] [.int w] (HH f ro rs rw rb m) (RI v (HH f ro rs rw rb m)) := by
    intro hx
    obtain ⟨d, hd, rfl⟩ := (isIn_iff (by omega)).mp hx
    have hcl : (nI d).toNatClampNeg = d := nI_clamp (by omega)
    have hrow := hM.1.2.2.2.2 d hd
    obtain ⟨hz, hz5, hr⟩ := id hrow
    by_cases hw : isIn w 6 = true
    · obtain ⟨j, hj, rfl⟩ := (isIn_iff (by decide)).mp hw
      have hcj : (nI j).toNatClampNeg = j := nI_clamp (by omega)
      rw [if_pos ⟨hx, hw⟩, hcl, hcj] at hv
      rcases (show j = 0 ∨ j = 1 ∨ j = 2 ∨ j = 3 ∨ j = 4 ∨ j = 5 by omega) with rfl | rfl | rfl | rfl | rfl | rfl
      · refine V.tabIn (off := 39) 52 dX7_of_13 (by decide +kernel) (by decide +kernel) (by decide +kernel) (by decide) ?_
        refine V.aldn 0 dX7_of_52 rfl rfl ?_
        refine V.gf7_16 dX7_of_53 f_X7_50 ?_
        refine V.ildn 1 dX7_of_56 rfl rfl ?_
        refine V.ald_59 dX7_of_57 (ix_nI (by omega) (by decide)) ?_
        refine V.top (hz.trans hv) ?_
        exact V.ireturn dX7_of_58 rfl (by first | rfl | decide +kernel) (⟨rfl, rfl⟩)
      · refine V.tabIn (off := 46) 59 dX7_of_13 (by decide +kernel) (by decide +kernel) (by decide +kernel) (by decide) ?_
        refine V.aldn 0 dX7_of_59 rfl rfl ?_
        refine V.ildn 1 dX7_of_60 rfl rfl ?_
        refine V.cVi ((t_minutesOf ⟨hF 2 rfl, hF 3 rfl, hF 12 rfl⟩ hp (by omega) hrow : Mt (dp + 1 + 2) 0 0 _ _ _ _)) dX7_of_61 k_X7_117 rfl rfl rfl (Nat.le_of_ble_eq_true rfl) rfl ?_
        refine V.top hv ?_
        exact V.ireturn dX7_of_64 rfl (by first | rfl | decide +kernel) (⟨rfl, rfl⟩)
      · refine V.tabIn (off := 52) 65 dX7_of_13 (by decide +kernel) (by decide +kernel) (by decide +kernel) (by decide) ?_
        refine V.aldn 0 dX7_of_65 rfl rfl ?_
        refine V.ildn 1 dX7_of_66 rfl rfl ?_
        refine V.cVi ((t_over hM.1 hd : Mt (dp + 3) 0 0 _ _ _ _)) dX7_of_67 k_X7_177 rfl rfl rfl (Nat.le_of_ble_eq_true rfl) rfl ?_
        refine V.top hv ?_
        exact V.ireturn dX7_of_70 rfl (by first | rfl | decide +kernel) (⟨rfl, rfl⟩)
      · refine V.tabIn (off := 58) 71 dX7_of_13 (by decide +kernel) (by decide +kernel) (by decide +kernel) (by decide) ?_
        have loop : ∀ (j k : Nat), (R d).length - k = j → k ≤ (R d).length → V mX7_of (dp + 4) 0 0 74 [some (.ref 45), some (.int (nI d)), some (.int (nI 3)), some (.int (orP F (R d) k)), some (.int (nI k))] [] (HH f ro rs rw rb m) (RI v (HH f ro rs rw rb m)) := by
          intro j
          induction j using Nat.strongRecOn with
          | _ j ih =>
            intro k hj hk
            refine V.iload dX7_of_74 rfl ?_
            refine V.aldn 0 dX7_of_76 rfl rfl ?_
            refine V.gf7_16 dX7_of_77 f_X7_50 ?_
            refine V.ildn 1 dX7_of_80 rfl rfl ?_
            refine V.ald_59 dX7_of_81 (ix_nI (by omega) (by decide)) ?_
            refine V.top hz ?_
            first | refine V.icmp_geN 110 dX7_of_82 (by decide) (by omega) (by omega) (fun c82 => ?_) (fun c82 => ?_) | refine V.icmp_ge 110 dX7_of_82 (by decide) (fun c82 => ?_) (fun c82 => ?_)
            · refine V.ildn 3 dX7_of_110 rfl rfl ?_
              exact V.ireturn dX7_of_111 rfl (by first | rfl | decide +kernel) (⟨by rw [← hv]; show _ = some (Value.int (orP F (R d) (R d).length)); rw [show k = (R d).length by omega], rfl⟩)
            · have hs := (hr k c82).2
              refine V.ildn 3 dX7_of_85 rfl rfl ?_
              refine V.aldn 0 dX7_of_86 rfl rfl ?_
              refine V.gf7_6 dX7_of_87 f_X7_23 ?_
              refine V.aldn 0 dX7_of_90 rfl rfl ?_
              refine V.gf7_17 dX7_of_91 f_X7_53 ?_
              refine V.iconst (nI 5) dX7_of_94 (by decide +kernel) ?_
              refine V.ildn 1 dX7_of_95 rfl rfl ?_
              first | refine V.imulN dX7_of_96 ?_ | refine V.imul dX7_of_96 ?_
              refine V.iload dX7_of_97 rfl ?_
              first | refine V.iaddN dX7_of_99 ?_ | refine V.iadd dX7_of_99 ?_
              refine V.ald_60 dX7_of_100 (ix_nI (by omega) (by decide)) ?_
              refine V.top (hr k c82).1 ?_
              refine V.ald_50 dX7_of_101 (ix_nI (by omega) (by decide)) ?_
              refine V.top (congrFun (hF 6 rfl) _) ?_
              refine V.ior dX7_of_102 ?_
              refine V.istn 3 dX7_of_103 rfl (Nat.le_of_ble_eq_true rfl) ?_
              first | refine V.iincN dX7_of_104 rfl ?_ | refine V.iinc dX7_of_104 rfl rfl ?_
              refine V.goto 74 dX7_of_107 (by decide) ?_
              exact ih _ (by omega) (k + 1) rfl (by omega)
        refine V.iconst (nI 0) dX7_of_71 (by decide +kernel) ?_
        refine V.istore dX7_of_72 (Nat.le_of_ble_eq_true rfl) ?_
        exact loop _ 0 rfl (Nat.zero_le _)
      · refine V.tabIn (off := 99) 112 dX7_of_13 (by decide +kernel) (by decide +kernel) (by decide +kernel) (by decide) ?_
        refine V.aldn 0 dX7_of_112 rfl rfl ?_
        refine V.ildn 1 dX7_of_113 rfl rfl ?_
        refine V.cVi ((t_lightOf ⟨hF 2 rfl, hF 4 rfl⟩ (by omega) hrow : Mt (dp + 2 + 1) 0 0 _ _ _ _)) dX7_of_114 k_X7_120 rfl rfl rfl (Nat.le_of_ble_eq_true rfl) rfl ?_
        refine V.top hv ?_
        exact V.ireturn dX7_of_117 rfl (by first | rfl | decide +kernel) (⟨rfl, rfl⟩)
      · refine V.tabIn (off := 105) 118 dX7_of_13 (by decide +kernel) (by decide +kernel) (by decide +kernel) (by decide) ?_
        have hv : bI (hasL F (R d) (nI 2)) = v := hv
        refine V.aldn 0 dX7_of_118 rfl rfl ?_
        refine V.ildn 1 dX7_of_119 rfl rfl ?_
        refine V.iconst (nI 2) dX7_of_120 (by decide +kernel) ?_
        refine V.cVi ((t_has (hF 4 rfl) (by omega) hrow (nI 2) : Mt (dp + 2 + 1) 0 0 _ _ _ _)) dX7_of_121 k_X7_123 rfl rfl rfl (Nat.le_of_ble_eq_true rfl) rfl ?_
        first | refine V.if_eqB 131 dX7_of_124 (by decide) (fun c124 => ?_) (fun c124 => ?_) | refine V.if_eqN 131 dX7_of_124 (by decide) (by omega) (fun c124 => ?_) (fun c124 => ?_) | refine V.if_eq 131 dX7_of_124 (by decide) (fun c124 => ?_) (fun c124 => ?_)
        · refine V.iconst (nI 0) dX7_of_131 (by decide +kernel) ?_
          exact V.ireturn dX7_of_132 rfl (by first | rfl | decide +kernel) (⟨by rw [← hv, c124]; rfl, rfl⟩)
        · refine V.iconst (nI 1) dX7_of_127 (by decide +kernel) ?_
          refine V.goto 132 dX7_of_128 (by decide) ?_
          exact V.ireturn dX7_of_132 rfl (by first | rfl | decide +kernel) (⟨by rw [← hv, c124]; rfl, rfl⟩)
    · rw [if_neg (fun q => hw q.2)] at hv
      refine V.tabOut 133 dX7_of_13 (tabOut_of (k := 6) (by decide) (by simpa using hw)) (by decide) ?_
      refine V.iconst (-1) dX7_of_133 (by decide +kernel) ?_
      refine V.top hv ?_
      exact V.ireturn dX7_of_134 rfl (by first | rfl | decide +kernel) (⟨rfl, rfl⟩)
  refine V.aldn 0 dX7_of_0 rfl rfl ?_
  refine V.ildn 1 dX7_of_1 rfl rfl ?_
  refine V.cVi ((t_isDay (by omega) hM.1.2.1 x : Mt (dp + 1 + 2) 0 0 _ _ _ _)) dX7_of_2 k_X7_106 rfl rfl rfl (Nat.le_of_ble_eq_true rfl) rfl ?_
  first | refine V.if_neB 10 dX7_of_5 (by decide) (fun c5 => ?_) (fun c5 => ?_) | refine V.if_neN 10 dX7_of_5 (by decide) (by omega) (fun c5 => ?_) (fun c5 => ?_) | refine V.if_ne 10 dX7_of_5 (by decide) (fun c5 => ?_) (fun c5 => ?_)
  · refine V.iconst (nI 0) dX7_of_10 (by decide +kernel) ?_
    refine V.istn 3 dX7_of_11 rfl (Nat.le_of_ble_eq_true rfl) ?_
    refine V.ildn 2 dX7_of_12 rfl rfl ?_
    exact swt c5
  · refine V.iconst (-1) dX7_of_8 (by decide +kernel) ?_
    exact V.ireturn dX7_of_9 rfl (by first | rfl | decide +kernel) (⟨by rw [← hv, if_neg (fun q => by rw [c5] at q; cases q.1)], rfl⟩)
theorem t_cost (hM : MS F n nd R D m) (w : Int32) : Mt (dp + 6) 0 0 mX7_cost [.ref 45, .int w] (HH f ro rs rw rb m) (RI (if isIn w 4 = true then vCost F nd R w.toNatClampNeg else -1) (HH f ro rs rw rb m)) := by
  refine Mt.of rfl rfl (Nat.le_of_ble_eq_true rfl) rfl ?_
  generalize hv : (if isIn w 4 = true then vCost F nd R w.toNatClampNeg else -1) = v
  refine V.ildn 1 dX7_cost_0 rfl rfl ?_
  by_cases hw : isIn w 4 = true
  · obtain ⟨j, hj, rfl⟩ := (isIn_iff (by decide)).mp hw
    have hcj : (nI j).toNatClampNeg = j := nI_clamp (by omega)
    rw [if_pos hw, hcj] at hv
    rcases (show j = 0 ∨ j = 1 ∨ j = 2 ∨ j = 3 by omega) with rfl | rfl | rfl | rfl
    · refine V.tabIn (off := 31) 32 dX7_cost_1 (by decide +kernel) (by decide +kernel) (by decide +kernel) (by decide) ?_
      refine V.aldn 0 dX7_cost_32 rfl rfl ?_
      refine V.cVi (t_costAll hM.1) dX7_cost_33 k_X7_160 rfl rfl rfl (Nat.le_of_ble_eq_true rfl) rfl ?_
      refine V.top hv ?_
      exact V.ireturn dX7_cost_36 rfl (by first | rfl | decide +kernel) (⟨rfl, rfl⟩)
    · refine V.tabIn (off := 36) 37 dX7_cost_1 (by decide +kernel) (by decide +kernel) (by decide +kernel) (by decide) ?_
      refine V.aldn 0 dX7_cost_37 rfl rfl ?_
      refine V.cVi ((t_payAll hM.1 : Mt (dp + 1 + 4) 0 0 _ _ _ _)) dX7_cost_38 k_X7_180 rfl rfl rfl (Nat.le_of_ble_eq_true rfl) rfl ?_
      refine V.top hv ?_
      exact V.ireturn dX7_cost_41 rfl (by first | rfl | decide +kernel) (⟨rfl, rfl⟩)
    · refine V.tabIn (off := 41) 42 dX7_cost_1 (by decide +kernel) (by decide +kernel) (by decide +kernel) (by decide) ?_
      refine V.aldn 0 dX7_cost_42 rfl rfl ?_
      refine V.cVi ((t_rentAll hM.1 : Mt (dp + 3 + 2) 0 0 _ _ _ _)) dX7_cost_43 k_X7_183 rfl rfl rfl (Nat.le_of_ble_eq_true rfl) rfl ?_
      refine V.top hv ?_
      exact V.ireturn dX7_cost_46 rfl (by first | rfl | decide +kernel) (⟨rfl, rfl⟩)
    · refine V.tabIn (off := 46) 47 dX7_cost_1 (by decide +kernel) (by decide +kernel) (by decide +kernel) (by decide) ?_
      refine V.aldn 0 dX7_cost_47 rfl rfl ?_
      refine V.cVi ((t_overAll hM.1 : Mt (dp + 1 + 4) 0 0 _ _ _ _)) dX7_cost_48 k_X7_186 rfl rfl rfl (Nat.le_of_ble_eq_true rfl) rfl ?_
      refine V.top hv ?_
      exact V.ireturn dX7_cost_51 rfl (by first | rfl | decide +kernel) (⟨rfl, rfl⟩)
  · rw [if_neg hw] at hv
    refine V.tabOut 52 dX7_cost_1 (tabOut_of (k := 4) (by decide) (by simpa using hw)) (by decide) ?_
    refine V.iconst (-1) dX7_cost_52 (by decide +kernel) ?_
    refine V.top hv ?_
    exact V.ireturn dX7_cost_53 rfl (by first | rfl | decide +kernel) (⟨rfl, rfl⟩)
theorem inB_7 (x : Int32) : inB x (nI 0) (nI 7) = isIn x 8 := by
  have := inB_isIn (x := x) (n := 8) (by decide)
  rw [← this]
  congr 1
theorem t_held (hM : MS F n nd R D m) (x w : Int32) : Mt (dp + 4) 0 0 mX7_held [.ref 45, .int x, .int w] (HH f ro rs rw rb m) (RI (if isIn x 8 = true ∧ isIn w 4 = true then vHeld F nd R x.toNatClampNeg w.toNatClampNeg else -1) (HH f ro rs rw rb m)) := by
  refine Mt.of rfl rfl (Nat.le_of_ble_eq_true rfl) rfl ?_
  obtain ⟨hnd, h13, hF, hp, hR⟩ := hM.1
  generalize hv : (if isIn x 8 = true ∧ isIn w 4 = true then vHeld F nd R x.toNatClampNeg w.toNatClampNeg else -1) = v
  have swt : isIn x 8 = true → V mX7_held (dp + 4) 0 0 13 [some (.ref 45), some (.int x), some (.int w)] [.int w] (HH f ro rs rw rb m) (RI v (HH f ro rs rw rb m)) := by
    intro hx
    obtain ⟨p, hp8, rfl⟩ := (isIn_iff (by decide)).mp hx
    have hcl : (nI p).toNatClampNeg = p := nI_clamp (by omega)
    by_cases hw : isIn w 4 = true
    · obtain ⟨j, hj, rfl⟩ := (isIn_iff (by decide)).mp hw
      have hcj : (nI j).toNatClampNeg = j := nI_clamp (by omega)
      rw [if_pos ⟨hx, hw⟩, hcl, hcj] at hv
      rcases (show j = 0 ∨ j = 1 ∨ j = 2 ∨ j = 3 by omega) with rfl | rfl | rfl | rfl
      · refine V.tabIn (off := 31) 44 dX7_held_13 (by decide +kernel) (by decide +kernel) (by decide +kernel) (by decide) ?_
        refine V.aldn 0 dX7_held_44 rfl rfl ?_
        refine V.ildn 1 dX7_held_45 rfl rfl ?_
        refine V.iconst (nI 0) dX7_held_46 (by decide +kernel) ?_
        refine V.cVi ((t_edge (hF 6 rfl) hnd h13 hR p false : Mt (dp + 1 + 2) 0 0 _ _ _ _)) dX7_held_47 k_X7_167 rfl rfl rfl (Nat.le_of_ble_eq_true rfl) rfl ?_
        refine V.top hv ?_
        exact V.ireturn dX7_held_50 rfl (by first | rfl | decide +kernel) (⟨rfl, rfl⟩)
      · refine V.tabIn (off := 38) 51 dX7_held_13 (by decide +kernel) (by decide +kernel) (by decide +kernel) (by decide) ?_
        refine V.aldn 0 dX7_held_51 rfl rfl ?_
        refine V.ildn 1 dX7_held_52 rfl rfl ?_
        refine V.iconst (nI 1) dX7_held_53 (by decide +kernel) ?_
        refine V.cVi ((t_edge (hF 6 rfl) hnd h13 hR p true : Mt (dp + 1 + 2) 0 0 _ _ _ _)) dX7_held_54 k_X7_167 rfl rfl rfl (Nat.le_of_ble_eq_true rfl) rfl ?_
        refine V.top hv ?_
        exact V.ireturn dX7_held_57 rfl (by first | rfl | decide +kernel) (⟨rfl, rfl⟩)
      · refine V.tabIn (off := 45) 58 dX7_held_13 (by decide +kernel) (by decide +kernel) (by decide +kernel) (by decide) ?_
        refine V.aldn 0 dX7_held_58 rfl rfl ?_
        refine V.ildn 1 dX7_held_59 rfl rfl ?_
        refine V.cVi ((t_daysOf (hF 6 rfl) hnd h13 hR p : Mt (dp + 1 + 2) 0 0 _ _ _ _)) dX7_held_60 k_X7_189 rfl rfl rfl (Nat.le_of_ble_eq_true rfl) rfl ?_
        refine V.top hv ?_
        exact V.ireturn dX7_held_63 rfl (by first | rfl | decide +kernel) (⟨rfl, rfl⟩)
      · refine V.tabIn (off := 51) 64 dX7_held_13 (by decide +kernel) (by decide +kernel) (by decide +kernel) (by decide) ?_
        refine V.aldn 0 dX7_held_64 rfl rfl ?_
        refine V.ildn 1 dX7_held_65 rfl rfl ?_
        refine V.cVi ((t_paid (hF 6 rfl) (hF 10 rfl) hnd h13 hR hp8 : Mt (dp + 3) 0 0 _ _ _ _)) dX7_held_66 k_X7_171 rfl rfl rfl (Nat.le_of_ble_eq_true rfl) rfl ?_
        refine V.top hv ?_
        exact V.ireturn dX7_held_69 rfl (by first | rfl | decide +kernel) (⟨rfl, rfl⟩)
    · rw [if_neg (fun q => hw q.2)] at hv
      refine V.tabOut 70 dX7_held_13 (tabOut_of (k := 4) (by decide) (by simpa using hw)) (by decide) ?_
      refine V.iconst (-1) dX7_held_70 (by decide +kernel) ?_
      refine V.top hv ?_
      exact V.ireturn dX7_held_71 rfl (by first | rfl | decide +kernel) (⟨rfl, rfl⟩)
  refine V.ildn 1 dX7_held_0 rfl rfl ?_
  refine V.iconst (nI 0) dX7_held_1 (by decide +kernel) ?_
  refine V.bipush (nI 7) dX7_held_2 (by decide +kernel) ?_
  refine V.cSi ((t_in x (nI 0) (nI 7) : Mt (dp + 2 + 1) 0 0 _ _ _ _)) dX7_held_4 k_X7_87 rfl rfl (Nat.le_of_ble_eq_true rfl) rfl ?_
  rw [inB_7]
  first | refine V.if_neB 12 dX7_held_7 (by decide) (fun c7 => ?_) (fun c7 => ?_) | refine V.if_neN 12 dX7_held_7 (by decide) (by omega) (fun c7 => ?_) (fun c7 => ?_) | refine V.if_ne 12 dX7_held_7 (by decide) (fun c7 => ?_) (fun c7 => ?_)
  · refine V.ildn 2 dX7_held_12 rfl rfl ?_
    exact swt c7
  · refine V.iconst (-1) dX7_held_10 (by decide +kernel) ?_
    exact V.ireturn dX7_held_11 rfl (by first | rfl | decide +kernel) (⟨by rw [← hv, if_neg (fun q => by rw [c7] at q; cases q.1)], rfl⟩)
end MODEL
