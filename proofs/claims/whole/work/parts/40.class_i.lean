/-! the class: moves and trades -/
section CLASS
variable {f ro rs : Nat → Nat → Int32} {rw rb : Nat → Nat} {m : Nat → Nat → Int32} {dp : Nat} {F : Nat → Nat → Int32} {n nd : Nat} {R : Nat → List Nat} {D : Nat → Option Nat}
theorem GV.take {s e : Nat} (h : GV F n nd R D) (hs : s < n) (he : D s = some e) : GV F n nd (upR R e ((R e).erase s)) (upD D s none) := by
  obtain ⟨h1, h2, h3, h4⟩ := h
  refine ⟨h1, h2, h3.take hs he, fun d hd => ?_⟩
  by_cases q : d = e
  · subst q; rw [upR_s]; exact Nat.le_trans List.length_erase_le (h4 d hd)
  · rw [upR_n q]; exact h4 d hd
theorem GV.put {s d : Nat} {r : List Nat} (h : GV F n nd R D) (hs : s < n) (hds : D s = none) (hd : d < nd) (hr : putO F n nd R D s d = some r) : GV F n nd (upR R d r) (upD D s (some d)) := by
  obtain ⟨h1, h2, h3, h4⟩ := h
  have hD1 := h3.add hs hds hd
  have e5 : ¬ (R d).length = 5 := fun q => by rw [putO, if_pos q] at hr; cases hr
  rw [putO, if_neg e5, ← bestO_upR F n nd R _ d (R d ++ [s])] at hr
  have hl := h4 d hd
  have h5 : (upR R d (R d ++ [s]) d).length ≤ 5 := by rw [upR_s, List.length_append]; simp; omega
  have hd2 := bestO_dr hD1 hd h5 hr
  rw [upR_upR] at hd2
  have hlen := (bestO_mem hr).1
  rw [Pl_len hD1 hd] at hlen
  refine ⟨h1, h2, hd2, fun e he => ?_⟩
  by_cases q : e = d
  · subst q; rw [upR_s, hlen]; exact h5
  · rw [upR_n q]; exact h4 e he
theorem GV.swp {a b : Nat} (h : GV F n nd R D) (ha : a < nd) (hb : b < nd) : GV F n nd (fun d => R (sw a b d)) (fun s => (D s).map (sw a b)) := by
  obtain ⟨h1, h2, h3, h4⟩ := h
  exact ⟨h1, h2, h3.swp ha hb, fun d hd => h4 _ ((sw_lt ha hb).mpr hd)⟩
theorem GV.best {d : Nat} {r : List Nat} (h : GV F n nd R D) (hd : d < nd) (hr : bestO F n nd R D d = some r) : GV F n nd (upR R d r) D := by
  obtain ⟨h1, h2, h3, h4⟩ := h
  have hlen := (bestO_mem hr).1
  rw [Pl_len h3 hd] at hlen
  refine ⟨h1, h2, bestO_dr h3 hd (h4 d hd) hr, fun e he => ?_⟩
  by_cases q : e = d
  · subst q; rw [upR_s, hlen]; exact h4 e he
  · rw [upR_n q]; exact h4 e he
theorem c_arrangeDay (hG : GV F n nd R D) (hK : KP F n nd R D) (hP : CP F n nd R f ro rs rw) {d : Nat} (hd : d < nd) : Mt (dp + 14) 0 0 mX4_arrangeDay [.ref 37, .int (nI d)] (HH f ro rs rw rb m) (fun q h' => ∃ f' ro' rs' r, q = none ∧ h' = HH f' ro' rs' (fun e => rw (sw d 8 e)) rb m ∧ Sm ksP f f' ∧ bestO F n nd R D d = some r ∧ CP F n nd (upR R d r) f' ro' rs' (fun e => rw (sw d 8 e))) := by
  refine Mt.of rfl rfl (Nat.le_of_ble_eq_true rfl) rfl ?_
  obtain ⟨hF, hnd, hD, h5⟩ := hG
  obtain ⟨-, h1, h12, hC, hw, hR⟩ := id hP
  have hn := hD.1
  have hk := hw.1 d (by omega)
  have hk8 := hw.1 8 (by omega)
  have hRd := hR d (by omega)
  have hmask : ∀ t, t < n → (btB (mbr (R d) (R d).length) t = true ↔ D t = some d) := by
    intro t ht
    rw [mbr_bit (hP.lt20 (by omega)) (by omega)]
    exact ⟨fun q => (hD.2.2.1 t d hd q).2, fun q => (hD.2.1 t d ht q).2⟩
  have hFl := Fl_Pl (D := D) hmask
  have hFl5 : (Fl (mbr (R d) (R d).length) n).length ≤ 5 := by rw [hFl, Pl_len hD hd]; exact h5 d hd
  obtain ⟨r, r1, r2, r3, r4, r5⟩ := best_rel hF.1 hF.2.1 hF.2.2.1 hF.2.2.2.1 hD hd h5
  have hbest : bestO F n nd R D d = some r := by
    obtain ⟨r', hr'⟩ := bestO_kp hD hK hd (h5 d hd) (fun q q1 q2 => by
      obtain ⟨t, t1, t2⟩ := mins_bd hF.2.2.1 hF.2.2.2.1 (l := q) (by rw [q1]; exact h5 d hd) (lt_of_mem (fun x hx => hD.lt hd x (q2 x hx)) hn)
      rw [t2, e100k, nI_ltI (by omega) (by decide)]
      omega)
    cases e : dB (KP F n nd (upR R d r) D) with
    | true => exact r4 e
    | false => rw [r5 e] at hr'; cases hr'
  refine V.aldn 0 dX4_arrangeDay_0 rfl rfl ?_
  refine V.gf4_3 dX4_arrangeDay_1 f_X4_41 ?_
  refine V.aldn 0 dX4_arrangeDay_4 rfl rfl ?_
  refine V.gf4_1 dX4_arrangeDay_5 f_X4_28 ?_
  refine V.gf3_1 dX4_arrangeDay_8 f_X4_45 ?_
  refine V.ildn 1 dX4_arrangeDay_11 rfl rfl ?_
  refine V.ald_13 dX4_arrangeDay_12 (ix_nI (by omega) (by decide)) ?_
  refine V.gf5_2 dX4_arrangeDay_13 f_X4_54 (by omega) ?_
  refine V.top hRd.2.1.1 ?_
  refine V.aldn 0 dX4_arrangeDay_16 rfl rfl ?_
  refine V.gf4_1 dX4_arrangeDay_17 f_X4_28 ?_
  refine V.gf3_1 dX4_arrangeDay_20 f_X4_45 ?_
  refine V.bipush (nI 8) dX4_arrangeDay_23 (by decide +kernel) ?_
  refine V.ald_13 dX4_arrangeDay_25 (ix_nI (by omega) (by decide)) ?_
  refine V.cVe (c_arrange (dp := dp) (r := r) hC hF.2.2.1 hF.2.2.2.1 h1 hn hFl5 (by rw [hFl]; exact r1) hk8) dX4_arrangeDay_26 k_X4_58 rfl rfl rfl (Nat.le_of_ble_eq_true rfl) rfl ?_
  rintro _ _ ⟨f2, ro2, rs2, rfl, rfl, g1, g2, g3⟩
  refine V.eqs (st' := []) rfl ?_
  refine V.aldn 0 dX4_arrangeDay_29 rfl rfl ?_
  refine V.gf4_1 dX4_arrangeDay_30 f_X4_28 ?_
  refine V.ildn 1 dX4_arrangeDay_33 rfl rfl ?_
  refine V.bipush (nI 8) dX4_arrangeDay_34 (by decide +kernel) ?_
  refine V.cVv ((c_exchange hw (by omega) (by omega) : Mt (dp + 12 + 1) 0 0 _ _ _ _)) dX4_arrangeDay_36 k_X4_62 rfl rfl rfl (Nat.le_of_ble_eq_true rfl) rfl ?_
  exact V.vreturn dX4_arrangeDay_39 rfl (⟨f2, ro2, rs2, r, rfl, rfl, g1.wk (by simp), hbest, hP.put (g1.wk (by simp)) (by omega) (by omega) (by omega) g2 g3⟩)
theorem c_moveIfGood (hG : GV F n nd R D) (hP : CP F n nd R f ro rs rw) {s d e : Nat} (hs : s < n) (hds : D s = some e) (hd : d < nd) : Mt (dp + 15) 0 0 mX4_moveIfGood [.ref 37, .int (nI s), .int (nI e), .int (nI d), .int (costC F nd R)] (HH f ro rs rw rb m) (fun q h' => ∃ f' ro' rs' rw', q = some (.int (bI (dB (GMe F n nd R D s e d)))) ∧ h' = HH f' ro' rs' rw' rb m ∧ Sm ksP f f' ∧ ((GMe F n nd R D s e d ∧ CP F n nd (mvR F n nd R D s e d) f' ro' rs' rw') ∨ (¬ GMe F n nd R D s e d ∧ CP F n nd R f' ro' rs' rw'))) := by
  refine Mt.of rfl rfl (Nat.le_of_ble_eq_true rfl) rfl ?_
  have hw := hP.2.2.2.2.1
  have hnd := hG.2.1
  have he := (hG.2.2.1.2.1 s e hs hds).1
  have hG1 := hG.take hs hds
  have h8 : ∀ x, x < 8 → rw x ≠ rw 8 := fun x hx z => by have := hw.2 x 8 (by omega) (by omega) z; omega
  have h9 : ∀ x, x < 9 → rw x ≠ rw 9 := fun x hx z => by have := hw.2 x 9 (by omega) (by omega) z; omega
  refine V.aldn 0 dX4_moveIfGood_0 rfl rfl ?_
  refine V.ildn 1 dX4_moveIfGood_1 rfl rfl ?_
  refine V.ildn 2 dX4_moveIfGood_2 rfl rfl ?_
  refine V.cVe ((c_leave (dp := dp + 11) hG.1.2.2.1 hG.1.2.2.2.1 hG.2.2.1 hP hs he : Mt (dp + 14) 0 0 _ _ _ _)) dX4_moveIfGood_3 k_X4_110 rfl rfl rfl (Nat.le_of_ble_eq_true rfl) rfl ?_
  rintro _ _ ⟨ro1, rs1, rfl, rfl, b1, b2⟩
  refine V.eqs (st' := []) rfl ?_
  have hP1 : CP F n nd (upR R e ((R e).erase s)) f ro1 rs1 (fun x => rw (sw e 9 x)) := hP.put Sm.rf (by omega) (by omega) (by omega) b1 b2
  have hw1 := hw.swp (a := e) (b := 9) (by omega) (by omega)
  have e8 : sw e 9 8 = 8 := sw_n (by omega) (by omega)
  refine V.aldn 0 dX4_moveIfGood_6 rfl rfl ?_
  refine V.ildn 1 dX4_moveIfGood_7 rfl rfl ?_
  refine V.ildn 3 dX4_moveIfGood_8 rfl rfl ?_
  refine V.cVe (c_join (dp := dp) hG1 hP1 hs (upD_s D s none) hd) dX4_moveIfGood_9 k_X4_69 rfl rfl rfl (Nat.le_of_ble_eq_true rfl) rfl ?_
  rintro _ _ ⟨f2, ro2, rs2, rfl, g1, g2, g3⟩
  rw [e8] at g2 g3
  have hback : CP F n nd R f2 ro2 rs2 rw := hP.same (g1.wk (by simp)) (fun x hx => ⟨(g2 _ (h8 x hx)).1.trans (b1 _ (h9 x (by omega))).1, (g2 _ (h8 x hx)).2.trans (b1 _ (h9 x (by omega))).2⟩)
  refine V.eqs (st' := [.int (mayV F n nd (upR R e ((R e).erase s)) (upD D s none) s d)]) rfl ?_
  refine V.if_ne 39 dX4_moveIfGood_12 (by decide) (fun c12 => ?_) (fun c12 => ?_)
  · have hno : putO F n nd (upR R e ((R e).erase s)) (upD D s none) s d = none := by cases e : putO F n nd (upR R e ((R e).erase s)) (upD D s none) s d with | none => rfl | some r => exact absurd (mayV_0.mpr (by rw [e]; rfl)) c12
    have hng : ¬ GMe F n nd R D s e d := fun q => by have := q.1; rw [mvO, hno] at this; cases this
    rcases g3 with ⟨r, q1, -⟩ | ⟨-, q2⟩
    · rw [hno] at q1; cases q1
    subst q2
    refine V.aldn 0 dX4_moveIfGood_39 rfl rfl ?_
    refine V.gf4_1 dX4_moveIfGood_40 f_X4_28 ?_
    refine V.ildn 2 dX4_moveIfGood_43 rfl rfl ?_
    refine V.bipush (nI 9) dX4_moveIfGood_44 (by decide +kernel) ?_
    refine V.cVv ((c_exchange hw1 (by omega) (by omega) : Mt (dp + 13 + 1) 0 0 _ _ _ _)) dX4_moveIfGood_46 k_X4_62 rfl rfl rfl (Nat.le_of_ble_eq_true rfl) rfl ?_
    rw [sw_back]
    refine V.iconst (nI 0) dX4_moveIfGood_49 (by decide +kernel) ?_
    exact V.ireturn dX4_moveIfGood_50 rfl (by first | rfl | decide +kernel) ⟨f2, ro2, rs2, rw, by rw [dB_f hng]; rfl, rfl, g1.wk (by simp), Or.inr ⟨hng, hback⟩⟩
  · have hyes := mayV_0.mp c12
    rcases g3 with ⟨r, q1, q3, q2⟩ | ⟨q1, -⟩
    rotate_left
    · rw [q1] at hyes; cases hyes
    subst q2
    have hP2 : CP F n nd (mvR F n nd R D s e d) f2 ro2 rs2 (fun x => (fun x => rw (sw e 9 x)) (sw d 8 x)) := by { rw [mvR, mvO, q1]; exact hP1.put (g1.wk (by simp)) (by omega) (by omega) (by omega) (by rw [e8]; exact g2) (by rw [e8]; exact q3) }
    refine V.aldn 0 dX4_moveIfGood_15 rfl rfl ?_
    refine V.gf4_2 dX4_moveIfGood_16 f_X4_32 ?_
    refine V.cVi ((c_total hP2 hG.1.2.2.2.2 : Mt (dp + 9 + 5) 0 0 _ _ _ _)) dX4_moveIfGood_19 k_X4_89 rfl rfl rfl (Nat.le_of_ble_eq_true rfl) rfl ?_
    refine V.iload dX4_moveIfGood_22 rfl ?_
    refine V.icmp_ge 29 dX4_moveIfGood_24 (by decide) (fun c24 => ?_) (fun c24 => ?_)
    · have hng : ¬ GMe F n nd R D s e d := fun q => absurd q.2 (Int32.not_lt.mpr c24)
      refine V.aldn 0 dX4_moveIfGood_29 rfl rfl ?_
      refine V.gf4_1 dX4_moveIfGood_30 f_X4_28 ?_
      refine V.ildn 3 dX4_moveIfGood_33 rfl rfl ?_
      refine V.bipush (nI 8) dX4_moveIfGood_34 (by decide +kernel) ?_
      refine V.cVv ((c_exchange (hw1.swp (by omega) (by omega)) (by omega) (by omega) : Mt (dp + 13 + 1) 0 0 _ _ _ _)) dX4_moveIfGood_36 k_X4_62 rfl rfl rfl (Nat.le_of_ble_eq_true rfl) rfl ?_
      rw [sw_back (fun x => rw (sw e 9 x))]
      refine V.aldn 0 dX4_moveIfGood_39 rfl rfl ?_
      refine V.gf4_1 dX4_moveIfGood_40 f_X4_28 ?_
      refine V.ildn 2 dX4_moveIfGood_43 rfl rfl ?_
      refine V.bipush (nI 9) dX4_moveIfGood_44 (by decide +kernel) ?_
      refine V.cVv ((c_exchange hw1 (by omega) (by omega) : Mt (dp + 13 + 1) 0 0 _ _ _ _)) dX4_moveIfGood_46 k_X4_62 rfl rfl rfl (Nat.le_of_ble_eq_true rfl) rfl ?_
      rw [sw_back]
      refine V.iconst (nI 0) dX4_moveIfGood_49 (by decide +kernel) ?_
      exact V.ireturn dX4_moveIfGood_50 rfl (by first | rfl | decide +kernel) ⟨f2, ro2, rs2, rw, by rw [dB_f hng]; rfl, rfl, g1.wk (by simp), Or.inr ⟨hng, hback⟩⟩
    · have hg : GMe F n nd R D s e d := ⟨hyes, Int32.not_le.mp c24⟩
      refine V.iconst (nI 1) dX4_moveIfGood_27 (by decide +kernel) ?_
      exact V.ireturn dX4_moveIfGood_28 rfl (by first | rfl | decide +kernel) ⟨f2, ro2, rs2, _, by rw [dB_t hg]; rfl, rfl, g1.wk (by simp), Or.inl ⟨hg, hP2⟩⟩
def MvQ (F : Nat → Nat → Int32) (n nd : Nat) (R : Nat → List Nat) (D : Nat → Option Nat) (rb : Nat → Nat) (m f : Nat → Nat → Int32) : Option Value → List AC → Prop := fun q h' => ∃ f' ro' rs' rw', h' = HH f' ro' rs' rw' rb m ∧ Sm ksP f f' ∧ ((∃ s d e, s < n ∧ d < nd ∧ D s = some e ∧ d ≠ e ∧ GMe F n nd R D s e d ∧ (∀ s' d', s' < n → d' < nd → (s' < s ∨ s' = s ∧ d' < d) → ¬ GM F n nd R D s' d') ∧ q = some (.int (bI true)) ∧ CP F n nd (mvR F n nd R D s e d) f' ro' rs' rw') ∨ ((∀ s' d', s' < n → d' < nd → ¬ GM F n nd R D s' d') ∧ q = some (.int (bI false)) ∧ CP F n nd R f' ro' rs' rw'))
theorem c_makeFirstGoodMove (hG : GV F n nd R D) (hP : CP F n nd R f ro rs rw) : Mt (dp + 16) 0 0 mX4_makeFirstGoodMove [.ref 37] (HH f ro rs rw rb m) (MvQ F n nd R D rb m f) := by
  refine Mt.of rfl rfl (Nat.le_of_ble_eq_true rfl) rfl ?_
  have hn := hG.2.2.1.1
  have hnd := hG.2.1
  generalize hQ : MvQ F n nd R D rb m f = Q
  have outer : ∀ (j i : Nat) (f' ro' rs' : Nat → Nat → Int32) (rw' : Nat → Nat) (x3 x4 : Option Value), n - i = j → i ≤ n → Sm ksP f f' → CP F n nd R f' ro' rs' rw' → (∀ s' d', s' < i → d' < nd → ¬ GM F n nd R D s' d') → V mX4_makeFirstGoodMove (dp + 16) 0 0 10 [some (.ref 37), some (.int (costC F nd R)), some (.int (nI i)), x3, x4] [] (HH f' ro' rs' rw' rb m) Q := by
    intro j
    induction j using Nat.strongRecOn with
    | _ j ih =>
      intro i f' ro' rs' rw' x3 x4 hj hi hS hP' hno
      have inner : i < n → ∀ (b a : Nat) (f' ro' rs' : Nat → Nat → Int32) (rw' : Nat → Nat), nd - a = b → a ≤ nd → Sm ksP f f' → CP F n nd R f' ro' rs' rw' → (∀ d', d' < a → ¬ GM F n nd R D i d') → V mX4_makeFirstGoodMove (dp + 16) 0 0 33 [some (.ref 37), some (.int (costC F nd R)), some (.int (nI i)), some (.int (dI (D i))), some (.int (nI a))] [] (HH f' ro' rs' rw' rb m) Q := by
        intro hin b
        induction b using Nat.strongRecOn with
        | _ b ih2 =>
          intro a f' ro' rs' rw' hb ha hS hP' hno2
          have out : (∀ d', d' < nd → ¬ GM F n nd R D i d') → V mX4_makeFirstGoodMove (dp + 16) 0 0 76 [some (.ref 37), some (.int (costC F nd R)), some (.int (nI i)), some (.int (dI (D i))), some (.int (nI a))] [] (HH f' ro' rs' rw' rb m) Q := by
            intro hall
            first | refine V.iincN dX4_makeFirstGoodMove_76 rfl ?_ | refine V.iinc dX4_makeFirstGoodMove_76 rfl rfl ?_
            refine V.goto 10 dX4_makeFirstGoodMove_79 (by decide) ?_
            exact ih _ (by omega) (i + 1) f' ro' rs' rw' _ _ rfl (by omega) hS hP' (fun s' d' h1 h2 => by rcases Nat.lt_succ_iff_lt_or_eq.mp h1 with z | z; exact hno s' d' z h2; rw [z]; exact hall d' h2)
          have nxt : ∀ (f' ro' rs' : Nat → Nat → Int32) (rw' : Nat → Nat), a < nd → Sm ksP f f' → CP F n nd R f' ro' rs' rw' → ¬ GM F n nd R D i a → V mX4_makeFirstGoodMove (dp + 16) 0 0 70 [some (.ref 37), some (.int (costC F nd R)), some (.int (nI i)), some (.int (dI (D i))), some (.int (nI a))] [] (HH f' ro' rs' rw' rb m) Q := by
            intro f' ro' rs' rw' han hS hP' hga
            first | refine V.iincN dX4_makeFirstGoodMove_70 rfl ?_ | refine V.iinc dX4_makeFirstGoodMove_70 rfl rfl ?_
            refine V.goto 33 dX4_makeFirstGoodMove_73 (by decide) ?_
            exact ih2 _ (by omega) (a + 1) f' ro' rs' rw' rfl (by omega) hS hP' (fun d' h1 => by rcases Nat.lt_succ_iff_lt_or_eq.mp h1 with z | z; exact hno2 d' z; rw [z]; exact hga)
          refine V.iload dX4_makeFirstGoodMove_33 rfl ?_
          refine V.aldn 0 dX4_makeFirstGoodMove_35 rfl rfl ?_
          refine V.gf4_1 dX4_makeFirstGoodMove_36 f_X4_28 ?_
          refine V.gf3_4 dX4_makeFirstGoodMove_39 f_X4_103 ?_
          refine V.top hP'.2.2.1 ?_
          first | refine V.icmp_geN 76 dX4_makeFirstGoodMove_42 (by decide) (by omega) (by omega) (fun c42 => ?_) (fun c42 => ?_) | refine V.icmp_ge 76 dX4_makeFirstGoodMove_42 (by decide) (fun c42 => ?_) (fun c42 => ?_)
          · exact out (fun d' h => hno2 d' (by omega))
          · refine V.ildn 3 dX4_makeFirstGoodMove_45 rfl rfl ?_
            refine V.iconst (-1) dX4_makeFirstGoodMove_46 (by decide +kernel) ?_
            refine V.icmp_eq 76 dX4_makeFirstGoodMove_47 (by decide) (fun c47 => ?_) (fun c47 => ?_)
            · exact out (fun d' h q => by obtain ⟨e, q1, -⟩ := q; rw [q1] at c47; have := (hG.2.2.1.2.1 i e hin q1).1; exact nI_m1 (d := e) (by omega) c47)
            · obtain ⟨e, hde⟩ : ∃ e, D i = some e := by cases h : D i with | none => rw [h] at c47; exact absurd rfl c47 | some e => exact ⟨e, rfl⟩
              have hen := (hG.2.2.1.2.1 i e hin hde).1
              refine V.iload dX4_makeFirstGoodMove_50 rfl ?_
              refine V.ildn 3 dX4_makeFirstGoodMove_52 rfl rfl ?_
              refine V.top (y := nI e) (by rw [hde]; rfl) ?_
              first | refine V.icmp_eqN 70 dX4_makeFirstGoodMove_53 (by decide) (by omega) (by omega) (fun c53 => ?_) (fun c53 => ?_) | refine V.icmp_eq 70 dX4_makeFirstGoodMove_53 (by decide) (fun c53 => ?_) (fun c53 => ?_)
              · exact nxt _ _ _ _ c42 hS hP' (fun q => by obtain ⟨e', q1, q2, -⟩ := q; rw [hde] at q1; cases q1; exact q2 c53)
              · refine V.aldn 0 dX4_makeFirstGoodMove_56 rfl rfl ?_
                refine V.ildn 2 dX4_makeFirstGoodMove_57 rfl rfl ?_
                refine V.ildn 3 dX4_makeFirstGoodMove_58 rfl rfl ?_
                refine V.top (y := nI e) (by rw [hde]; rfl) ?_
                refine V.iload dX4_makeFirstGoodMove_59 rfl ?_
                refine V.ildn 1 dX4_makeFirstGoodMove_61 rfl rfl ?_
                refine V.cVe (c_moveIfGood (dp := dp) hG hP' hin hde c42) dX4_makeFirstGoodMove_62 k_X4_106 rfl rfl rfl (Nat.le_of_ble_eq_true rfl) rfl ?_
                rintro _ _ ⟨f2, ro2, rs2, rw2, rfl, rfl, g1, g2⟩
                refine V.eqs (st' := [.int (bI (dB (GMe F n nd R D i e a)))]) rfl ?_
                first | refine V.if_eqB 70 dX4_makeFirstGoodMove_65 (by decide) (fun c65 => ?_) (fun c65 => ?_) | refine V.if_eqN 70 dX4_makeFirstGoodMove_65 (by decide) (by omega) (fun c65 => ?_) (fun c65 => ?_) | refine V.if_eq 70 dX4_makeFirstGoodMove_65 (by decide) (fun c65 => ?_) (fun c65 => ?_)
                · have hng := of_dBf c65
                  rcases g2 with ⟨q, -⟩ | ⟨-, q⟩
                  · exact absurd q hng
                  exact nxt _ _ _ _ c42 (hS.tr g1) q (fun q => by obtain ⟨e', q1, q2, q3⟩ := q; rw [hde] at q1; cases q1; exact hng q3)
                · have hg := of_dB c65
                  rcases g2 with ⟨-, q⟩ | ⟨q, -⟩
                  rotate_left
                  · exact absurd hg q
                  refine V.iconst (nI 1) dX4_makeFirstGoodMove_68 (by decide +kernel) ?_
                  exact V.ireturn dX4_makeFirstGoodMove_69 rfl (by first | rfl | decide +kernel) (by rw [← hQ]; exact ⟨f2, ro2, rs2, rw2, rfl, hS.tr g1, Or.inl ⟨i, a, e, hin, c42, hde, c53, hg, fun s' d' h1 h2 h3 => by rcases h3 with z | ⟨z1, z2⟩; exact hno s' d' z h2; rw [z1]; exact hno2 d' z2, rfl, q⟩⟩)
      refine V.ildn 2 dX4_makeFirstGoodMove_10 rfl rfl ?_
      refine V.aldn 0 dX4_makeFirstGoodMove_11 rfl rfl ?_
      refine V.gf4_0 dX4_makeFirstGoodMove_12 f_X4_24 ?_
      refine V.gf2_10 dX4_makeFirstGoodMove_15 f_X4_95 ?_
      refine V.top hP'.2.1 ?_
      first | refine V.icmp_geN 82 dX4_makeFirstGoodMove_18 (by decide) (by omega) (by omega) (fun c18 => ?_) (fun c18 => ?_) | refine V.icmp_ge 82 dX4_makeFirstGoodMove_18 (by decide) (fun c18 => ?_) (fun c18 => ?_)
      · refine V.iconst (nI 0) dX4_makeFirstGoodMove_82 (by decide +kernel) ?_
        exact V.ireturn dX4_makeFirstGoodMove_83 rfl (by first | rfl | decide +kernel) (by rw [← hQ]; exact ⟨f', ro', rs', rw', rfl, hS, Or.inr ⟨fun s' d' h1 h2 => hno s' d' (by omega) h2, rfl, hP'⟩⟩)
      · refine V.aldn 0 dX4_makeFirstGoodMove_21 rfl rfl ?_
        refine V.gf4_1 dX4_makeFirstGoodMove_22 f_X4_28 ?_
        refine V.ildn 2 dX4_makeFirstGoodMove_25 rfl rfl ?_
        refine V.cVi ((c_dayWith hP' hG.2.2.1 c18 : Mt (dp + 13 + 2) 0 0 _ _ _ _)) dX4_makeFirstGoodMove_26 k_X4_99 rfl rfl rfl (Nat.le_of_ble_eq_true rfl) rfl ?_
        refine V.istn 3 dX4_makeFirstGoodMove_29 rfl (Nat.le_of_ble_eq_true rfl) ?_
        refine V.iconst (nI 0) dX4_makeFirstGoodMove_30 (by decide +kernel) ?_
        refine V.istore dX4_makeFirstGoodMove_31 (Nat.le_of_ble_eq_true rfl) ?_
        exact inner c18 _ 0 f' ro' rs' rw' rfl (Nat.zero_le _) hS hP' (fun d' h => absurd h (Nat.not_lt_zero d'))
  refine V.aldn 0 dX4_makeFirstGoodMove_0 rfl rfl ?_
  refine V.gf4_2 dX4_makeFirstGoodMove_1 f_X4_32 ?_
  refine V.cVi ((c_total hP hG.1.2.2.2.2 : Mt (dp + 10 + 5) 0 0 _ _ _ _)) dX4_makeFirstGoodMove_4 k_X4_89 rfl rfl rfl (Nat.le_of_ble_eq_true rfl) rfl ?_
  refine V.istn 1 dX4_makeFirstGoodMove_7 rfl (Nat.le_of_ble_eq_true rfl) ?_
  refine V.iconst (nI 0) dX4_makeFirstGoodMove_8 (by decide +kernel) ?_
  refine V.istn 2 dX4_makeFirstGoodMove_9 rfl (Nat.le_of_ble_eq_true rfl) ?_
  exact outer _ 0 f ro rs rw _ _ rfl (Nat.zero_le _) Sm.rf hP (fun s' d' h => absurd h (Nat.not_lt_zero s'))
def TdQ (F : Nat → Nat → Int32) (n nd : Nat) (R : Nat → List Nat) (D : Nat → Option Nat) (ro rs : Nat → Nat → Int32) (rb : Nat → Nat) (m f : Nat → Nat → Int32) : Option Value → List AC → Prop := fun q h' => ∃ rw', h' = HH f ro rs rw' rb m ∧ ((∃ a b, a < b ∧ b < nd ∧ GT F n nd R D a b ∧ (∀ a' b', a' < b' → b' < nd → (a' < a ∨ a' = a ∧ b' < b) → ¬ GT F n nd R D a' b') ∧ q = some (.int (bI true)) ∧ CP F n nd (fun d => R (sw a b d)) f ro rs rw') ∨ ((∀ a' b', a' < b' → b' < nd → ¬ GT F n nd R D a' b') ∧ q = some (.int (bI false)) ∧ CP F n nd R f ro rs rw'))
theorem c_makeFirstGoodTrade (hG : GV F n nd R D) (hP : CP F n nd R f ro rs rw) : Mt (dp + 16) 0 0 mX4_makeFirstGoodTrade [.ref 37] (HH f ro rs rw rb m) (TdQ F n nd R D ro rs rb m f) := by
  refine Mt.of rfl rfl (Nat.le_of_ble_eq_true rfl) rfl ?_
  have hnd := hG.2.1
  have hw := hP.2.2.2.2.1
  generalize hQ : TdQ F n nd R D ro rs rb m f = Q
  have outer : ∀ (j i : Nat) (x3 : Option Value), nd - i = j → i ≤ nd → (∀ a' b', a' < i → a' < b' → b' < nd → ¬ GT F n nd R D a' b') → V mX4_makeFirstGoodTrade (dp + 16) 0 0 10 [some (.ref 37), some (.int (costC F nd R)), some (.int (nI i)), x3] [] (HH f ro rs rw rb m) Q := by
    intro j
    induction j using Nat.strongRecOn with
    | _ j ih =>
      intro i x3 hj hi hno
      have inner : i < nd → ∀ (b a : Nat), nd - a = b → i < a → a ≤ nd → (∀ b', i < b' → b' < a → ¬ GT F n nd R D i b') → V mX4_makeFirstGoodTrade (dp + 16) 0 0 25 [some (.ref 37), some (.int (costC F nd R)), some (.int (nI i)), some (.int (nI a))] [] (HH f ro rs rw rb m) Q := by
        intro hin b
        induction b using Nat.strongRecOn with
        | _ b ih2 =>
          intro a hb hia ha hno2
          have nxt : a < nd → ¬ GT F n nd R D i a → V mX4_makeFirstGoodTrade (dp + 16) 0 0 68 [some (.ref 37), some (.int (costC F nd R)), some (.int (nI i)), some (.int (nI a))] [] (HH f ro rs (fun d => rw (sw i a d)) rb m) Q := by
            intro han hga
            have hw1 := hw.swp (a := i) (b := a) (by omega) (by omega)
            refine V.aldn 0 dX4_makeFirstGoodTrade_68 rfl rfl ?_
            refine V.gf4_1 dX4_makeFirstGoodTrade_69 f_X4_28 ?_
            refine V.ildn 2 dX4_makeFirstGoodTrade_72 rfl rfl ?_
            refine V.ildn 3 dX4_makeFirstGoodTrade_73 rfl rfl ?_
            refine V.cVv ((c_exchange hw1 (by omega) (by omega) : Mt (dp + 14 + 1) 0 0 _ _ _ _)) dX4_makeFirstGoodTrade_74 k_X4_62 rfl rfl rfl (Nat.le_of_ble_eq_true rfl) rfl ?_
            rw [sw_back]
            first | refine V.iincN dX4_makeFirstGoodTrade_77 rfl ?_ | refine V.iinc dX4_makeFirstGoodTrade_77 rfl rfl ?_
            refine V.goto 25 dX4_makeFirstGoodTrade_80 (by decide) ?_
            exact ih2 _ (by omega) (a + 1) rfl (by omega) (by omega) (fun b' h1 h2 => by rcases Nat.lt_succ_iff_lt_or_eq.mp h2 with z | z; exact hno2 b' h1 z; rw [z]; exact hga)
          refine V.ildn 3 dX4_makeFirstGoodTrade_25 rfl rfl ?_
          refine V.aldn 0 dX4_makeFirstGoodTrade_26 rfl rfl ?_
          refine V.gf4_1 dX4_makeFirstGoodTrade_27 f_X4_28 ?_
          refine V.gf3_4 dX4_makeFirstGoodTrade_30 f_X4_103 ?_
          refine V.top hP.2.2.1 ?_
          first | refine V.icmp_geN 83 dX4_makeFirstGoodTrade_33 (by decide) (by omega) (by omega) (fun c33 => ?_) (fun c33 => ?_) | refine V.icmp_ge 83 dX4_makeFirstGoodTrade_33 (by decide) (fun c33 => ?_) (fun c33 => ?_)
          · refine V.iincN dX4_makeFirstGoodTrade_83 rfl ?_
            refine V.goto 10 dX4_makeFirstGoodTrade_86 (by decide) ?_
            exact ih _ (by omega) (i + 1) _ rfl (by omega) (fun a' b' h1 h2 h3 => by rcases Nat.lt_succ_iff_lt_or_eq.mp h1 with z | z; exact hno a' b' z h2 h3; rw [z] at h2 ⊢; exact hno2 b' h2 (by omega))
          · have hG2 := hG.swp hin c33
            have hP2 := hP.swp (a := i) (b := a) (by omega) (by omega)
            refine V.aldn 0 dX4_makeFirstGoodTrade_36 rfl rfl ?_
            refine V.gf4_1 dX4_makeFirstGoodTrade_37 f_X4_28 ?_
            refine V.ildn 2 dX4_makeFirstGoodTrade_40 rfl rfl ?_
            refine V.ildn 3 dX4_makeFirstGoodTrade_41 rfl rfl ?_
            refine V.cVv ((c_exchange hw (by omega) (by omega) : Mt (dp + 14 + 1) 0 0 _ _ _ _)) dX4_makeFirstGoodTrade_42 k_X4_62 rfl rfl rfl (Nat.le_of_ble_eq_true rfl) rfl ?_
            refine V.aldn 0 dX4_makeFirstGoodTrade_45 rfl rfl ?_
            refine V.gf4_1 dX4_makeFirstGoodTrade_46 f_X4_28 ?_
            refine V.cVi ((c_keeps hG.1 hG2.2.2.1 hP2 : Mt (dp + 13 + 2) 0 0 _ _ _ _)) dX4_makeFirstGoodTrade_49 k_X4_66 rfl rfl rfl (Nat.le_of_ble_eq_true rfl) rfl ?_
            first | refine V.if_eqB 68 dX4_makeFirstGoodTrade_52 (by decide) (fun c52 => ?_) (fun c52 => ?_) | refine V.if_eqN 68 dX4_makeFirstGoodTrade_52 (by decide) (by omega) (fun c52 => ?_) (fun c52 => ?_) | refine V.if_eq 68 dX4_makeFirstGoodTrade_52 (by decide) (fun c52 => ?_) (fun c52 => ?_)
            · exact nxt c33 (fun q => of_dBf c52 q.1)
            · refine V.aldn 0 dX4_makeFirstGoodTrade_55 rfl rfl ?_
              refine V.gf4_2 dX4_makeFirstGoodTrade_56 f_X4_32 ?_
              refine V.cVi ((c_total hP2 hG.1.2.2.2.2 : Mt (dp + 10 + 5) 0 0 _ _ _ _)) dX4_makeFirstGoodTrade_59 k_X4_89 rfl rfl rfl (Nat.le_of_ble_eq_true rfl) rfl ?_
              refine V.ildn 1 dX4_makeFirstGoodTrade_62 rfl rfl ?_
              refine V.icmp_ge 68 dX4_makeFirstGoodTrade_63 (by decide) (fun c63 => ?_) (fun c63 => ?_)
              · exact nxt c33 (fun q => absurd q.2 (Int32.not_lt.mpr c63))
              · refine V.iconst (nI 1) dX4_makeFirstGoodTrade_66 (by decide +kernel) ?_
                exact V.ireturn dX4_makeFirstGoodTrade_67 rfl (by first | rfl | decide +kernel) (by rw [← hQ]; exact ⟨_, rfl, Or.inl ⟨i, a, hia, c33, ⟨of_dB c52, Int32.not_le.mp c63⟩, fun a' b' h1 h2 h3 => by rcases h3 with z | ⟨z1, z2⟩; exact hno a' b' z h1 h2; rw [z1] at h1 ⊢; exact hno2 b' h1 z2, rfl, hP2⟩⟩)
      refine V.ildn 2 dX4_makeFirstGoodTrade_10 rfl rfl ?_
      refine V.aldn 0 dX4_makeFirstGoodTrade_11 rfl rfl ?_
      refine V.gf4_1 dX4_makeFirstGoodTrade_12 f_X4_28 ?_
      refine V.gf3_4 dX4_makeFirstGoodTrade_15 f_X4_103 ?_
      refine V.top hP.2.2.1 ?_
      first | refine V.icmp_geN 89 dX4_makeFirstGoodTrade_18 (by decide) (by omega) (by omega) (fun c18 => ?_) (fun c18 => ?_) | refine V.icmp_ge 89 dX4_makeFirstGoodTrade_18 (by decide) (fun c18 => ?_) (fun c18 => ?_)
      · refine V.iconst (nI 0) dX4_makeFirstGoodTrade_89 (by decide +kernel) ?_
        exact V.ireturn dX4_makeFirstGoodTrade_90 rfl (by first | rfl | decide +kernel) (by rw [← hQ]; exact ⟨rw, rfl, Or.inr ⟨fun a' b' h1 h2 => hno a' b' (by omega) h1 h2, rfl, hP⟩⟩)
      · refine V.ildn 2 dX4_makeFirstGoodTrade_21 rfl rfl ?_
        refine V.iconst (nI 1) dX4_makeFirstGoodTrade_22 (by decide +kernel) ?_
        first | refine V.iaddN dX4_makeFirstGoodTrade_23 ?_ | refine V.iadd dX4_makeFirstGoodTrade_23 ?_
        refine V.istn 3 dX4_makeFirstGoodTrade_24 rfl (Nat.le_of_ble_eq_true rfl) ?_
        exact inner c18 _ (i + 1) rfl (by omega) (by omega) (fun b' h1 h2 => absurd h2 (by omega))
  refine V.aldn 0 dX4_makeFirstGoodTrade_0 rfl rfl ?_
  refine V.gf4_2 dX4_makeFirstGoodTrade_1 f_X4_32 ?_
  refine V.cVi ((c_total hP hG.1.2.2.2.2 : Mt (dp + 10 + 5) 0 0 _ _ _ _)) dX4_makeFirstGoodTrade_4 k_X4_89 rfl rfl rfl (Nat.le_of_ble_eq_true rfl) rfl ?_
  refine V.istn 1 dX4_makeFirstGoodTrade_7 rfl (Nat.le_of_ble_eq_true rfl) ?_
  refine V.iconst (nI 0) dX4_makeFirstGoodTrade_8 (by decide +kernel) ?_
  refine V.istn 2 dX4_makeFirstGoodTrade_9 rfl (Nat.le_of_ble_eq_true rfl) ?_
  exact outer _ 0 _ rfl (Nat.zero_le _) (fun a' b' h => absurd h (Nat.not_lt_zero a'))
end CLASS
