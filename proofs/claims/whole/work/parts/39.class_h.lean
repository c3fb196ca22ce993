/-! the class: the planner -/
def GF (F : Nat → Nat → Int32) (n : Nat) : Prop := NA F n ∧ PM F n ∧ FB F ∧ PlV F ∧ FC F
def GV (F : Nat → Nat → Int32) (n nd : Nat) (R : Nat → List Nat) (D : Nat → Option Nat) : Prop := GF F n ∧ nd ≤ 8 ∧ DR n nd R D ∧ ∀ d, d < nd → (R d).length ≤ 5
theorem getD_last (l : List Nat) (x : Nat) : (l ++ [x]).getD l.length 0 = x := by rw [List.getD_eq_getElem?_getD, List.getElem?_append_right (Nat.le_refl _)]; simp
theorem sw_l (a b : Nat) : sw a b a = b := if_pos rfl
theorem sw_r (a b : Nat) : sw a b b = a := by unfold sw; split <;> simp_all
theorem sw_n {a b d : Nat} (h1 : d ≠ a) (h2 : d ≠ b) : sw a b d = d := by unfold sw; rw [if_neg h1, if_neg h2]
theorem WP.swp {rw : Nat → Nat} {a b : Nat} (h : WP rw) (ha : a < 10) (hb : b < 10) : WP (fun d => rw (sw a b d)) :=
  ⟨fun d hd => h.1 _ ((sw_lt ha hb).mpr hd), fun x y hx hy e => by
    have := h.2 _ _ ((sw_lt ha hb).mpr hx) ((sw_lt ha hb).mpr hy) e
    rw [← sw_sw a b x, this, sw_sw]⟩
theorem sw_back (rw : Nat → Nat) (a b : Nat) : (fun d => (fun e => rw (sw a b e)) (sw a b d)) = rw := by
  funext d
  show rw (sw a b (sw a b d)) = rw d
  rw [sw_sw]
section CLASS
variable {f ro rs : Nat → Nat → Int32} {rw rb : Nat → Nat} {m : Nat → Nat → Int32} {dp : Nat} {F : Nat → Nat → Int32} {n nd : Nat} {R : Nat → List Nat} {D : Nat → Option Nat}
abbrev ksP : List Nat := [39, 40, 41, 42, 43, 44]
theorem CP.same {f' ro' rs' : Nat → Nat → Int32} (h : CP F n nd R f ro rs rw) (hS : Sm ksP f f') (hr : ∀ e, e < 8 → ro' (rw e) = ro (rw e) ∧ rs' (rw e) = rs (rw e)) : CP F n nd R f' ro' rs' rw := by
  obtain ⟨h0, h1, h2, h3, h4, h5⟩ := h
  exact ⟨h0, by rw [hS 1 (by decide)]; exact h1, by rw [hS 12 (by decide)]; exact h2, h3.sm hS rfl, h4, fun d hd => by rw [(hr d hd).1, (hr d hd).2]; exact h5 d hd⟩
theorem CP.put {f' ro' rs' : Nat → Nat → Int32} {d c : Nat} {r : List Nat} (h : CP F n nd R f ro rs rw) (hS : Sm ksP f f') (hd : d < 8) (hc : 8 ≤ c) (hc' : c < 10) (hr : ∀ q, q ≠ rw c → ro' q = ro q ∧ rs' q = rs q) (hR : RowIs F r (ro' (rw c)) (rs' (rw c))) : CP F n nd (upR R d r) f' ro' rs' (fun e => rw (sw d c e)) := by
  obtain ⟨h0, h1, h2, h3, h4, h5⟩ := h
  refine ⟨h0, by rw [hS 1 (by decide)]; exact h1, by rw [hS 12 (by decide)]; exact h2, h3.sm hS rfl, h4.swp (by omega) hc', fun e he => ?_⟩
  by_cases q : e = d
  · subst q
    show RowIs F (upR R e r e) (ro' (rw (sw e c e))) (rs' (rw (sw e c e)))
    rw [upR_s, sw_l]
    exact hR
  · have hne : rw e ≠ rw c := fun z => by have := h4.2 e c (by omega) hc' z; omega
    show RowIs F (upR R d r e) (ro' (rw (sw d c e))) (rs' (rw (sw d c e)))
    rw [upR_n q, sw_n q (by omega), (hr _ hne).1, (hr _ hne).2]
    exact h5 e he
theorem CP.swp {a b : Nat} (h : CP F n nd R f ro rs rw) (ha : a < 8) (hb : b < 8) : CP F n nd (fun d => R (sw a b d)) f ro rs (fun e => rw (sw a b e)) := by
  obtain ⟨h0, h1, h2, h3, h4, h5⟩ := h
  exact ⟨h0, h1, h2, h3, h4.swp (by omega) (by omega), fun d hd => h5 _ ((sw_lt ha hb).mpr hd)⟩
theorem CP.len (h : CP F n nd R f ro rs rw) : ∀ d, d < nd → (R d).length ≤ 5 := fun d hd => (h.2.2.2.2.2 d (by have := h.1.2.1; omega)).1.2.1
theorem c_keeps (hG : GF F n) (hD : DR n nd R D) (hP : CP F n nd R f ro rs rw) : Mt (dp + 2) 0 0 mX3_keeps [.ref 12] (HH f ro rs rw rb m) (RI (bI (dB (KP F n nd R D))) (HH f ro rs rw rb m)) := by
  have := c_keepsC (dp := dp) (rb := rb) (m := m) hP
  rw [dB_congr (kp_iff hG.1 hG.2.1 hG.2.2.1 hD hP.len)] at this
  exact this
theorem Fl_Pl {x : Int32} {d : Nat} (h : ∀ s, s < n → (btB x s = true ↔ D s = some d)) : Fl x n = Pl n D d := by
  unfold Fl Pl
  refine List.filter_congr (fun s hs => ?_)
  rw [Bool.eq_iff_iff, h s (List.mem_range.mp hs), decide_eq_true_eq]
/-- what a day's arranging gives: the row in slot 8 -/
theorem c_join (hG : GV F n nd R D) (hP : CP F n nd R f ro rs rw) {s d : Nat} (hs : s < n) (hds : D s = none) (hd : d < nd) : Mt (dp + 14) 0 0 mX4_join [.ref 37, .int (nI s), .int (nI d)] (HH f ro rs rw rb m) (fun q h' => ∃ f' ro' rs', q = some (.int (mayV F n nd R D s d)) ∧ Sm [41, 42, 43, 44] f f' ∧ (∀ q, q ≠ rw 8 → ro' q = ro q ∧ rs' q = rs q) ∧ ((∃ r, putO F n nd R D s d = some r ∧ RowIs F r (ro' (rw 8)) (rs' (rw 8)) ∧ h' = HH f' ro' rs' (fun e => rw (sw d 8 e)) rb m) ∨ (putO F n nd R D s d = none ∧ h' = HH f' ro' rs' rw rb m))) := by
  refine Mt.of rfl rfl (Nat.le_of_ble_eq_true rfl) rfl ?_
  generalize hQ : (fun (q : Option Value) (h' : List AC) => ∃ f' ro' rs', q = some (.int (mayV F n nd R D s d)) ∧ Sm [41, 42, 43, 44] f f' ∧ (∀ q, q ≠ rw 8 → ro' q = ro q ∧ rs' q = rs q) ∧ ((∃ r, putO F n nd R D s d = some r ∧ RowIs F r (ro' (rw 8)) (rs' (rw 8)) ∧ h' = HH f' ro' rs' (fun e => rw (sw d 8 e)) rb m) ∨ (putO F n nd R D s d = none ∧ h' = HH f' ro' rs' rw rb m))) = Q
  obtain ⟨hF, hnd, hD, h5⟩ := hG
  obtain ⟨-, h1, h12, hC, hw, hR⟩ := id hP
  have hn := hD.1
  have hk := hw.1 d (by omega)
  have hk8 := hw.1 8 (by omega)
  have hRd := hR d (by omega)
  have hD1 := hD.add hs hds hd
  have hmask : ∀ t, t < n → (btB (mbr (R d) (R d).length ||| (nI 1 <<< (nI s &&& 31))) t = true ↔ upD D s (some d) t = some d) := by
    intro t ht
    rw [btB_set (by omega) (by omega), Bool.or_eq_true, mbr_bit (hP.lt20 (by omega)) (by omega), beq_iff_eq]
    by_cases e : t = s
    · subst e; rw [upD_s]; simp
    · rw [upD_n e]
      constructor
      · rintro (q | q)
        · exact (hD.2.2.1 t d hd q).2
        · exact absurd q e
      · intro q; exact Or.inl (hD.2.1 t d ht q).2
  have hFl := Fl_Pl (D := upD D s (some d)) hmask
  refine V.aldn 0 dX4_join_0 rfl rfl ?_
  refine V.gf4_1 dX4_join_1 f_X4_28 ?_
  refine V.gf3_1 dX4_join_4 f_X4_45 ?_
  refine V.ildn 2 dX4_join_7 rfl rfl ?_
  refine V.ald_13 dX4_join_8 (ix_nI (by omega) (by decide)) ?_
  refine V.cVi ((c_isFull hk hRd.1 : Mt (dp + 12 + 1) 0 0 _ _ _ _)) dX4_join_9 k_X4_50 rfl rfl (HH_row (by omega)) (Nat.le_of_ble_eq_true rfl) rfl ?_
  first | refine V.if_eqB 17 dX4_join_12 (by decide) (fun c12 => ?_) (fun c12 => ?_) | refine V.if_eqN 17 dX4_join_12 (by decide) (by omega) (fun c12 => ?_) (fun c12 => ?_) | refine V.if_eq 17 dX4_join_12 (by decide) (fun c12 => ?_) (fun c12 => ?_)
  · have e5 : ¬ (R d).length = 5 := of_decide_eq_false c12
    have hl5 := h5 d hd
    have h5' : ∀ e, e < nd → (upR R d (R d ++ [s]) e).length ≤ 5 := fun e he => by by_cases q : e = d; (rw [q, upR_s, List.length_append]; simp; omega); (rw [upR_n q]; exact h5 e he)
    obtain ⟨r, r1, r2, r3, r4, r5⟩ := best_rel hF.1 hF.2.1 hF.2.2.1 hF.2.2.2.1 hD1 hd h5'
    rw [upR_upR] at r2 r4 r5
    rw [bestO_upR] at r4 r5
    have ePut : putO F n nd R D s d = bestO F n nd R (upD D s (some d)) d := by rw [putO, if_neg e5]
    have hFl5 : (Fl (mbr (R d) (R d).length ||| (nI 1 <<< (nI s &&& 31))) n).length ≤ 5 := by rw [hFl, Pl_len hD1 hd]; exact h5' d hd
    refine V.aldn 0 dX4_join_17 rfl rfl ?_
    refine V.gf4_3 dX4_join_18 f_X4_41 ?_
    refine V.aldn 0 dX4_join_21 rfl rfl ?_
    refine V.gf4_1 dX4_join_22 f_X4_28 ?_
    refine V.gf3_1 dX4_join_25 f_X4_45 ?_
    refine V.ildn 2 dX4_join_28 rfl rfl ?_
    refine V.ald_13 dX4_join_29 (ix_nI (by omega) (by decide)) ?_
    refine V.gf5_2 dX4_join_30 f_X4_54 (by omega) ?_
    refine V.top hRd.2.1.1 ?_
    refine V.iconst (nI 1) dX4_join_33 (by decide +kernel) ?_
    refine V.ildn 1 dX4_join_34 rfl rfl ?_
    refine V.ishl dX4_join_35 ?_
    refine V.ior dX4_join_36 ?_
    refine V.aldn 0 dX4_join_37 rfl rfl ?_
    refine V.gf4_1 dX4_join_38 f_X4_28 ?_
    refine V.gf3_1 dX4_join_41 f_X4_45 ?_
    refine V.bipush (nI 8) dX4_join_44 (by decide +kernel) ?_
    refine V.ald_13 dX4_join_46 (ix_nI (by omega) (by decide)) ?_
    refine V.cVe (c_arrange (dp := dp) (r := r) hC hF.2.2.1 hF.2.2.2.1 h1 hn hFl5 (by rw [hFl]; exact r1) hk8) dX4_join_47 k_X4_58 rfl rfl rfl (Nat.le_of_ble_eq_true rfl) rfl ?_
    rintro _ _ ⟨f2, ro2, rs2, rfl, rfl, g1, g2, g3⟩
    refine V.eqs (st' := []) rfl ?_
    have hP2 : CP F n nd (upR R d r) f2 ro2 rs2 (fun e => rw (sw d 8 e)) := hP.put (g1.wk (by simp)) (by omega) (by omega) (by omega) g2 g3
    refine V.aldn 0 dX4_join_50 rfl rfl ?_
    refine V.gf4_1 dX4_join_51 f_X4_28 ?_
    refine V.ildn 2 dX4_join_54 rfl rfl ?_
    refine V.bipush (nI 8) dX4_join_55 (by decide +kernel) ?_
    refine V.cVv ((c_exchange hw (by omega) (by omega) : Mt (dp + 12 + 1) 0 0 _ _ _ _)) dX4_join_57 k_X4_62 rfl rfl rfl (Nat.le_of_ble_eq_true rfl) rfl ?_
    refine V.aldn 0 dX4_join_60 rfl rfl ?_
    refine V.gf4_1 dX4_join_61 f_X4_28 ?_
    refine V.cVi ((c_keeps hF r2 hP2 : Mt (dp + 11 + 2) 0 0 _ _ _ _)) dX4_join_64 k_X4_66 rfl rfl rfl (Nat.le_of_ble_eq_true rfl) rfl ?_
    first | refine V.if_eqB 72 dX4_join_67 (by decide) (fun c67 => ?_) (fun c67 => ?_) | refine V.if_eqN 72 dX4_join_67 (by decide) (by omega) (fun c67 => ?_) (fun c67 => ?_) | refine V.if_eq 72 dX4_join_67 (by decide) (fun c67 => ?_) (fun c67 => ?_)
    · refine V.aldn 0 dX4_join_72 rfl rfl ?_
      refine V.gf4_1 dX4_join_73 f_X4_28 ?_
      refine V.ildn 2 dX4_join_76 rfl rfl ?_
      refine V.bipush (nI 8) dX4_join_77 (by decide +kernel) ?_
      refine V.cVv ((c_exchange (hw.swp (by omega) (by omega)) (by omega) (by omega) : Mt (dp + 12 + 1) 0 0 _ _ _ _)) dX4_join_79 k_X4_62 rfl rfl rfl (Nat.le_of_ble_eq_true rfl) rfl ?_
      rw [sw_back]
      refine V.iconst (nI 1) dX4_join_82 (by decide +kernel) ?_
      exact V.ireturn dX4_join_83 rfl (by first | rfl | decide +kernel) (by rw [← hQ]; exact ⟨f2, ro2, rs2, by rw [mayV, if_neg e5, ePut, r5 c67]; rfl, g1, g2, Or.inr ⟨by rw [ePut]; exact r5 c67, rfl⟩⟩)
    · refine V.iconst (nI 0) dX4_join_70 (by decide +kernel) ?_
      exact V.ireturn dX4_join_71 rfl (by first | rfl | decide +kernel) (by rw [← hQ]; exact ⟨f2, ro2, rs2, by rw [mayV, if_neg e5, ePut, r4 c67]; rfl, g1, g2, Or.inl ⟨r, by rw [ePut]; exact r4 c67, g3, rfl⟩⟩)
  · have e5 := of_decide_eq_true c12
    refine V.iconst (nI 2) dX4_join_15 (by decide +kernel) ?_
    exact V.ireturn dX4_join_16 rfl (by first | rfl | decide +kernel) (by rw [← hQ]; exact ⟨f, ro, rs, by rw [mayV, if_pos e5], Sm.rf, fun _ _ => ⟨rfl, rfl⟩, Or.inr ⟨by rw [putO, if_pos e5], rfl⟩⟩)
theorem mayV_0 {s d : Nat} : mayV F n nd R D s d = nI 0 ↔ (putO F n nd R D s d).isSome = true := by
  unfold mayV
  split
  · rename_i h
    rw [putO, if_pos h]
    constructor
    · intro q; exact absurd q (by decide +kernel)
    · intro q; cases q
  · split
    · rename_i h; simp [h]
    · rename_i h
      constructor
      · intro q; exact absurd q (by decide +kernel)
      · intro q; exact absurd q h
theorem c_couldJoin (hG : GV F n nd R D) (hP : CP F n nd R f ro rs rw) {s d : Nat} (hs : s < n) (hds : D s = none) (hd : d < nd) : Mt (dp + 15) 0 0 mX4_couldJoin [.ref 37, .int (nI s), .int (nI d)] (HH f ro rs rw rb m) (fun q h' => ∃ f' ro' rs', q = some (.int (mayV F n nd R D s d)) ∧ h' = HH f' ro' rs' rw rb m ∧ Sm [41, 42, 43, 44] f f' ∧ CP F n nd R f' ro' rs' rw) := by
  refine Mt.of rfl rfl (Nat.le_of_ble_eq_true rfl) rfl ?_
  have hw := hP.2.2.2.2.1
  have hnd := hG.2.1
  have h8 : ∀ e, e < 8 → rw e ≠ rw 8 := fun e he z => by have := hw.2 e 8 (by omega) (by omega) z; omega
  refine V.aldn 0 dX4_couldJoin_0 rfl rfl ?_
  refine V.ildn 1 dX4_couldJoin_1 rfl rfl ?_
  refine V.ildn 2 dX4_couldJoin_2 rfl rfl ?_
  refine V.cVe (c_join (dp := dp) hG hP hs hds hd) dX4_couldJoin_3 k_X4_69 rfl rfl rfl (Nat.le_of_ble_eq_true rfl) rfl ?_
  rintro _ _ ⟨f2, ro2, rs2, rfl, g1, g2, g3⟩
  have hP2 : CP F n nd R f2 ro2 rs2 rw := hP.same (g1.wk (by simp)) (fun e he => g2 _ (h8 e he))
  refine V.eqs (st' := [.int (mayV F n nd R D s d)]) rfl ?_
  refine V.istn 3 dX4_couldJoin_6 rfl (Nat.le_of_ble_eq_true rfl) ?_
  refine V.ildn 3 dX4_couldJoin_7 rfl rfl ?_
  refine V.if_ne 21 dX4_couldJoin_8 (by decide) (fun c8 => ?_) (fun c8 => ?_)
  · have hno : putO F n nd R D s d = none := by cases e : putO F n nd R D s d with | none => rfl | some r => exact absurd (mayV_0.mpr (by rw [e]; rfl)) c8
    rcases g3 with ⟨r, q1, -⟩ | ⟨-, q2⟩
    · rw [hno] at q1; cases q1
    subst q2
    refine V.ildn 3 dX4_couldJoin_21 rfl rfl ?_
    exact V.ireturn dX4_couldJoin_22 rfl (by first | rfl | decide +kernel) (⟨f2, ro2, rs2, rfl, rfl, g1, hP2⟩)
  · have hyes := mayV_0.mp c8
    rcases g3 with ⟨r, q1, q3, q2⟩ | ⟨q1, -⟩
    rotate_left
    · rw [q1] at hyes; cases hyes
    subst q2
    refine V.aldn 0 dX4_couldJoin_11 rfl rfl ?_
    refine V.gf4_1 dX4_couldJoin_12 f_X4_28 ?_
    refine V.ildn 2 dX4_couldJoin_15 rfl rfl ?_
    refine V.bipush (nI 8) dX4_couldJoin_16 (by decide +kernel) ?_
    refine V.cVv ((c_exchange (hw.swp (by omega) (by omega)) (by omega) (by omega) : Mt (dp + 13 + 1) 0 0 _ _ _ _)) dX4_couldJoin_18 k_X4_62 rfl rfl rfl (Nat.le_of_ble_eq_true rfl) rfl ?_
    rw [sw_back]
    refine V.ildn 3 dX4_couldJoin_21 rfl rfl ?_
    exact V.ireturn dX4_couldJoin_22 rfl (by first | rfl | decide +kernel) (⟨f2, ro2, rs2, rfl, rfl, g1, hP2⟩)
theorem c_leave (hB : FB F) (hp : PlV F) (hD : DR n nd R D) (hP : CP F n nd R f ro rs rw) {s d : Nat} (hs : s < n) (hd : d < nd) : Mt (dp + 3) 0 0 mX4_leave [.ref 37, .int (nI s), .int (nI d)] (HH f ro rs rw rb m) (fun q h' => ∃ ro' rs', q = none ∧ h' = HH f ro' rs' (fun e => rw (sw d 9 e)) rb m ∧ (∀ q, q ≠ rw 9 → ro' q = ro q ∧ rs' q = rs q) ∧ RowIs F ((R d).erase s) (ro' (rw 9)) (rs' (rw 9))) := by
  refine Mt.of rfl rfl (Nat.le_of_ble_eq_true rfl) rfl ?_
  generalize hQ : (fun (q : Option Value) (h' : List AC) => ∃ ro' rs', q = none ∧ h' = HH f ro' rs' (fun e => rw (sw d 9 e)) rb m ∧ (∀ q, q ≠ rw 9 → ro' q = ro q ∧ rs' q = rs q) ∧ RowIs F ((R d).erase s) (ro' (rw 9)) (rs' (rw 9))) = Q
  have h20 := hP.lt20 (d := d) (by have := hP.1.2.1; omega)
  obtain ⟨⟨hn, hnd, -, -⟩, h1, h12, hC, hw, hR⟩ := hP
  have hk := hw.1 d (by omega)
  have hk9 := hw.1 9 (by omega)
  have hne : rw d ≠ rw 9 := fun z => by have := hw.2 d 9 (by omega) (by omega) z; omega
  obtain ⟨e1, e5, es⟩ := (hR d (by omega)).1
  have her : (R d).erase s = (R d).filter (fun x => x != s) := by rw [List.Nodup.erase_eq_filter (hD.2.2.2 d hd)]
  have loop : ∀ (j i : Nat) (ro1 rs1 : Nat → Nat → Int32), (R d).length - i = j → i ≤ (R d).length → (∀ q, q ≠ rw 9 → ro1 q = ro q ∧ rs1 q = rs q) → ro1 (rw 9) 1 = nI (((R d).take i).filter (fun x => x != s)).length → (∀ q, q < (((R d).take i).filter (fun x => x != s)).length → rs1 (rw 9) q = nI ((((R d).take i).filter (fun x => x != s)).getD q 0)) → V mX4_leave (dp + 3) 0 0 30 [some (.ref 37), some (.int (nI s)), some (.int (nI d)), some (.ref (16 + 2 * rw d)), some (.ref (16 + 2 * rw 9)), some (.int (nI i))] [] (HH f ro1 rs1 rw rb m) Q := by
    intro j
    induction j using Nat.strongRecOn with
    | _ j ih =>
      intro i ro1 rs1 hj hi b0 b1 b2
      have hfl : (((R d).take i).filter (fun x => x != s)).length ≤ i := Nat.le_trans (List.length_filter_le _ _) (by rw [List.length_take]; exact Nat.min_le_left _ _)
      have et : i < (R d).length → (R d).take (i + 1) = (R d).take i ++ [(R d).getD i 0] := fun h => by
        rw [List.take_succ, List.getD_eq_getElem?_getD, List.getElem?_eq_getElem (by omega)]
        rfl
      have q1 := (b0 (rw d) hne).1
      have q2 := (b0 (rw d) hne).2
      refine V.iload dX4_leave_30 rfl ?_
      refine V.aldn 3 dX4_leave_32 rfl rfl ?_
      refine V.gf5_1 dX4_leave_33 f_X4_76 (by omega) ?_
      refine V.top (y := nI (R d).length) (by rw [q1]; exact e1) ?_
      first | refine V.icmp_geN 68 dX4_leave_36 (by decide) (by omega) (by omega) (fun c36 => ?_) (fun c36 => ?_) | refine V.icmp_ge 68 dX4_leave_36 (by decide) (fun c36 => ?_) (fun c36 => ?_)
      · have ef : (R d).take i = R d := List.take_of_length_le (by omega)
        rw [ef, ← her] at b1 b2
        have hsub : ∀ x, x ∈ (R d).erase s → x ∈ R d := fun x hx => List.mem_of_mem_erase hx
        refine V.aload dX4_leave_68 rfl ?_
        refine V.aldn 0 dX4_leave_70 rfl rfl ?_
        refine V.gf4_0 dX4_leave_71 f_X4_24 ?_
        refine V.cVe (c_measure (dp := dp) hC hB hp (l := (R d).erase s) hk9 ⟨b1, Nat.le_trans List.length_erase_le e5, fun q hq => ⟨b2 q hq, by obtain ⟨y, hy, ey⟩ := mem_getD (hsub _ (getD_mem hq)); rw [← ey]; exact h20 y hy⟩⟩) dX4_leave_74 k_X4_86 rfl rfl (HH_row hk9) (Nat.le_of_ble_eq_true rfl) rfl ?_
        rintro _ _ ⟨ro2, rfl, rfl, g1, g2⟩
        refine V.eqs (st' := []) rfl ?_
        refine V.aldn 0 dX4_leave_77 rfl rfl ?_
        refine V.gf4_1 dX4_leave_78 f_X4_28 ?_
        refine V.ildn 2 dX4_leave_81 rfl rfl ?_
        refine V.bipush (nI 9) dX4_leave_82 (by decide +kernel) ?_
        refine V.cVv ((c_exchange hw (by omega) (by omega) : Mt (dp + 1 + 1) 0 0 _ _ _ _)) dX4_leave_84 k_X4_62 rfl rfl rfl (Nat.le_of_ble_eq_true rfl) rfl ?_
        exact V.vreturn dX4_leave_87 rfl (by rw [← hQ]; exact ⟨ro2, rs1, rfl, rfl, fun q hq => ⟨(g1 q hq).trans (b0 q hq).1, (b0 q hq).2⟩, g2⟩)
      · have s20 := (es i c36).2
        have et := et c36
        refine V.aldn 3 dX4_leave_39 rfl rfl ?_
        refine V.gf5_0 dX4_leave_40 f_X4_79 (by omega) ?_
        refine V.iload dX4_leave_43 rfl ?_
        refine V.ald_rs dX4_leave_45 (by omega) (ix_nI (by omega) (by decide)) ?_
        refine V.top (y := nI ((R d).getD i 0)) (by rw [q2]; exact (es i c36).1) ?_
        refine V.ildn 1 dX4_leave_46 rfl rfl ?_
        first | refine V.icmp_eqN 62 dX4_leave_47 (by decide) (by omega) (by omega) (fun c47 => ?_) (fun c47 => ?_) | refine V.icmp_eq 62 dX4_leave_47 (by decide) (fun c47 => ?_) (fun c47 => ?_)
        · have ef : ((R d).take (i + 1)).filter (fun x => x != s) = ((R d).take i).filter (fun x => x != s) := by rw [et, List.filter_append]; generalize (R d).getD i 0 = y at c47 ⊢; simp [c47]
          first | refine V.iincN dX4_leave_62 rfl ?_ | refine V.iinc dX4_leave_62 rfl rfl ?_
          refine V.goto 30 dX4_leave_65 (by decide) ?_
          first | exact ih _ (by omega) (i + 1) _ _ rfl (by omega) b0 (by rw [ef]; exact b1) (by rw [ef]; exact b2) | exact ih _ (by omega) (i + 1) _ _ rfl (by omega) (fun q hq => by rw [up2_ne hq, up2_ne hq]; exact b0 q hq) (by rw [up2_at, if_pos ⟨rfl, rfl⟩, ef]; simp) (fun q hq => by rw [ef] at hq ⊢; rw [up2_at]; split; (rename_i z; rw [z.2, getD_last]); (rename_i z; have hq2 : q < (((R d).take i).filter (fun x => x != s)).length := (by simp only [List.length_append, List.length_cons, List.length_nil] at hq; omega); rw [b2 q hq2, getD_pre (List.prefix_append _ _) hq2]))
        · have ef : ((R d).take (i + 1)).filter (fun x => x != s) = ((R d).take i).filter (fun x => x != s) ++ [(R d).getD i 0] := by rw [et, List.filter_append]; generalize (R d).getD i 0 = y at c47 ⊢; simp [c47]
          refine V.aload dX4_leave_50 rfl ?_
          refine V.aldn 3 dX4_leave_52 rfl rfl ?_
          refine V.gf5_0 dX4_leave_53 f_X4_79 (by omega) ?_
          refine V.iload dX4_leave_56 rfl ?_
          refine V.ald_rs dX4_leave_58 (by omega) (ix_nI (by omega) (by decide)) ?_
          refine V.top (y := nI ((R d).getD i 0)) (by rw [q2]; exact (es i c36).1) ?_
          refine V.cVv ((c_append hk9 b1 (by omega) : Mt (dp + 1 + 1) 0 0 _ _ _ _)) dX4_leave_59 k_X4_82 rfl rfl (HH_row (by omega)) (Nat.le_of_ble_eq_true rfl) rfl ?_
          first | refine V.iincN dX4_leave_62 rfl ?_ | refine V.iinc dX4_leave_62 rfl rfl ?_
          refine V.goto 30 dX4_leave_65 (by decide) ?_
          first | exact ih _ (by omega) (i + 1) _ _ rfl (by omega) b0 (by rw [ef]; exact b1) (by rw [ef]; exact b2) | exact ih _ (by omega) (i + 1) _ _ rfl (by omega) (fun q hq => by rw [up2_ne hq, up2_ne hq]; exact b0 q hq) (by rw [up2_at, if_pos ⟨rfl, rfl⟩, ef]; simp) (fun q hq => by rw [ef] at hq ⊢; rw [up2_at]; split; (rename_i z; rw [z.2, getD_last]); (rename_i z; have hq2 : q < (((R d).take i).filter (fun x => x != s)).length := (by simp only [List.length_append, List.length_cons, List.length_nil] at hq; omega); rw [b2 q hq2, getD_pre (List.prefix_append _ _) hq2]))
  refine V.aldn 0 dX4_leave_0 rfl rfl ?_
  refine V.gf4_1 dX4_leave_1 f_X4_28 ?_
  refine V.gf3_1 dX4_leave_4 f_X4_45 ?_
  refine V.ildn 2 dX4_leave_7 rfl rfl ?_
  refine V.ald_13 dX4_leave_8 (ix_nI (by omega) (by decide)) ?_
  refine V.astn 3 dX4_leave_9 rfl (Nat.le_of_ble_eq_true rfl) ?_
  refine V.aldn 0 dX4_leave_10 rfl rfl ?_
  refine V.gf4_1 dX4_leave_11 f_X4_28 ?_
  refine V.gf3_1 dX4_leave_14 f_X4_45 ?_
  refine V.bipush (nI 9) dX4_leave_17 (by decide +kernel) ?_
  refine V.ald_13 dX4_leave_19 (ix_nI (by omega) (by decide)) ?_
  refine V.astore dX4_leave_20 (Nat.le_of_ble_eq_true rfl) ?_
  refine V.aload dX4_leave_22 rfl ?_
  refine V.cVv ((c_clear hk9 : Mt (dp + 1 + 1) 0 0 _ _ _ _)) dX4_leave_24 k_X4_73 rfl rfl (HH_row (by omega)) (Nat.le_of_ble_eq_true rfl) rfl ?_
  refine V.iconst (nI 0) dX4_leave_27 (by decide +kernel) ?_
  refine V.istore dX4_leave_28 (Nat.le_of_ble_eq_true rfl) ?_
  exact loop _ 0 _ _ rfl (Nat.zero_le _) (fun q hq => ⟨by rw [up2_ne hq], rfl⟩) (by rw [up2_at, if_pos ⟨rfl, rfl⟩]; rfl) (fun q hq => by simp at hq)
end CLASS
