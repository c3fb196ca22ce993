/-! the class: rain; bettering -/
def GO (F : Nat → Nat → Int32) : Prop := ∀ s, s < 20 → F 5 s = nI 0 ∨ F 5 s = nI 1
theorem GO.ne {F : Nat → Nat → Int32} (h : GO F) {s : Nat} (hs : s < 20) : (¬ F 5 s = 0) ↔ F 5 s = nI 1 := by
  rcases h s hs with q | q <;> rw [q] <;> decide +kernel
section CLASS
variable {f ro rs : Nat → Nat → Int32} {rw rb : Nat → Nat} {m : Nat → Nat → Int32} {dp : Nat} {F : Nat → Nat → Int32} {n nd : Nat} {R : Nat → List Nat} {D : Nat → Option Nat}
theorem c_clearOutScenes (hG : GV F n nd R D) (hO : GO F) (hP : CP F n nd R f ro rs rw) {d : Nat} (hd : d < nd) : Mt (dp + 4) 0 0 mX4_clearOutScenes [.ref 37, .int (nI d)] (HH f ro rs rw rb m) (fun q h' => ∃ ro' rs' rw', q = some (.int (nI (fo (rT F d) (R, D, 0) n).2.2)) ∧ h' = HH f ro' rs' rw' rb m ∧ GV F n nd (fo (rT F d) (R, D, 0) n).1 (fo (rT F d) (R, D, 0) n).2.1 ∧ CP F n nd (fo (rT F d) (R, D, 0) n).1 f ro' rs' rw') := by
  refine Mt.of rfl rfl (Nat.le_of_ble_eq_true rfl) rfl ?_
  obtain ⟨⟨hn, hnd, hB, hp⟩, h1, h12, hC, hw, hR⟩ := id hP
  have hk := hw.1 d (by omega)
  generalize hQ : (fun (q : Option Value) (h' : List AC) => ∃ ro' rs' rw', q = some (.int (nI (fo (rT F d) (R, D, 0) n).2.2)) ∧ h' = HH f ro' rs' rw' rb m ∧ GV F n nd (fo (rT F d) (R, D, 0) n).1 (fo (rT F d) (R, D, 0) n).2.1 ∧ CP F n nd (fo (rT F d) (R, D, 0) n).1 f ro' rs' rw') = Q
  generalize hX : (fun i => fo (rT F d) (R, D, 0) i) = X at hQ
  have hX' : ∀ i, fo (rT F d) (R, D, 0) i = X i := fun i => by rw [← hX]
  simp only [hX'] at hQ
  have hs : ∀ i, X (i + 1) = rT F d i (X i) := fun i => by rw [← hX]; rfl
  have loop : ∀ (j i : Nat) (ro' rs' : Nat → Nat → Int32) (rw' : Nat → Nat), n - i = j → i ≤ n → GV F n nd (X i).1 (X i).2.1 → CP F n nd (X i).1 f ro' rs' rw' → (∀ s, i ≤ s → (X i).2.1 s = D s) → V mX4_clearOutScenes (dp + 4) 0 0 18 [some (.ref 37), some (.int (nI d)), some (.int (mbr (R d) (R d).length)), some (.int (nI (X i).2.2)), some (.int (nI i))] [] (HH f ro' rs' rw' rb m) Q := by
    intro j
    induction j using Nat.strongRecOn with
    | _ j ih =>
      intro i ro' rs' rw' hj hi hG' hP' hDi
      have same : i < n → ¬ ((X i).2.1 i = some d ∧ ¬ F 5 i = 0) → V mX4_clearOutScenes (dp + 4) 0 0 63 [some (.ref 37), some (.int (nI d)), some (.int (mbr (R d) (R d).length)), some (.int (nI (X i).2.2)), some (.int (nI i))] [] (HH f ro' rs' rw' rb m) Q := by
        intro hin hno
        have e : X (i + 1) = X i := by rw [hs i, rT, if_neg hno]
        rw [← e]
        first | refine V.iincN dX4_clearOutScenes_63 rfl ?_ | refine V.iinc dX4_clearOutScenes_63 rfl rfl ?_
        refine V.goto 18 dX4_clearOutScenes_66 (by decide) ?_
        exact ih _ (by omega) (i + 1) ro' rs' rw' rfl (by omega) (by rw [e]; exact hG') (by rw [e]; exact hP') (fun s h => by rw [e]; exact hDi s (by omega))
      have mb : i < n → (btB (mbr (R d) (R d).length) i = true ↔ (X i).2.1 i = some d) := fun hin => by
        rw [mbr_bit (hP.lt20 (by omega)) (by omega), hDi i (Nat.le_refl _)]
        exact ⟨fun q => (hG.2.2.1.2.2.1 i d hd q).2, fun q => (hG.2.2.1.2.1 i d hin q).2⟩
      refine V.iload dX4_clearOutScenes_18 rfl ?_
      refine V.aldn 0 dX4_clearOutScenes_20 rfl rfl ?_
      refine V.gf4_0 dX4_clearOutScenes_21 f_X4_24 ?_
      refine V.gf2_10 dX4_clearOutScenes_24 f_X4_95 ?_
      refine V.top hP'.2.1 ?_
      first | refine V.icmp_geN 69 dX4_clearOutScenes_27 (by decide) (by omega) (by omega) (fun c27 => ?_) (fun c27 => ?_) | refine V.icmp_ge 69 dX4_clearOutScenes_27 (by decide) (fun c27 => ?_) (fun c27 => ?_)
      · refine V.ildn 3 dX4_clearOutScenes_69 rfl rfl ?_
        exact V.ireturn dX4_clearOutScenes_70 rfl (by first | rfl | decide +kernel) (by rw [← hQ]; obtain rfl : i = n := (by omega); exact ⟨ro', rs', rw', rfl, rfl, hG', hP'⟩)
      · refine V.ildn 2 dX4_clearOutScenes_30 rfl rfl ?_
        refine V.iload dX4_clearOutScenes_31 rfl ?_
        refine V.cSi ((c_hasBit (mbr (R d) (R d).length) i : Mt (dp + 2 + 1) 0 0 _ _ _ _)) dX4_clearOutScenes_33 k_X4_130 rfl rfl (Nat.le_of_ble_eq_true rfl) rfl ?_
        first | refine V.if_eqB 63 dX4_clearOutScenes_36 (by decide) (fun c36 => ?_) (fun c36 => ?_) | refine V.if_eqN 63 dX4_clearOutScenes_36 (by decide) (by omega) (fun c36 => ?_) (fun c36 => ?_) | refine V.if_eq 63 dX4_clearOutScenes_36 (by decide) (fun c36 => ?_) (fun c36 => ?_)
        · exact same c27 (fun q => by rw [(mb c27).mpr q.1] at c36; cases c36)
        · have hdi := (mb c27).mp c36
          refine V.aldn 0 dX4_clearOutScenes_39 rfl rfl ?_
          refine V.gf4_0 dX4_clearOutScenes_40 f_X4_24 ?_
          refine V.gf2_3 dX4_clearOutScenes_43 f_X4_134 ?_
          refine V.iload dX4_clearOutScenes_46 rfl ?_
          refine V.ald_5 dX4_clearOutScenes_48 (ix_nI (by omega) (by decide)) ?_
          refine V.top (y := F 5 i) (congrFun (hC 5 rfl) i) ?_
          refine V.iconst (nI 1) dX4_clearOutScenes_49 (by decide +kernel) ?_
          refine V.icmp_ne 63 dX4_clearOutScenes_50 (by decide) (fun c50 => ?_) (fun c50 => ?_)
          · exact same c27 (fun q => c50 ((hO.ne (by omega)).mp q.2))
          · refine V.aldn 0 dX4_clearOutScenes_53 rfl rfl ?_
            refine V.iload dX4_clearOutScenes_54 rfl ?_
            refine V.ildn 1 dX4_clearOutScenes_56 rfl rfl ?_
            refine V.cVe ((c_leave (dp := dp) hB hp hG'.2.2.1 hP' c27 hd : Mt (dp + 3) 0 0 _ _ _ _)) dX4_clearOutScenes_57 k_X4_110 rfl rfl rfl (Nat.le_of_ble_eq_true rfl) rfl ?_
            rintro _ _ ⟨ro1, rs1, rfl, rfl, b1, b2⟩
            refine V.eqs (st' := []) rfl ?_
            have e : X (i + 1) = (upR (X i).1 d (((X i).1 d).erase i), upD (X i).2.1 i none, (X i).2.2 + 1) := by rw [hs i, rT, if_pos ⟨hdi, (hO.ne (by omega)).mpr c50⟩]
            first | refine V.iincN dX4_clearOutScenes_60 rfl ?_ | refine V.iinc dX4_clearOutScenes_60 rfl rfl ?_
            first | refine V.iincN dX4_clearOutScenes_63 rfl ?_ | refine V.iinc dX4_clearOutScenes_63 rfl rfl ?_
            refine V.goto 18 dX4_clearOutScenes_66 (by decide) ?_
            refine V.eql (ls' := [some (.ref 37), some (.int (nI d)), some (.int (mbr (R d) (R d).length)), some (.int (nI (X (i + 1)).2.2)), some (.int (nI (i + 1)))]) (by rw [e]; rfl) ?_
            exact ih _ (by omega) (i + 1) ro1 rs1 _ rfl (by omega) (by rw [e]; exact hG'.take c27 hdi) (by rw [e]; exact hP'.put Sm.rf (by omega) (by omega) (by omega) b1 b2) (fun s h => by rw [e]; show upD (X i).2.1 i none s = D s; rw [upD_n (by omega)]; exact hDi s (by omega))
  refine V.aldn 0 dX4_clearOutScenes_0 rfl rfl ?_
  refine V.gf4_1 dX4_clearOutScenes_1 f_X4_28 ?_
  refine V.gf3_1 dX4_clearOutScenes_4 f_X4_45 ?_
  refine V.ildn 1 dX4_clearOutScenes_7 rfl rfl ?_
  refine V.ald_13 dX4_clearOutScenes_8 (ix_nI (by omega) (by decide)) ?_
  refine V.gf5_2 dX4_clearOutScenes_9 f_X4_54 (by omega) ?_
  refine V.top (hR d (by omega)).2.1.1 ?_
  refine V.istn 2 dX4_clearOutScenes_12 rfl (Nat.le_of_ble_eq_true rfl) ?_
  refine V.iconst (nI 0) dX4_clearOutScenes_13 (by decide +kernel) ?_
  refine V.istn 3 dX4_clearOutScenes_14 rfl (Nat.le_of_ble_eq_true rfl) ?_
  refine V.iconst (nI 0) dX4_clearOutScenes_15 (by decide +kernel) ?_
  refine V.istore dX4_clearOutScenes_16 (Nat.le_of_ble_eq_true rfl) ?_
  refine V.eql (ls' := [some (.ref 37), some (.int (nI d)), some (.int (mbr (R d) (R d).length)), some (.int (nI (X 0).2.2)), some (.int (nI 0))]) (by rw [← hX]; rfl) ?_
  exact loop _ 0 ro rs rw rfl (Nat.zero_le _) (by rw [← hX]; exact hG) (by rw [← hX]; exact hP) (fun s _ => by rw [← hX]; rfl)
theorem c_fillWithIndoorScenes (hG : GV F n nd R D) (hP : CP F n nd R f ro rs rw) {d : Nat} (hd : d < nd) : Mt (dp + 15) 0 0 mX4_fillWithIndoorScenes [.ref 37, .int (nI d)] (HH f ro rs rw rb m) (fun q h' => ∃ f' ro' rs' rw', q = some (.int (nI (fo (rP F n nd d) (R, D, 0) n).2.2)) ∧ h' = HH f' ro' rs' rw' rb m ∧ Sm ksP f f' ∧ GV F n nd (fo (rP F n nd d) (R, D, 0) n).1 (fo (rP F n nd d) (R, D, 0) n).2.1 ∧ CP F n nd (fo (rP F n nd d) (R, D, 0) n).1 f' ro' rs' rw') := by
  refine Mt.of rfl rfl (Nat.le_of_ble_eq_true rfl) rfl ?_
  have hn := hP.1.1
  have hnd := hP.1.2.1
  generalize hQ : (fun (q : Option Value) (h' : List AC) => ∃ f' ro' rs' rw', q = some (.int (nI (fo (rP F n nd d) (R, D, 0) n).2.2)) ∧ h' = HH f' ro' rs' rw' rb m ∧ Sm ksP f f' ∧ GV F n nd (fo (rP F n nd d) (R, D, 0) n).1 (fo (rP F n nd d) (R, D, 0) n).2.1 ∧ CP F n nd (fo (rP F n nd d) (R, D, 0) n).1 f' ro' rs' rw') = Q
  generalize hX : (fun i => fo (rP F n nd d) (R, D, 0) i) = X at hQ
  have hX' : ∀ i, fo (rP F n nd d) (R, D, 0) i = X i := fun i => by rw [← hX]
  simp only [hX'] at hQ
  have hs : ∀ i, X (i + 1) = rP F n nd d i (X i) := fun i => by rw [← hX]; rfl
  have loop : ∀ (j i : Nat) (f' ro' rs' : Nat → Nat → Int32) (rw' : Nat → Nat) (x4 : Option Value), n - i = j → i ≤ n → Sm ksP f f' → GV F n nd (X i).1 (X i).2.1 → CP F n nd (X i).1 f' ro' rs' rw' → V mX4_fillWithIndoorScenes (dp + 15) 0 0 4 [some (.ref 37), some (.int (nI d)), some (.int (nI (X i).2.2)), some (.int (nI i)), x4] [] (HH f' ro' rs' rw' rb m) Q := by
    intro j
    induction j using Nat.strongRecOn with
    | _ j ih =>
      intro i f' ro' rs' rw' x4 hj hi hS hG' hP'
      have hw := hP'.2.2.2.2.1
      have h8 : ∀ x, x < 8 → rw' x ≠ rw' 8 := fun x hx z => by have := hw.2 x 8 (by omega) (by omega) z; omega
      have same : ∀ (f' ro' rs' : Nat → Nat → Int32) (rw' : Nat → Nat) (x4 : Option Value), i < n → Sm ksP f f' → CP F n nd (X i).1 f' ro' rs' rw' → ¬ ((X i).2.1 i = none ∧ F 5 i = 0 ∧ (putO F n nd (X i).1 (X i).2.1 i d).isSome = true) → V mX4_fillWithIndoorScenes (dp + 15) 0 0 63 [some (.ref 37), some (.int (nI d)), some (.int (nI (X i).2.2)), some (.int (nI i)), x4] [] (HH f' ro' rs' rw' rb m) Q := by
        intro f' ro' rs' rw' x4 hin hS hP' hno
        have e : X (i + 1) = X i := by rw [hs i, rP, if_neg hno]
        rw [← e]
        first | refine V.iincN dX4_fillWithIndoorScenes_63 rfl ?_ | refine V.iinc dX4_fillWithIndoorScenes_63 rfl rfl ?_
        refine V.goto 4 dX4_fillWithIndoorScenes_66 (by decide) ?_
        exact ih _ (by omega) (i + 1) f' ro' rs' rw' _ rfl (by omega) hS (by rw [e]; exact hG') (by rw [e]; exact hP')
      refine V.ildn 3 dX4_fillWithIndoorScenes_4 rfl rfl ?_
      refine V.aldn 0 dX4_fillWithIndoorScenes_5 rfl rfl ?_
      refine V.gf4_0 dX4_fillWithIndoorScenes_6 f_X4_24 ?_
      refine V.gf2_10 dX4_fillWithIndoorScenes_9 f_X4_95 ?_
      refine V.top hP'.2.1 ?_
      first | refine V.icmp_geN 69 dX4_fillWithIndoorScenes_12 (by decide) (by omega) (by omega) (fun c12 => ?_) (fun c12 => ?_) | refine V.icmp_ge 69 dX4_fillWithIndoorScenes_12 (by decide) (fun c12 => ?_) (fun c12 => ?_)
      · refine V.ildn 2 dX4_fillWithIndoorScenes_69 rfl rfl ?_
        exact V.ireturn dX4_fillWithIndoorScenes_70 rfl (by first | rfl | decide +kernel) (by rw [← hQ]; obtain rfl : i = n := (by omega); exact ⟨f', ro', rs', rw', rfl, rfl, hS, hG', hP'⟩)
      · refine V.aldn 0 dX4_fillWithIndoorScenes_15 rfl rfl ?_
        refine V.gf4_0 dX4_fillWithIndoorScenes_16 f_X4_24 ?_
        refine V.gf2_3 dX4_fillWithIndoorScenes_19 f_X4_134 ?_
        refine V.ildn 3 dX4_fillWithIndoorScenes_22 rfl rfl ?_
        refine V.ald_5 dX4_fillWithIndoorScenes_23 (ix_nI (by omega) (by decide)) ?_
        refine V.top (y := F 5 i) (congrFun (hP'.2.2.2.1 5 rfl) i) ?_
        refine V.if_ne 43 dX4_fillWithIndoorScenes_24 (by decide) (fun c24 => ?_) (fun c24 => ?_)
        · refine V.iconst (nI 0) dX4_fillWithIndoorScenes_43 (by decide +kernel) ?_
          refine V.istore dX4_fillWithIndoorScenes_44 (Nat.le_of_ble_eq_true rfl) ?_
          refine V.iload dX4_fillWithIndoorScenes_46 rfl ?_
          first | refine V.if_eqB 63 dX4_fillWithIndoorScenes_48 (by decide) (fun c48 => ?_) (fun c48 => ?_) | refine V.if_eqN 63 dX4_fillWithIndoorScenes_48 (by decide) (by omega) (fun c48 => ?_) (fun c48 => ?_) | refine V.if_eq 63 dX4_fillWithIndoorScenes_48 (by decide) (fun c48 => ?_) (fun c48 => ?_)
          · exact same _ _ _ _ _ c12 hS hP' (fun q => c24 q.2.1)
          · exact absurd rfl c48
        · refine V.aldn 0 dX4_fillWithIndoorScenes_27 rfl rfl ?_
          refine V.gf4_1 dX4_fillWithIndoorScenes_28 f_X4_28 ?_
          refine V.ildn 3 dX4_fillWithIndoorScenes_31 rfl rfl ?_
          refine V.cVi ((c_dayWith hP' hG'.2.2.1 c12 : Mt (dp + 12 + 2) 0 0 _ _ _ _)) dX4_fillWithIndoorScenes_32 k_X4_99 rfl rfl rfl (Nat.le_of_ble_eq_true rfl) rfl ?_
          refine V.iconst (-1) dX4_fillWithIndoorScenes_35 (by decide +kernel) ?_
          refine V.icmp_ne 43 dX4_fillWithIndoorScenes_36 (by decide) (fun c36 => ?_) (fun c36 => ?_)
          · refine V.iconst (nI 0) dX4_fillWithIndoorScenes_43 (by decide +kernel) ?_
            refine V.istore dX4_fillWithIndoorScenes_44 (Nat.le_of_ble_eq_true rfl) ?_
            refine V.iload dX4_fillWithIndoorScenes_46 rfl ?_
            first | refine V.if_eqB 63 dX4_fillWithIndoorScenes_48 (by decide) (fun c48 => ?_) (fun c48 => ?_) | refine V.if_eqN 63 dX4_fillWithIndoorScenes_48 (by decide) (by omega) (fun c48 => ?_) (fun c48 => ?_) | refine V.if_eq 63 dX4_fillWithIndoorScenes_48 (by decide) (fun c48 => ?_) (fun c48 => ?_)
            · exact same _ _ _ _ _ c12 hS hP' (fun q => c36 (by rw [q.1]; rfl))
            · exact absurd rfl c48
          · have hdi : (X i).2.1 i = none := by cases h : (X i).2.1 i with | none => rfl | some e => rw [h] at c36; exact absurd c36 (nI_m1 (d := e) (by have := (hG'.2.2.1.2.1 i e c12 h).1; omega))
            refine V.iconst (nI 1) dX4_fillWithIndoorScenes_39 (by decide +kernel) ?_
            refine V.goto 44 dX4_fillWithIndoorScenes_40 (by decide) ?_
            refine V.istore dX4_fillWithIndoorScenes_44 (Nat.le_of_ble_eq_true rfl) ?_
            refine V.iload dX4_fillWithIndoorScenes_46 rfl ?_
            first | refine V.if_eqB 63 dX4_fillWithIndoorScenes_48 (by decide) (fun c48 => ?_) (fun c48 => ?_) | refine V.if_eqN 63 dX4_fillWithIndoorScenes_48 (by decide) (by omega) (fun c48 => ?_) (fun c48 => ?_) | refine V.if_eq 63 dX4_fillWithIndoorScenes_48 (by decide) (fun c48 => ?_) (fun c48 => ?_)
            · exact absurd c48 (by decide)
            · refine V.aldn 0 dX4_fillWithIndoorScenes_51 rfl rfl ?_
              refine V.ildn 3 dX4_fillWithIndoorScenes_52 rfl rfl ?_
              refine V.ildn 1 dX4_fillWithIndoorScenes_53 rfl rfl ?_
              refine V.cVe (c_join (dp := dp) hG' hP' c12 hdi hd) dX4_fillWithIndoorScenes_54 k_X4_69 rfl rfl rfl (Nat.le_of_ble_eq_true rfl) rfl ?_
              rintro _ _ ⟨f2, ro2, rs2, rfl, g1, g2, g3⟩
              refine V.eqs (st' := [.int (mayV F n nd (X i).1 (X i).2.1 i d)]) rfl ?_
              refine V.if_ne 63 dX4_fillWithIndoorScenes_57 (by decide) (fun c57 => ?_) (fun c57 => ?_)
              · have hno : putO F n nd (X i).1 (X i).2.1 i d = none := (by cases e : putO F n nd (X i).1 (X i).2.1 i d with | none => rfl | some r => exact absurd (mayV_0.mpr (by rw [e]; rfl)) c57)
                rcases g3 with ⟨r, q1, -⟩ | ⟨-, q2⟩
                · rw [hno] at q1; cases q1
                subst q2
                exact same _ _ _ _ _ c12 (hS.tr (g1.wk (by simp))) (hP'.same (g1.wk (by simp)) (fun e he => g2 _ (h8 e he))) (fun q => by rw [hno] at q; cases q.2.2)
              · have hyes := mayV_0.mp c57
                rcases g3 with ⟨r, q1, q3, q2⟩ | ⟨q1, -⟩
                rotate_left
                · rw [q1] at hyes; cases hyes
                subst q2
                have e : X (i + 1) = (upR (X i).1 d r, upD (X i).2.1 i (some d), (X i).2.2 + 1) := by rw [hs i, rP, if_pos ⟨hdi, c24, hyes⟩, q1]; rfl
                first | refine V.iincN dX4_fillWithIndoorScenes_60 rfl ?_ | refine V.iinc dX4_fillWithIndoorScenes_60 rfl rfl ?_
                first | refine V.iincN dX4_fillWithIndoorScenes_63 rfl ?_ | refine V.iinc dX4_fillWithIndoorScenes_63 rfl rfl ?_
                refine V.goto 4 dX4_fillWithIndoorScenes_66 (by decide) ?_
                refine V.eql (ls' := [some (.ref 37), some (.int (nI d)), some (.int (nI (X (i + 1)).2.2)), some (.int (nI (i + 1))), some (.int (nI 1))]) (by rw [e]; rfl) ?_
                exact ih _ (by omega) (i + 1) f2 ro2 rs2 _ _ rfl (by omega) (hS.tr (g1.wk (by simp))) (by rw [e]; exact hG'.put c12 hdi hd q1) (by rw [e]; exact hP'.put (g1.wk (by simp)) (by omega) (by omega) (by omega) g2 q3)
  refine V.iconst (nI 0) dX4_fillWithIndoorScenes_0 (by decide +kernel) ?_
  refine V.istn 2 dX4_fillWithIndoorScenes_1 rfl (Nat.le_of_ble_eq_true rfl) ?_
  refine V.iconst (nI 0) dX4_fillWithIndoorScenes_2 (by decide +kernel) ?_
  refine V.istn 3 dX4_fillWithIndoorScenes_3 rfl (Nat.le_of_ble_eq_true rfl) ?_
  refine V.eql (ls' := [some (.ref 37), some (.int (nI d)), some (.int (nI (X 0).2.2)), some (.int (nI 0)), none]) (by rw [← hX]; rfl) ?_
  exact loop _ 0 f ro rs rw _ rfl (Nat.zero_le _) Sm.rf (by rw [← hX]; exact hG) (by rw [← hX]; exact hP)
theorem c_rain_no (h12 : f 12 4 = nI nd) {x : Int32} (h : isIn x nd = false) : Mt (dp + 2) 0 0 mX6_rain [.ref 0, .int x] (HH f ro rs rw rb m) (RI (-1) (HH f ro rs rw rb m)) := by
  refine Mt.of rfl rfl (Nat.le_of_ble_eq_true rfl) rfl ?_
  refine V.aldn 0 dX6_rain_0 rfl rfl ?_
  refine V.gf6_1 dX6_rain_1 f_X6_21 ?_
  refine V.ildn 1 dX6_rain_4 rfl rfl ?_
  refine V.cVi (c_hasDay h12 x) dX6_rain_5 k_X6_120 rfl rfl rfl (Nat.le_of_ble_eq_true rfl) rfl ?_
  first | refine V.if_neB 13 dX6_rain_8 (by decide) (fun c8 => ?_) (fun c8 => ?_) | refine V.if_neN 13 dX6_rain_8 (by decide) (by omega) (fun c8 => ?_) (fun c8 => ?_) | refine V.if_ne 13 dX6_rain_8 (by decide) (fun c8 => ?_) (fun c8 => ?_)
  · rw [h] at c8; cases c8
  · refine V.iconst (-1) dX6_rain_11 (by decide +kernel) ?_
    exact V.ireturn dX6_rain_12 rfl (by first | rfl | decide +kernel) (⟨rfl, rfl⟩)
theorem c_rain (hG : GV F n nd R D) (hO : GO F) (hP : CP F n nd R f ro rs rw) {d : Nat} (hd : d < nd) : Mt (dp + 16) 0 0 mX6_rain [.ref 0, .int (nI d)] (HH f ro rs rw rb m) (fun q h' => ∃ f' ro' rs' rw' R' D', q = some (.int (nI (16 * (fo (rT F d) (R, D, 0) n).2.2 + (fo (rP F n nd d) ((fo (rT F d) (R, D, 0) n).1, (fo (rT F d) (R, D, 0) n).2.1, 0) n).2.2))) ∧ h' = HH f' ro' rs' rw' rb m ∧ Sm ksP f f' ∧ R' = (fo (rP F n nd d) ((fo (rT F d) (R, D, 0) n).1, (fo (rT F d) (R, D, 0) n).2.1, 0) n).1 ∧ D' = (fo (rP F n nd d) ((fo (rT F d) (R, D, 0) n).1, (fo (rT F d) (R, D, 0) n).2.1, 0) n).2.1 ∧ GV F n nd R' D' ∧ CP F n nd R' f' ro' rs' rw') := by
  refine Mt.of rfl rfl (Nat.le_of_ble_eq_true rfl) rfl ?_
  have h12 := hP.2.2.1
  have hnd := hP.1.2.1
  refine V.aldn 0 dX6_rain_0 rfl rfl ?_
  refine V.gf6_1 dX6_rain_1 f_X6_21 ?_
  refine V.ildn 1 dX6_rain_4 rfl rfl ?_
  refine V.cVi ((c_hasDay h12 (nI d) : Mt (dp + 14 + 1) 0 0 _ _ _ _)) dX6_rain_5 k_X6_120 rfl rfl rfl (Nat.le_of_ble_eq_true rfl) rfl ?_
  first | refine V.if_neB 13 dX6_rain_8 (by decide) (fun c8 => ?_) (fun c8 => ?_) | refine V.if_neN 13 dX6_rain_8 (by decide) (by omega) (fun c8 => ?_) (fun c8 => ?_) | refine V.if_ne 13 dX6_rain_8 (by decide) (fun c8 => ?_) (fun c8 => ?_)
  · refine V.aldn 0 dX6_rain_13 rfl rfl ?_
    refine V.gf6_3 dX6_rain_14 f_X6_39 ?_
    refine V.ildn 1 dX6_rain_17 rfl rfl ?_
    refine V.cVe ((c_clearOutScenes (dp := dp + 11) hG hO hP hd : Mt (dp + 15) 0 0 _ _ _ _)) dX6_rain_18 k_X6_210 rfl rfl rfl (Nat.le_of_ble_eq_true rfl) rfl ?_
    rintro _ _ ⟨ro1, rs1, rw1, rfl, rfl, g1, g2⟩
    refine V.eqs (st' := [.int (nI (fo (rT F d) (R, D, 0) n).2.2)]) rfl ?_
    refine V.istn 2 dX6_rain_21 rfl (Nat.le_of_ble_eq_true rfl) ?_
    refine V.bipush (nI 16) dX6_rain_22 (by decide +kernel) ?_
    refine V.ildn 2 dX6_rain_24 rfl rfl ?_
    first | refine V.imulN dX6_rain_25 ?_ | refine V.imul dX6_rain_25 ?_
    refine V.aldn 0 dX6_rain_26 rfl rfl ?_
    refine V.gf6_3 dX6_rain_27 f_X6_39 ?_
    refine V.ildn 1 dX6_rain_30 rfl rfl ?_
    refine V.cVe (c_fillWithIndoorScenes (dp := dp) g1 g2 hd) dX6_rain_31 k_X6_213 rfl rfl rfl (Nat.le_of_ble_eq_true rfl) rfl ?_
    rintro _ _ ⟨f2, ro2, rs2, rw2, rfl, rfl, k1, k2, k3⟩
    refine V.eqs (st' := [.int (nI (fo (rP F n nd d) ((fo (rT F d) (R, D, 0) n).1, (fo (rT F d) (R, D, 0) n).2.1, 0) n).2.2), .int (nI (16 * (fo (rT F d) (R, D, 0) n).2.2))]) rfl ?_
    refine V.iaddN dX6_rain_34 ?_
    exact V.ireturn dX6_rain_35 rfl (by first | rfl | decide +kernel) (⟨f2, ro2, rs2, rw2, _, _, rfl, rfl, k1, rfl, rfl, k2, k3⟩)
  · rw [isIn_nI hd (by omega)] at c8; cases c8
theorem c_better (hG : GV F n nd R D) (hP : CP F n nd R f ro rs rw) : Mt (dp + 17) 0 0 mX6_better [.ref 0] (HH f ro rs rw rb m) (fun q h' => ∃ f' ro' rs' rw' c R' D', q = some (.int (nI c)) ∧ h' = HH f' ro' rs' rw' rb m ∧ Sm ksP f f' ∧ BIt F n nd 20 R D c R' D' ∧ GV F n nd R' D' ∧ CP F n nd R' f' ro' rs' rw') := by
  refine Mt.of rfl rfl (Nat.le_of_ble_eq_true rfl) rfl ?_
  have loop : ∀ (k t : Nat) (f' ro' rs' : Nat → Nat → Int32) (rw' : Nat → Nat) (R : Nat → List Nat) (D : Nat → Option Nat) (Q : Option Value → List AC → Prop), t + k = 20 → Sm ksP f f' → GV F n nd R D → CP F n nd R f' ro' rs' rw' → (∀ (f3 ro3 rs3 : Nat → Nat → Int32) (rw3 : Nat → Nat) (c : Nat) (R' : Nat → List Nat) (D' : Nat → Option Nat), Sm ksP f f3 → BIt F n nd k R D c R' D' → GV F n nd R' D' → CP F n nd R' f3 ro3 rs3 rw3 → Q (some (.int (nI (t + c)))) (HH f3 ro3 rs3 rw3 rb m)) → V mX6_better (dp + 17) 0 0 2 [some (.ref 0), some (.int (nI t))] [] (HH f' ro' rs' rw' rb m) Q := by
    intro k
    induction k with
    | zero =>
      intro t f' ro' rs' rw' R D Q htk hS hG hP hQ
      refine V.ildn 1 dX6_better_2 rfl rfl ?_
      refine V.bipush (nI 20) dX6_better_3 (by decide +kernel) ?_
      first | refine V.icmp_geN 34 dX6_better_5 (by decide) (by omega) (by omega) (fun c5 => ?_) (fun c5 => ?_) | refine V.icmp_ge 34 dX6_better_5 (by decide) (fun c5 => ?_) (fun c5 => ?_)
      · refine V.ildn 1 dX6_better_34 rfl rfl ?_
        exact V.ireturn dX6_better_35 rfl (by first | rfl | decide +kernel) (hQ f' ro' rs' rw' 0 R D hS ⟨rfl, rfl, rfl⟩ hG hP)
      · exact absurd c5 (by omega)
    | succ k ih =>
      intro t f' ro' rs' rw' R D Q htk hS hG hP hQ
      have go : ∀ (f2 ro2 rs2 : Nat → Nat → Int32) (rw2 : Nat → Nat) (R1 : Nat → List Nat) (D1 : Nat → Option Nat), BS F n nd R D true R1 D1 → Sm ksP f f2 → GV F n nd R1 D1 → CP F n nd R1 f2 ro2 rs2 rw2 → V mX6_better (dp + 17) 0 0 28 [some (.ref 0), some (.int (nI t))] [] (HH f2 ro2 rs2 rw2 rb m) Q := by
        intro f2 ro2 rs2 rw2 R1 D1 hBS hS2 hG2 hP2
        first | refine V.iincN dX6_better_28 rfl ?_ | refine V.iinc dX6_better_28 rfl rfl ?_
        refine V.goto 2 dX6_better_31 (by decide) ?_
        refine ih (t + 1) f2 ro2 rs2 rw2 R1 D1 Q (by omega) hS2 hG2 hP2 (fun f3 ro3 rs3 rw3 c R' D' q3 q4 q5 q6 => ?_)
        rw [show t + 1 + c = t + (c + 1) by omega]
        exact hQ f3 ro3 rs3 rw3 (c + 1) R' D' q3 ⟨true, R1, D1, hBS, Or.inl ⟨rfl, c, rfl, q4⟩⟩ q5 q6
      refine V.ildn 1 dX6_better_2 rfl rfl ?_
      refine V.bipush (nI 20) dX6_better_3 (by decide +kernel) ?_
      first | refine V.icmp_geN 34 dX6_better_5 (by decide) (by omega) (by omega) (fun c5 => ?_) (fun c5 => ?_) | refine V.icmp_ge 34 dX6_better_5 (by decide) (fun c5 => ?_) (fun c5 => ?_)
      · exact absurd c5 (by omega)
      · refine V.aldn 0 dX6_better_8 rfl rfl ?_
        refine V.gf6_3 dX6_better_9 f_X6_39 ?_
        refine V.cVe (c_makeFirstGoodMove (dp := dp) hG hP) dX6_better_12 k_X6_198 rfl rfl rfl (Nat.le_of_ble_eq_true rfl) rfl ?_
        rintro r _ ⟨f2, ro2, rs2, rw2, rfl, g1, ⟨s, d, e, s1, s2, s3, s4, s5, s6, rfl, s7⟩ | ⟨s6, rfl, s7⟩⟩
        · refine V.eqs (st' := [.int (bI true)]) rfl ?_; refine V.if_neB 28 dX6_better_15 (by decide) (fun _ => ?_) (fun q => by cases q); refine go f2 ro2 rs2 rw2 _ _ (Or.inl ⟨s, d, e, s1, s2, s3, s4, s5, s6, rfl, rfl, rfl⟩) (hS.tr g1) ?_ s7; obtain ⟨r, hr⟩ := Option.isSome_iff_exists.mp s5.1; have := (hG.take s1 s3).put s1 (upD_s D s none) s2 hr; rw [mvR, mvD, hr]; exact this
        refine V.eqs (st' := [.int (bI false)]) rfl ?_
        first | refine V.if_neB 28 dX6_better_15 (by decide) (fun c15 => ?_) (fun c15 => ?_) | refine V.if_neN 28 dX6_better_15 (by decide) (by omega) (fun c15 => ?_) (fun c15 => ?_) | refine V.if_ne 28 dX6_better_15 (by decide) (fun c15 => ?_) (fun c15 => ?_)
        · cases c15
        · refine V.aldn 0 dX6_better_18 rfl rfl ?_
          refine V.gf6_3 dX6_better_19 f_X6_39 ?_
          refine V.cVe (c_makeFirstGoodTrade (dp := dp) hG s7) dX6_better_22 k_X6_201 rfl rfl rfl (Nat.le_of_ble_eq_true rfl) rfl ?_
          rintro r _ ⟨rw3, rfl, ⟨a, b, t1, t2, t3, t4, rfl, t5⟩ | ⟨t4, rfl, t5⟩⟩
          · refine V.eqs (st' := [.int (bI true)]) rfl ?_; refine V.if_eqB 34 dX6_better_25 (by decide) (fun q => by cases q) (fun _ => ?_); exact go f2 ro2 rs2 rw3 _ _ (Or.inr ⟨s6, Or.inl ⟨a, b, t1, t2, t3, t4, rfl, rfl, rfl⟩⟩) (hS.tr g1) (hG.swp (by omega) t2) t5
          refine V.eqs (st' := [.int (bI false)]) rfl ?_
          first | refine V.if_eqB 34 dX6_better_25 (by decide) (fun c25 => ?_) (fun c25 => ?_) | refine V.if_eqN 34 dX6_better_25 (by decide) (by omega) (fun c25 => ?_) (fun c25 => ?_) | refine V.if_eq 34 dX6_better_25 (by decide) (fun c25 => ?_) (fun c25 => ?_)
          · refine V.ildn 1 dX6_better_34 rfl rfl ?_
            exact V.ireturn dX6_better_35 rfl (by first | rfl | decide +kernel) (hQ f2 ro2 rs2 rw3 0 R D (hS.tr g1) ⟨false, R, D, Or.inr ⟨s6, Or.inr ⟨t4, rfl, rfl, rfl⟩⟩, Or.inr ⟨rfl, rfl, rfl, rfl⟩⟩ hG t5)
          · cases c25
  refine V.iconst (nI 0) dX6_better_0 (by decide +kernel) ?_
  refine V.istn 1 dX6_better_1 rfl (Nat.le_of_ble_eq_true rfl) ?_
  refine loop 20 0 f ro rs rw R D _ rfl Sm.rf hG hP (fun f3 ro3 rs3 rw3 c R' D' q3 q4 q5 q6 => ?_)
  exact ⟨f3, ro3, rs3, rw3, c, R', D', by rw [Nat.zero_add], rfl, q3, q4, q5, q6⟩
end CLASS
