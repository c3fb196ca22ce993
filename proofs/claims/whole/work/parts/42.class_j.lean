/-! the class: the best order of the days -/
theorem div2 : ∀ b, b < 8 → nI b / nI 2 = nI (b / 2) := by decide +kernel
def HT (f : Nat → Nat → Int32) (i nd : Nat) (t : Nat → Nat) : Prop := ∀ k, k < nd → f i k = nI (t k)
section CLASS
variable {f ro rs : Nat → Nat → Int32} {rw rb : Nat → Nat} {m : Nat → Nat → Int32} {dp : Nat} {F : Nat → Nat → Int32} {n nd : Nat} {R : Nat → List Nat} {D : Nat → Option Nat}
theorem c_swapTurns {a b : Nat} (ha : a < 8) (hb : b < 8) : Mt (dp + 1) 0 0 mX4_swapTurns [.ref 37, .int (nI a), .int (nI b)] (HH f ro rs rw rb m) (RV (HH (up2 (up2 f 39 a (f 39 b)) 39 b (f 39 a)) ro rs rw rb m)) := by
  refine Mt.of rfl rfl (Nat.le_of_ble_eq_true rfl) rfl ?_
  refine V.aldn 0 dX4_swapTurns_0 rfl rfl ?_
  refine V.gf4_5 dX4_swapTurns_1 f_X4_17 ?_
  refine V.ildn 1 dX4_swapTurns_4 rfl rfl ?_
  refine V.ald_39 dX4_swapTurns_5 (ix_nI (by omega) (by decide)) ?_
  refine V.istn 3 dX4_swapTurns_6 rfl (Nat.le_of_ble_eq_true rfl) ?_
  refine V.aldn 0 dX4_swapTurns_7 rfl rfl ?_
  refine V.gf4_5 dX4_swapTurns_8 f_X4_17 ?_
  refine V.ildn 1 dX4_swapTurns_11 rfl rfl ?_
  refine V.aldn 0 dX4_swapTurns_12 rfl rfl ?_
  refine V.gf4_5 dX4_swapTurns_13 f_X4_17 ?_
  refine V.ildn 2 dX4_swapTurns_16 rfl rfl ?_
  refine V.ald_39 dX4_swapTurns_17 (ix_nI (by omega) (by decide)) ?_
  refine V.ast_39 dX4_swapTurns_18 (ix_nI (by omega) (by decide)) ?_
  refine V.aldn 0 dX4_swapTurns_19 rfl rfl ?_
  refine V.gf4_5 dX4_swapTurns_20 f_X4_17 ?_
  refine V.ildn 2 dX4_swapTurns_23 rfl rfl ?_
  refine V.ildn 3 dX4_swapTurns_24 rfl rfl ?_
  refine V.ast_39 dX4_swapTurns_25 (ix_nI (by omega) (by decide)) ?_
  exact V.vreturn dX4_swapTurns_26 rfl (⟨rfl, rfl⟩)
theorem HT.sw2 {t : Nat → Nat} {a b : Nat} (h : HT f 39 nd t) (ha : a < nd) (hb : b < nd) : HT (up2 (up2 f 39 a (f 39 b)) 39 b (f 39 a)) 39 nd (swp t a b) := by
  intro k hk
  unfold swp
  rw [up2_at]
  by_cases e : k = b
  · rw [if_pos ⟨rfl, e⟩, if_pos e]; exact h a ha
  · rw [if_neg (fun q => e q.2), if_neg e, up2_at]
    by_cases e2 : k = a
    · rw [if_pos ⟨rfl, e2⟩, if_pos e2]; exact h b hb
    · rw [if_neg (fun q => e2 q.2), if_neg e2]; exact h k hk
theorem c_toNextTurns {t : Nat → Nat} (hT : HT f 39 nd t) (ht : ∀ k, k < nd → t k < 8) (h1 : 1 ≤ nd) (h8 : nd ≤ 8) : Mt (dp + 2) 0 0 mX4_toNextTurns [.ref 37, .int (nI nd)] (HH f ro rs rw rb m) (fun q h' => ∃ f', h' = HH f' ro rs rw rb m ∧ Sm [39] f f' ∧ q = some (.int (bI (nxT nd t).isSome)) ∧ (nxT nd t = none → f' = f) ∧ ∀ t', nxT nd t = some t' → HT f' 39 nd t') := by
  refine Mt.of rfl rfl (Nat.le_of_ble_eq_true rfl) rfl ?_
  generalize hQ : (fun (q : Option Value) (h' : List AC) => ∃ f', h' = HH f' ro rs rw rb m ∧ Sm [39] f f' ∧ q = some (.int (bI (nxT nd t).isSome)) ∧ (nxT nd t = none → f' = f) ∧ ∀ t', nxT nd t = some t' → HT f' 39 nd t') = Q
  have l3 : ∀ (r g : Nat) (x3 : Option Value), rF t (nd - 1) = r + 1 → gF t r (nd - 1) = g → r + 1 < nd → g < nd → ∀ (j i : Nat) (f' : Nat → Nat → Int32), (nd - 1 - r) / 2 - i = j → i ≤ (nd - 1 - r) / 2 → Sm [39] f f' → HT f' 39 nd (rvF (swp t r g) r nd i) → V mX4_toNextTurns (dp + 2) 0 0 83 [some (.ref 37), some (.int (nI nd)), some (.int (nI r)), x3, some (.int (nI (nd - 1 - r))), some (.int (nI i))] [] (HH f' ro rs rw rb m) Q := by
    intro r g x3 hr hg hrn hgn j
    induction j using Nat.strongRecOn with
    | _ j ih =>
      intro i f' hj hi hS hH
      refine V.iload dX4_toNextTurns_83 rfl ?_
      refine V.iload dX4_toNextTurns_85 rfl ?_
      refine V.iconst (nI 2) dX4_toNextTurns_87 (by decide +kernel) ?_
      refine V.idiv dX4_toNextTurns_88 (by decide +kernel) (V.top (div2 _ (by omega)) ?_)
      first | refine V.icmp_geN 114 dX4_toNextTurns_89 (by decide) (by omega) (by omega) (fun c89 => ?_) (fun c89 => ?_) | refine V.icmp_ge 114 dX4_toNextTurns_89 (by decide) (fun c89 => ?_) (fun c89 => ?_)
      · refine V.iconst (nI 1) dX4_toNextTurns_114 (by decide +kernel) ?_
        exact V.ireturn dX4_toNextTurns_115 rfl (by first | rfl | decide +kernel) (by rw [← hQ]; have e : nxT nd t = some (rvF (swp t r g) r nd ((nd - 1 - r) / 2)) := (by rw [nxT, if_neg (by omega), hr, Nat.add_sub_cancel, hg]); refine ⟨f', rfl, hS, by rw [e]; rfl, fun q => (by rw [e] at q; cases q), fun t' q => ?_⟩; rw [e] at q; cases q; rw [show (nd - 1 - r) / 2 = i by omega]; exact hH)
      · refine V.aldn 0 dX4_toNextTurns_92 rfl rfl ?_
        refine V.ildn 2 dX4_toNextTurns_93 rfl rfl ?_
        refine V.iconst (nI 1) dX4_toNextTurns_94 (by decide +kernel) ?_
        first | refine V.iaddN dX4_toNextTurns_95 ?_ | refine V.iadd dX4_toNextTurns_95 ?_
        refine V.iload dX4_toNextTurns_96 rfl ?_
        first | refine V.iaddN dX4_toNextTurns_98 ?_ | refine V.iadd dX4_toNextTurns_98 ?_
        refine V.ildn 1 dX4_toNextTurns_99 rfl rfl ?_
        refine V.iconst (nI 1) dX4_toNextTurns_100 (by decide +kernel) ?_
        first | refine V.isubN dX4_toNextTurns_101 (by omega) ?_ | refine V.isub dX4_toNextTurns_101 ?_
        refine V.iload dX4_toNextTurns_102 rfl ?_
        first | refine V.isubN dX4_toNextTurns_104 (by omega) ?_ | refine V.isub dX4_toNextTurns_104 ?_
        refine V.cVv ((c_swapTurns (by omega) (by omega) : Mt (dp + 1) 0 0 _ _ _ _)) dX4_toNextTurns_105 k_X4_127 rfl rfl rfl (Nat.le_of_ble_eq_true rfl) rfl ?_
        first | refine V.iincN dX4_toNextTurns_108 rfl ?_ | refine V.iinc dX4_toNextTurns_108 rfl rfl ?_
        refine V.goto 83 dX4_toNextTurns_111 (by decide) ?_
        exact ih _ (by omega) (i + 1) _ rfl (by omega) ((hS.up (by decide)).up (by decide)) (hH.sw2 (by omega) (by omega))
  have l2 : ∀ (r : Nat) (x4 x5 : Option Value), rF t (nd - 1) = r + 1 → r + 1 < nd → ∀ (g : Nat), g < nd → gF t r (nd - 1) = gF t r g → V mX4_toNextTurns (dp + 2) 0 0 41 [some (.ref 37), some (.int (nI nd)), some (.int (nI r)), some (.int (nI g)), x4, x5] [] (HH f ro rs rw rb m) Q := by
    intro r x4 x5 hr hrn g
    induction g with
    | zero =>
      intro hg he
      refine V.ildn 3 dX4_toNextTurns_41 rfl rfl ?_
      refine V.ildn 2 dX4_toNextTurns_42 rfl rfl ?_
      first | refine V.icmp_leN 67 dX4_toNextTurns_43 (by decide) (by omega) (by omega) (fun c43 => ?_) (fun c43 => ?_) | refine V.icmp_le 67 dX4_toNextTurns_43 (by decide) (fun c43 => ?_) (fun c43 => ?_)
      · refine V.aldn 0 dX4_toNextTurns_67 rfl rfl ?_
        refine V.ildn 2 dX4_toNextTurns_68 rfl rfl ?_
        refine V.ildn 3 dX4_toNextTurns_69 rfl rfl ?_
        refine V.cVv ((c_swapTurns (by omega) (by omega) : Mt (dp + 1) 0 0 _ _ _ _)) dX4_toNextTurns_70 k_X4_127 rfl rfl rfl (Nat.le_of_ble_eq_true rfl) rfl ?_
        refine V.ildn 1 dX4_toNextTurns_73 rfl rfl ?_
        refine V.iconst (nI 1) dX4_toNextTurns_74 (by decide +kernel) ?_
        first | refine V.isubN dX4_toNextTurns_75 (by omega) ?_ | refine V.isub dX4_toNextTurns_75 ?_
        refine V.ildn 2 dX4_toNextTurns_76 rfl rfl ?_
        first | refine V.isubN dX4_toNextTurns_77 (by omega) ?_ | refine V.isub dX4_toNextTurns_77 ?_
        refine V.istore dX4_toNextTurns_78 (Nat.le_of_ble_eq_true rfl) ?_
        refine V.iconst (nI 0) dX4_toNextTurns_80 (by decide +kernel) ?_
        refine V.istore dX4_toNextTurns_81 (Nat.le_of_ble_eq_true rfl) ?_
        exact l3 r 0 _ hr he hrn hg _ 0 _ rfl (Nat.zero_le _) ((Sm.rf.up (by decide)).up (by decide)) (hT.sw2 (by omega) (by omega))
      · exact absurd c43 (by omega)
    | succ g ih =>
      intro hg he
      have fin : gF t r (nd - 1) = g + 1 → V mX4_toNextTurns (dp + 2) 0 0 67 [some (.ref 37), some (.int (nI nd)), some (.int (nI r)), some (.int (nI (g + 1))), x4, x5] [] (HH f ro rs rw rb m) Q := by
        intro he
        refine V.aldn 0 dX4_toNextTurns_67 rfl rfl ?_
        refine V.ildn 2 dX4_toNextTurns_68 rfl rfl ?_
        refine V.ildn 3 dX4_toNextTurns_69 rfl rfl ?_
        refine V.cVv ((c_swapTurns (by omega) (by omega) : Mt (dp + 1) 0 0 _ _ _ _)) dX4_toNextTurns_70 k_X4_127 rfl rfl rfl (Nat.le_of_ble_eq_true rfl) rfl ?_
        refine V.ildn 1 dX4_toNextTurns_73 rfl rfl ?_
        refine V.iconst (nI 1) dX4_toNextTurns_74 (by decide +kernel) ?_
        first | refine V.isubN dX4_toNextTurns_75 (by omega) ?_ | refine V.isub dX4_toNextTurns_75 ?_
        refine V.ildn 2 dX4_toNextTurns_76 rfl rfl ?_
        first | refine V.isubN dX4_toNextTurns_77 (by omega) ?_ | refine V.isub dX4_toNextTurns_77 ?_
        refine V.istore dX4_toNextTurns_78 (Nat.le_of_ble_eq_true rfl) ?_
        refine V.iconst (nI 0) dX4_toNextTurns_80 (by decide +kernel) ?_
        refine V.istore dX4_toNextTurns_81 (Nat.le_of_ble_eq_true rfl) ?_
        exact l3 r (g + 1) _ hr he hrn hg _ 0 _ rfl (Nat.zero_le _) ((Sm.rf.up (by decide)).up (by decide)) (hT.sw2 (by omega) (by omega))
      have b1 := ht (g + 1) hg
      have b2 := ht r (by omega)
      refine V.ildn 3 dX4_toNextTurns_41 rfl rfl ?_
      refine V.ildn 2 dX4_toNextTurns_42 rfl rfl ?_
      first | refine V.icmp_leN 67 dX4_toNextTurns_43 (by decide) (by omega) (by omega) (fun c43 => ?_) (fun c43 => ?_) | refine V.icmp_le 67 dX4_toNextTurns_43 (by decide) (fun c43 => ?_) (fun c43 => ?_)
      · exact fin (by rw [he, gF, if_neg (by omega)])
      · refine V.aldn 0 dX4_toNextTurns_46 rfl rfl ?_
        refine V.gf4_5 dX4_toNextTurns_47 f_X4_17 ?_
        refine V.ildn 3 dX4_toNextTurns_50 rfl rfl ?_
        refine V.ald_39 dX4_toNextTurns_51 (ix_nI (by omega) (by decide)) ?_
        refine V.top (hT (g + 1) hg) ?_
        refine V.aldn 0 dX4_toNextTurns_52 rfl rfl ?_
        refine V.gf4_5 dX4_toNextTurns_53 f_X4_17 ?_
        refine V.ildn 2 dX4_toNextTurns_56 rfl rfl ?_
        refine V.ald_39 dX4_toNextTurns_57 (ix_nI (by omega) (by decide)) ?_
        refine V.top (hT r (by omega)) ?_
        first | refine V.icmp_geN 67 dX4_toNextTurns_58 (by decide) (by omega) (by omega) (fun c58 => ?_) (fun c58 => ?_) | refine V.icmp_ge 67 dX4_toNextTurns_58 (by decide) (fun c58 => ?_) (fun c58 => ?_)
        · exact fin (by rw [he, gF, if_neg (by omega)])
        · first | refine V.idecN dX4_toNextTurns_61 rfl ?_ | refine V.iinc dX4_toNextTurns_61 rfl rfl ?_
          refine V.goto 41 dX4_toNextTurns_64 (by decide) ?_
          exact ih (by omega) (by rw [he, gF, if_pos ⟨c43, c58⟩])
  have mid : ∀ (x3 x4 x5 : Option Value), V mX4_toNextTurns (dp + 2) 0 0 31 [some (.ref 37), some (.int (nI nd)), some (.int (pm (rF t (nd - 1)))), x3, x4, x5] [] (HH f ro rs rw rb m) Q := by
    intro x3 x4 x5
    have hle := rF_le t (nd - 1)
    cases hr : rF t (nd - 1) with
    | zero =>
      refine V.ildn 2 dX4_toNextTurns_31 rfl rfl ?_
      refine V.if_ge 37 dX4_toNextTurns_32 (by decide) (fun c32 => ?_) (fun c32 => ?_)
      · exact absurd c32 (by decide +kernel)
      · refine V.iconst (nI 0) dX4_toNextTurns_35 (by decide +kernel) ?_
        exact V.ireturn dX4_toNextTurns_36 rfl (by first | rfl | decide +kernel) (by rw [← hQ]; have e : nxT nd t = none := (by rw [nxT, if_pos hr]); exact ⟨f, rfl, Sm.rf, by rw [e]; rfl, fun _ => rfl, fun t' q => by rw [e] at q; cases q⟩)
    | succ r =>
      refine V.eql (ls' := [some (.ref 37), some (.int (nI nd)), some (.int (nI r)), x3, x4, x5]) rfl ?_
      refine V.ildn 2 dX4_toNextTurns_31 rfl rfl ?_
      refine V.if_geN 37 dX4_toNextTurns_32 (by decide) (by omega) ?_
      refine V.ildn 1 dX4_toNextTurns_37 rfl rfl ?_
      refine V.iconst (nI 1) dX4_toNextTurns_38 (by decide +kernel) ?_
      first | refine V.isubN dX4_toNextTurns_39 (by omega) ?_ | refine V.isub dX4_toNextTurns_39 ?_
      refine V.istn 3 dX4_toNextTurns_40 rfl (Nat.le_of_ble_eq_true rfl) ?_
      exact l2 r _ _ hr (by omega) (nd - 1) (by omega) rfl
  have l1 : ∀ (i : Nat) (x3 x4 x5 : Option Value), i < nd → rF t (nd - 1) = rF t i → V mX4_toNextTurns (dp + 2) 0 0 4 [some (.ref 37), some (.int (nI nd)), some (.int (pm i)), x3, x4, x5] [] (HH f ro rs rw rb m) Q := by
    intro i x3 x4 x5
    induction i with
    | zero =>
      intro hi he
      refine V.ildn 2 dX4_toNextTurns_4 rfl rfl ?_
      refine V.if_lt 31 dX4_toNextTurns_5 (by decide) (fun c5 => ?_) (fun c5 => ?_)
      · have := mid x3 x4 x5
        rw [he] at this
        exact this
      · exact absurd (show pm 0 < 0 by decide +kernel) c5
    | succ r ih =>
      intro hi he
      refine V.eql (ls' := [some (.ref 37), some (.int (nI nd)), some (.int (nI r)), x3, x4, x5]) rfl ?_
      have b1 := ht (r + 1) hi
      have b2 := ht r (by omega)
      refine V.ildn 2 dX4_toNextTurns_4 rfl rfl ?_
      refine V.if_ltN 31 dX4_toNextTurns_5 (by decide) (by omega) ?_
      refine V.aldn 0 dX4_toNextTurns_8 rfl rfl ?_
      refine V.gf4_5 dX4_toNextTurns_9 f_X4_17 ?_
      refine V.ildn 2 dX4_toNextTurns_12 rfl rfl ?_
      refine V.ald_39 dX4_toNextTurns_13 (ix_nI (by omega) (by decide)) ?_
      refine V.top (hT r (by omega)) ?_
      refine V.aldn 0 dX4_toNextTurns_14 rfl rfl ?_
      refine V.gf4_5 dX4_toNextTurns_15 f_X4_17 ?_
      refine V.ildn 2 dX4_toNextTurns_18 rfl rfl ?_
      refine V.iconst (nI 1) dX4_toNextTurns_19 (by decide +kernel) ?_
      first | refine V.iaddN dX4_toNextTurns_20 ?_ | refine V.iadd dX4_toNextTurns_20 ?_
      refine V.ald_39 dX4_toNextTurns_21 (ix_nI (by omega) (by decide)) ?_
      refine V.top (hT (r + 1) hi) ?_
      first | refine V.icmp_leN 31 dX4_toNextTurns_22 (by decide) (by omega) (by omega) (fun c22 => ?_) (fun c22 => ?_) | refine V.icmp_le 31 dX4_toNextTurns_22 (by decide) (fun c22 => ?_) (fun c22 => ?_)
      · have e : rF t (nd - 1) = r + 1 := (by rw [he, rF, if_neg (by omega)])
        have := mid x3 x4 x5
        rw [e] at this
        exact this
      · refine V.iinc dX4_toNextTurns_25 rfl (pm_dec r) ?_
        refine V.goto 4 dX4_toNextTurns_28 (by decide) ?_
        exact ih (by omega) (by rw [he, rF, if_pos c22])
  refine V.ildn 1 dX4_toNextTurns_0 rfl rfl ?_
  refine V.iconst (nI 2) dX4_toNextTurns_1 (by decide +kernel) ?_
  refine V.isub dX4_toNextTurns_2 (V.top (y := pm (nd - 1)) (by rw [← pm_sub, ← pk_sub h1, Int32.sub_eq_add_neg, Int32.sub_eq_add_neg, Int32.sub_eq_add_neg, Int32.add_assoc]; congr 1) ?_)
  refine V.istn 2 dX4_toNextTurns_3 rfl (Nat.le_of_ble_eq_true rfl) ?_
  exact l1 (nd - 1) _ _ _ (by omega) rfl
def rwT (nd : Nat) (rb : Nat → Nat) (t : Nat → Nat) (rw : Nat → Nat) : Nat → Nat := fun d => if d < nd then rb (t d) else rw d
theorem rwT_succ {rb t rw : Nat → Nat} (i : Nat) : upN (rwT i rb t rw) i (rb (t i)) = rwT (i + 1) rb t rw := by
  funext d
  unfold upN rwT
  by_cases e : d = i
  · subst e; rw [if_pos rfl, if_pos (by omega)]
  · rw [if_neg e]
    by_cases q : d < i
    · rw [if_pos q, if_pos (by omega)]
    · rw [if_neg q, if_neg (by omega)]
theorem c_giveRows39 {t : Nat → Nat} (hT : HT f 39 nd t) (ht : ∀ k, k < nd → t k < nd) (hb : ∀ k, k < nd → rb k < 10) (h12 : f 12 4 = nI nd) (h8 : nd ≤ 8) : Mt (dp + 1) 0 0 mX4_giveRows [.ref 37, .ref 39] (HH f ro rs rw rb m) (RV (HH f ro rs (rwT nd rb t rw) rb m)) := by
  refine Mt.of rfl rfl (Nat.le_of_ble_eq_true rfl) rfl ?_
  have loop : ∀ (j i : Nat), nd - i = j → i ≤ nd → V mX4_giveRows (dp + 1) 0 0 2 [some (.ref 37), some (.ref 39), some (.int (nI i))] [] (HH f ro rs (rwT i rb t rw) rb m) (RV (HH f ro rs (rwT nd rb t rw) rb m)) := by
    intro j
    induction j using Nat.strongRecOn with
    | _ j ih =>
      intro i hj hi
      refine V.ildn 2 dX4_giveRows_2 rfl rfl ?_
      refine V.aldn 0 dX4_giveRows_3 rfl rfl ?_
      refine V.gf4_1 dX4_giveRows_4 f_X4_28 ?_
      refine V.gf3_4 dX4_giveRows_7 f_X4_103 ?_
      refine V.top h12 ?_
      first | refine V.icmp_geN 36 dX4_giveRows_10 (by decide) (by omega) (by omega) (fun c10 => ?_) (fun c10 => ?_) | refine V.icmp_ge 36 dX4_giveRows_10 (by decide) (fun c10 => ?_) (fun c10 => ?_)
      · obtain rfl : i = nd := by omega
        exact V.vreturn dX4_giveRows_36 rfl (⟨rfl, rfl⟩)
      · have b1 := ht i c10
        have b2 := hb (t i) b1
        refine V.aldn 0 dX4_giveRows_13 rfl rfl ?_
        refine V.gf4_1 dX4_giveRows_14 f_X4_28 ?_
        refine V.gf3_1 dX4_giveRows_17 f_X4_45 ?_
        refine V.ildn 2 dX4_giveRows_20 rfl rfl ?_
        refine V.aldn 0 dX4_giveRows_21 rfl rfl ?_
        refine V.gf4_4 dX4_giveRows_22 f_X4_11 ?_
        refine V.aldn 1 dX4_giveRows_25 rfl rfl ?_
        refine V.ildn 2 dX4_giveRows_26 rfl rfl ?_
        refine V.ald_39 dX4_giveRows_27 (ix_nI (by omega) (by decide)) ?_
        refine V.top (hT i c10) ?_
        refine V.ald_38 dX4_giveRows_28 (ix_nI (by omega) (by decide)) ?_
        refine V.ast_13 dX4_giveRows_29 (by omega) (ix_nI (by omega) (by decide)) ?_
        rw [rwT_succ]
        first | refine V.iincN dX4_giveRows_30 rfl ?_ | refine V.iinc dX4_giveRows_30 rfl rfl ?_
        refine V.goto 2 dX4_giveRows_33 (by decide) ?_
        exact ih _ (by omega) (i + 1) rfl (by omega)
  refine V.iconst (nI 0) dX4_giveRows_0 (by decide +kernel) ?_
  refine V.istn 2 dX4_giveRows_1 rfl (Nat.le_of_ble_eq_true rfl) ?_
  refine V.eqh (h' := HH f ro rs (rwT 0 rb t rw) rb m) (by congr 1) ?_
  exact loop _ 0 rfl (Nat.zero_le _)
theorem c_giveRows40 {t : Nat → Nat} (hT : HT f 40 nd t) (ht : ∀ k, k < nd → t k < nd) (hb : ∀ k, k < nd → rb k < 10) (h12 : f 12 4 = nI nd) (h8 : nd ≤ 8) : Mt (dp + 1) 0 0 mX4_giveRows [.ref 37, .ref 40] (HH f ro rs rw rb m) (RV (HH f ro rs (rwT nd rb t rw) rb m)) := by
  refine Mt.of rfl rfl (Nat.le_of_ble_eq_true rfl) rfl ?_
  have loop : ∀ (j i : Nat), nd - i = j → i ≤ nd → V mX4_giveRows (dp + 1) 0 0 2 [some (.ref 37), some (.ref 40), some (.int (nI i))] [] (HH f ro rs (rwT i rb t rw) rb m) (RV (HH f ro rs (rwT nd rb t rw) rb m)) := by
    intro j
    induction j using Nat.strongRecOn with
    | _ j ih =>
      intro i hj hi
      refine V.ildn 2 dX4_giveRows_2 rfl rfl ?_
      refine V.aldn 0 dX4_giveRows_3 rfl rfl ?_
      refine V.gf4_1 dX4_giveRows_4 f_X4_28 ?_
      refine V.gf3_4 dX4_giveRows_7 f_X4_103 ?_
      refine V.top h12 ?_
      first | refine V.icmp_geN 36 dX4_giveRows_10 (by decide) (by omega) (by omega) (fun c10 => ?_) (fun c10 => ?_) | refine V.icmp_ge 36 dX4_giveRows_10 (by decide) (fun c10 => ?_) (fun c10 => ?_)
      · obtain rfl : i = nd := by omega
        exact V.vreturn dX4_giveRows_36 rfl (⟨rfl, rfl⟩)
      · have b1 := ht i c10
        have b2 := hb (t i) b1
        refine V.aldn 0 dX4_giveRows_13 rfl rfl ?_
        refine V.gf4_1 dX4_giveRows_14 f_X4_28 ?_
        refine V.gf3_1 dX4_giveRows_17 f_X4_45 ?_
        refine V.ildn 2 dX4_giveRows_20 rfl rfl ?_
        refine V.aldn 0 dX4_giveRows_21 rfl rfl ?_
        refine V.gf4_4 dX4_giveRows_22 f_X4_11 ?_
        refine V.aldn 1 dX4_giveRows_25 rfl rfl ?_
        refine V.ildn 2 dX4_giveRows_26 rfl rfl ?_
        refine V.ald_40 dX4_giveRows_27 (ix_nI (by omega) (by decide)) ?_
        refine V.top (hT i c10) ?_
        refine V.ald_38 dX4_giveRows_28 (ix_nI (by omega) (by decide)) ?_
        refine V.ast_13 dX4_giveRows_29 (by omega) (ix_nI (by omega) (by decide)) ?_
        rw [rwT_succ]
        first | refine V.iincN dX4_giveRows_30 rfl ?_ | refine V.iinc dX4_giveRows_30 rfl rfl ?_
        refine V.goto 2 dX4_giveRows_33 (by decide) ?_
        exact ih _ (by omega) (i + 1) rfl (by omega)
  refine V.iconst (nI 0) dX4_giveRows_0 (by decide +kernel) ?_
  refine V.istn 2 dX4_giveRows_1 rfl (Nat.le_of_ble_eq_true rfl) ?_
  refine V.eqh (h' := HH f ro rs (rwT 0 rb t rw) rb m) (by congr 1) ?_
  exact loop _ 0 rfl (Nat.zero_le _)
end CLASS
