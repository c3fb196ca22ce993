/-! the reference: order, rain, may, put, take, tidy, trade -/
abbrev St3 : Type := (Nat → List Nat) × (Nat → Option Nat) × Nat
noncomputable def rT (F : Nat → Nat → Int32) (d : Nat) (s : Nat) (x : St3) : St3 := if x.2.1 s = some d ∧ ¬ F 5 s = 0 then (upR x.1 d ((x.1 d).erase s), upD x.2.1 s none, x.2.2 + 1) else x
noncomputable def rP (F : Nat → Nat → Int32) (n nd d : Nat) (s : Nat) (x : St3) : St3 := if x.2.1 s = none ∧ F 5 s = 0 ∧ (putO F n nd x.1 x.2.1 s d).isSome = true then (putR x.1 d (putO F n nd x.1 x.2.1 s d), putD x.2.1 s d (putO F n nd x.1 x.2.1 s d), x.2.2 + 1) else x
theorem putO_none {R : Nat → List Nat} {D : Nat → Option Nat} {s d : Nat} {o : Option (List Nat)} (h : o.isSome = false) : putR R d o = R ∧ putD D s d o = D := by
  cases o with
  | none => exact ⟨rfl, rfl⟩
  | some r => cases h
theorem isIn_f {x : Int32} {n : Nat} (hn : n < 2 ^ 31) (h : isIn x n = false) : ∀ j, j < n → ¬ x = nI j := by
  intro j hj e
  rw [(isIn_iff hn).mpr ⟨j, hj, e⟩] at h
  cases h
theorem isIn_nI {j n : Nat} (h : j < n) (hn : n < 2 ^ 31) : isIn (nI j) n = true := (isIn_iff hn).mpr ⟨j, h, rfl⟩
theorem ordO_some {F : Nat → Nat → Int32} {n nd : Nat} {R : Nat → List Nat} {D : Nat → Option Nat} (hD : DR n nd R D) (hK : KP F n nd R D) : ∃ q, ordO F n nd R D = some q := by
  have hx : PX nd (List.range nd) := ⟨List.nodup_range, fun i hi => List.mem_range.mp hi⟩
  have e1 : ∀ d, d < nd → (List.range nd).getD d 0 = d := by
    intro d hd
    rw [List.getD_eq_getElem?_getD, List.getElem?_range hd]; rfl
  have e2 : ∀ s, s < n → lyD D (List.range nd) s = D s := by
    intro s hs
    unfold lyD
    cases h : D s with
    | none => rfl
    | some e =>
      have he := (hD.2.1 s e hs h).1
      show some ((List.range nd).idxOf e) = some e
      have h9 := idxOf_getD (l := List.range nd) List.nodup_range (i := e) (by rw [List.length_range]; exact he)
      rw [e1 e he] at h9
      rw [h9]
  have hK2 : KP F n nd (lyR R (List.range nd)) (lyD D (List.range nd)) := by
    refine ⟨fun d hd => ?_, fun s hs hn a ha hb da ds h1 h2 => ?_⟩
    · obtain ⟨k1, k2, k3⟩ := hK.1 d hd
      refine ⟨by rw [lyR, e1 d hd]; exact k1, by rw [lyR, e1 d hd]; exact k2, fun h => ?_⟩
      rw [lyR, e1 d hd, lyR, e1 (d + 1) h]
      exact k3 h
    · rw [e2 s hs] at hn h2
      rw [e2 a ha] at h1
      have q1 := (hD.2.1 a da ha h1).1
      have q2 := (hD.2.1 s ds hs h2).1
      rw [lyR, e1 da q1, lyR, e1 ds q2]
      exact hK.2 s hs hn a ha hb da ds h1 h2
  have : (ordO F n nd R D).isSome = true := by
    refine tr_hit (z := nd) (step := stG F n nd R D) (Pb := fun b => b.isSome = true) (q := List.range nd) (fun pre b hb => ?_) (fun b => ?_) hx List.length_range nd (fun _ => false) [] (List.range nd) none rfl List.length_range (fun i hi => by simp)
    · unfold stG; split
      · rfl
      · exact hb
    · unfold stG; split
      · rfl
      · rename_i h
        cases b with
        | none => exact absurd ⟨dB_t hK2, Or.inl rfl⟩ h
        | some q => rfl
  exact Option.isSome_iff_exists.mp this
theorem ordO_px {F : Nat → Nat → Int32} {n nd : Nat} {R : Nat → List Nat} {D : Nat → Option Nat} {q : List Nat} (h : ordO F n nd R D = some q) : PX nd q ∧ q.length = nd ∧ KP F n nd (lyR R q) (lyD D q) := by
  have := tr_keep (z := nd) (step := stG F n nd R D) (Pb := fun b => ∀ r, b = some r → PX nd r ∧ r.length = nd ∧ KP F n nd (lyR R r) (lyD D r)) (fun pre b hp hl hb r hr => by
    unfold stG at hr
    split at hr
    · rename_i q
      cases hr
      exact ⟨hp, hl, of_dB q.1⟩
    · exact hb r hr) nd (fun _ => false) [] none (by simp) ⟨List.nodup_nil, fun i hi => absurd hi List.not_mem_nil⟩ (fun i hi => by simp) (fun r hr => by cases hr)
  exact this q h
section MODEL
variable {f ro rs : Nat → Nat → Int32} {rw rb : Nat → Nat} {m : Nat → Nat → Int32} {dp : Nat} {F : Nat → Nat → Int32} {n nd : Nat} {R : Nat → List Nat} {D : Nat → Option Nat}
theorem t_order (hB : FB F) (hC : FC F) (hM : MS F n nd R D m) (hK : KP F n nd R D) (h1 : 1 ≤ nd) (h6 : nd ≤ 6) : Mt (dp + 14) 0 0 mX7_order [.ref 45] (HH f ro rs rw rb m) (fun r h' => ∃ m' q, ordO F n nd R D = some q ∧ r = some (.int (costC F nd (lyR R q))) ∧ h' = HH f ro rs rw rb m' ∧ MS F n nd (lyR R q) (lyD D q) m') := by
  refine Mt.of rfl rfl (Nat.le_of_ble_eq_true rfl) rfl ?_
  obtain ⟨q, hq⟩ := ordO_some hM.2.1 hK
  obtain ⟨hqx, hql, -⟩ := ordO_px hq
  generalize hQ : (fun (r : Option Value) (h' : List AC) => ∃ m' q, ordO F n nd R D = some q ∧ r = some (.int (costC F nd (lyR R q))) ∧ h' = HH f ro rs rw rb m' ∧ MS F n nd (lyR R q) (lyD D q) m') = Q
  have hin : inB (nI nd) (nI 1) (nI 6) = true := by
    unfold inB
    rw [Bool.and_eq_true, decide_eq_true_eq, decide_eq_true_eq]
    exact ⟨nI_le h1 (by omega), nI_le h6 (by omega)⟩
  have loop : ∀ (j i : Nat) (m' : Nat → Nat → Int32), nd - i = j → i ≤ nd → LX F n nd R D m' → BG F nd R m' (some q) → (∀ d, d < i → m' 25 d = nI (q.getD d 0)) → V mX7_order (dp + 14) 0 0 33 [some (.ref 45), some (.int (nI i))] [] (HH f ro rs rw rb m') Q := by
    intro j
    induction j using Nat.strongRecOn with
    | _ j ih =>
      intro i m' hj hi hL hBG h25
      refine V.ildn 1 dX7_order_33 rfl rfl ?_
      refine V.aldn 0 dX7_order_34 rfl rfl ?_
      refine V.gf7_13 dX7_order_35 f_X7_91 ?_
      refine V.top hL.1.2.1 ?_
      first | refine V.icmp_geN 59 dX7_order_38 (by decide) (by omega) (by omega) (fun c38 => ?_) (fun c38 => ?_) | refine V.icmp_ge 59 dX7_order_38 (by decide) (fun c38 => ?_) (fun c38 => ?_)
      · obtain rfl : i = nd := by omega
        refine V.aldn 0 dX7_order_59 rfl rfl ?_
        refine V.cVe (t_laysM (dp := dp + 12) hL hqx hql h25) dX7_order_60 k_X7_198 rfl rfl rfl (Nat.le_of_ble_eq_true rfl) rfl ?_
        rintro _ _ ⟨m2, rfl, rfl, hS2, hM2, -⟩
        refine V.eqs (st' := []) rfl ?_
        refine V.aldn 0 dX7_order_63 rfl rfl ?_
        refine V.gf7_27 dX7_order_64 f_X7_201 ?_
        refine V.top (y := costC F i (lyR R q)) (by rw [hS2 27 (by decide)]; exact hBG.1) ?_
        exact V.ireturn dX7_order_67 rfl (by first | rfl | decide +kernel) (by rw [← hQ]; exact ⟨m2, q, hq, rfl, rfl, hM2⟩)
      · refine V.aldn 0 dX7_order_41 rfl rfl ?_
        refine V.gf7_25 dX7_order_42 f_X7_74 ?_
        refine V.ildn 1 dX7_order_45 rfl rfl ?_
        refine V.aldn 0 dX7_order_46 rfl rfl ?_
        refine V.gf7_26 dX7_order_47 f_X7_77 ?_
        refine V.ildn 1 dX7_order_50 rfl rfl ?_
        refine V.ald_68 dX7_order_51 (ix_nI (by omega) (by decide)) ?_
        refine V.top ((hBG.2 q rfl).2.2 i c38) ?_
        refine V.ast_67 dX7_order_52 (ix_nI (by omega) (by decide)) ?_
        first | refine V.iincN dX7_order_53 rfl ?_ | refine V.iinc dX7_order_53 rfl rfl ?_
        refine V.goto 33 dX7_order_56 (by decide) ?_
        refine ih _ (by omega) (i + 1) _ rfl (by omega) (hL.sm (Sm.rf.up (by decide)) (fun s hs hn => by rw [up2_at, if_neg (by omega)]; exact hL.2.2.2 s hs hn)) ⟨by rw [up2_at, if_neg (by omega)]; exact hBG.1, fun r hr => ⟨(hBG.2 r hr).1, (hBG.2 r hr).2.1, fun q hq => by rw [up2_at, if_neg (by omega)]; exact (hBG.2 r hr).2.2 q hq⟩⟩ (fun d hd => ?_)
        rw [up2_at]
        split
        · rename_i z; rw [z.2]
        · rename_i z; exact h25 d (by omega)
  refine V.aldn 0 dX7_order_0 rfl rfl ?_
  refine V.gf7_13 dX7_order_1 f_X7_91 ?_
  refine V.top hM.1.2.1 ?_
  refine V.iconst (nI 1) dX7_order_4 (by decide +kernel) ?_
  refine V.bipush (nI 6) dX7_order_5 (by decide +kernel) ?_
  refine V.cSi (t_in (nI nd) (nI 1) (nI 6)) dX7_order_7 k_X7_87 rfl rfl (Nat.le_of_ble_eq_true rfl) rfl ?_
  first | refine V.if_neB 16 dX7_order_10 (by decide) (fun c10 => ?_) (fun c10 => ?_) | refine V.if_neN 16 dX7_order_10 (by decide) (by omega) (fun c10 => ?_) (fun c10 => ?_) | refine V.if_ne 16 dX7_order_10 (by decide) (fun c10 => ?_) (fun c10 => ?_)
  · refine V.aldn 0 dX7_order_16 rfl rfl ?_
    refine V.cVe (t_keepAll (dp := dp + 12)) dX7_order_17 k_X7_140 rfl rfl rfl (Nat.le_of_ble_eq_true rfl) rfl ?_
    rintro _ _ ⟨m1, rfl, rfl, hS1, a17, a16, a8⟩
    refine V.eqs (st' := []) rfl ?_
    have hL : LX F n nd R D (up2 m1 27 0 (-1)) := ⟨⟨h6, by rw [up2_at, if_neg (by omega), hS1 13 (by decide)]; exact hM.1.2.1, by rw [up2_at, if_neg (by omega), hS1 1 (by decide)]; exact hM.2.2.1, film_congr (ks := [22, 23, 24, 27]) ((hS1.wk (by decide)).up (by decide)) (isF_no (by decide)) hM.1.2.2.1, hM.1.2.2.2.1, hM.2.1⟩, fun d hd => ⟨by rw [up2_at, if_neg (by omega), a16 d (by omega)]; exact (hM.1.2.2.2.2 d hd).1, (hM.1.2.2.2.2 d hd).2.1, fun k hk => ⟨by rw [up2_at, if_neg (by omega), a17 _ (by have := (hM.1.2.2.2.2 d hd).2.1; omega)]; exact ((hM.1.2.2.2.2 d hd).2.2 k hk).1, ((hM.1.2.2.2.2 d hd).2.2 k hk).2⟩⟩, fun s hs => by rw [up2_at, if_neg (by omega), a8 s (by have := hM.2.1.1; omega)]; exact hM.2.2.2 s hs, fun s hs hn => by rw [up2_at, if_neg (by omega), hS1 8 (by decide), hM.2.2.2 s hs, hn]; rfl⟩
    refine V.aldn 0 dX7_order_20 rfl rfl ?_
    refine V.iconst (-1) dX7_order_21 (by decide +kernel) ?_
    refine V.pf7_27 dX7_order_22 (fp_X7_201 rfl) ?_
    refine V.aldn 0 dX7_order_25 rfl rfl ?_
    refine V.iconst (nI 0) dX7_order_26 (by decide +kernel) ?_
    refine V.iconst (nI 0) dX7_order_27 (by decide +kernel) ?_
    refine V.cVe (t_gives (n := n) (R := R) (D := D) hB hC nd (up2 m1 27 0 (-1)) (fun _ => false) (nI 0) [] 0 none rfl (by omega) ⟨List.nodup_nil, fun i hi => absurd hi List.not_mem_nil⟩ (fun i hi => by simp) (fun i hi => btB_0 (by omega)) hL (fun i hi => absurd hi (Nat.not_lt_zero i)) ⟨by rw [up2_at, if_pos ⟨rfl, rfl⟩]; rfl, fun r hr => by cases hr⟩ : Mt (dp + (6 - nd) + nd + 7) 0 0 _ _ _ _) dX7_order_28 k_X7_204 rfl rfl rfl (Nat.le_of_ble_eq_true rfl) (by omega) ?_
    rintro _ _ ⟨m2, rfl, rfl, hS2, hL2, -, hB2⟩
    refine V.eqs (st' := []) rfl ?_
    have hB2 : BG F nd R m2 (some q) := by rw [← hq]; exact hB2
    refine V.iconst (nI 0) dX7_order_31 (by decide +kernel) ?_
    refine V.istn 1 dX7_order_32 rfl (Nat.le_of_ble_eq_true rfl) ?_
    exact loop _ 0 m2 rfl (Nat.zero_le _) hL2 hB2 (fun d hd => absurd hd (Nat.not_lt_zero d))
  · rw [hin] at c10
    cases c10
theorem t_order_no (h13 : m 13 0 = nI nd) (h8 : nd ≤ 8) (h : nd = 0 ∨ 6 < nd) : Mt (dp + 2) 0 0 mX7_order [.ref 45] (HH f ro rs rw rb m) (RI (-3) (HH f ro rs rw rb m)) := by
  refine Mt.of rfl rfl (Nat.le_of_ble_eq_true rfl) rfl ?_
  have hin : inB (nI nd) (nI 1) (nI 6) = false := by
    unfold inB
    rw [Bool.and_eq_false_iff, decide_eq_false_iff_not, decide_eq_false_iff_not]
    rcases h with h | h
    · left; exact fun q => absurd ((nI_leI (by decide) (by omega)).mp q) (by omega)
    · right; exact fun q => absurd ((nI_leI (by omega) (by decide)).mp q) (by omega)
  refine V.aldn 0 dX7_order_0 rfl rfl ?_
  refine V.gf7_13 dX7_order_1 f_X7_91 ?_
  refine V.top h13 ?_
  refine V.iconst (nI 1) dX7_order_4 (by decide +kernel) ?_
  refine V.bipush (nI 6) dX7_order_5 (by decide +kernel) ?_
  refine V.cSi (t_in (nI nd) (nI 1) (nI 6)) dX7_order_7 k_X7_87 rfl rfl (Nat.le_of_ble_eq_true rfl) rfl ?_
  first | refine V.if_neB 16 dX7_order_10 (by decide) (fun c10 => ?_) (fun c10 => ?_) | refine V.if_neN 16 dX7_order_10 (by decide) (by omega) (fun c10 => ?_) (fun c10 => ?_) | refine V.if_ne 16 dX7_order_10 (by decide) (fun c10 => ?_) (fun c10 => ?_)
  · rw [hin] at c10
    cases c10
  · refine V.bipush (-3) dX7_order_13 (by decide +kernel) ?_
    exact V.ireturn dX7_order_15 rfl (by first | rfl | decide +kernel) (⟨rfl, rfl⟩)
theorem t_rain (hB : FB F) (hM : MS F n nd R D m) {d : Nat} (hd : d < nd) : Mt (dp + 13) 0 0 mX7_rain [.ref 45, .int (nI d)] (HH f ro rs rw rb m) (fun r h' => ∃ m', r = some (.int (nI (16 * (fo (rT F d) (R, D, 0) n).2.2 + (fo (rP F n nd d) ((fo (rT F d) (R, D, 0) n).1, (fo (rT F d) (R, D, 0) n).2.1, 0) n).2.2))) ∧ h' = HH f ro rs rw rb m' ∧ MS F n nd (fo (rP F n nd d) ((fo (rT F d) (R, D, 0) n).1, (fo (rT F d) (R, D, 0) n).2.1, 0) n).1 (fo (rP F n nd d) ((fo (rT F d) (R, D, 0) n).1, (fo (rT F d) (R, D, 0) n).2.1, 0) n).2.1 m') := by
  refine Mt.of rfl rfl (Nat.le_of_ble_eq_true rfl) rfl ?_
  have hnd := hM.1.1
  have hn20 := hM.2.1.1
  generalize hx1 : fo (rT F d) (R, D, 0) n = x1
  generalize hx2 : fo (rP F n nd d) (x1.1, x1.2.1, 0) n = x2
  generalize hQ : (fun (r : Option Value) (h' : List AC) => ∃ m', r = some (.int (nI (16 * x1.2.2 + x2.2.2))) ∧ h' = HH f ro rs rw rb m' ∧ MS F n nd x2.1 x2.2.1 m') = Q
  have loop2 : ∀ (j k : Nat) (m' : Nat → Nat → Int32) (y : St3), n - k = j → k ≤ n → y = fo (rP F n nd d) (x1.1, x1.2.1, 0) k → MS F n nd y.1 y.2.1 m' → V mX7_rain (dp + 13) 0 0 68 [some (.ref 45), some (.int (nI d)), some (.int (nI x1.2.2)), some (.int (nI y.2.2)), some (.int (nI k))] [] (HH f ro rs rw rb m') Q := by
    intro j
    induction j using Nat.strongRecOn with
    | _ j ih =>
      intro k m' y hj hk hy hM'
      have nxt : k < n → ∀ m2 (y2 : St3), y2 = rP F n nd d k y → MS F n nd y2.1 y2.2.1 m2 → V mX7_rain (dp + 13) 0 0 111 [some (.ref 45), some (.int (nI d)), some (.int (nI x1.2.2)), some (.int (nI y2.2.2)), some (.int (nI k))] [] (HH f ro rs rw rb m2) Q := by
        intro hkn m2 y2 he hM2
        first | refine V.iincN dX7_rain_111 rfl ?_ | refine V.iinc dX7_rain_111 rfl rfl ?_
        refine V.goto 68 dX7_rain_114 (by decide) ?_
        exact ih _ (by omega) (k + 1) m2 y2 rfl (by omega) (by rw [he, hy]; rfl) hM2
      have hk8 : k < n → m' 8 k = dI (y.2.1 k) := fun h => hM'.2.2.2 k h
      have h5 := hM'.1.2.2.1 5 rfl
      refine V.iload dX7_rain_68 rfl ?_
      refine V.aldn 0 dX7_rain_70 rfl rfl ?_
      refine V.gf7_1 dX7_rain_71 f_X7_84 ?_
      refine V.top hM'.2.2.1 ?_
      first | refine V.icmp_geN 117 dX7_rain_74 (by decide) (by omega) (by omega) (fun c74 => ?_) (fun c74 => ?_) | refine V.icmp_ge 117 dX7_rain_74 (by decide) (fun c74 => ?_) (fun c74 => ?_)
      · refine V.bipush (nI 16) dX7_rain_117 (by decide +kernel) ?_
        refine V.ildn 2 dX7_rain_119 rfl rfl ?_
        first | refine V.imulN dX7_rain_120 ?_ | refine V.imul dX7_rain_120 ?_
        refine V.ildn 3 dX7_rain_121 rfl rfl ?_
        first | refine V.iaddN dX7_rain_122 ?_ | refine V.iadd dX7_rain_122 ?_
        exact V.ireturn dX7_rain_123 rfl (by first | rfl | decide +kernel) (by rw [← hQ]; obtain rfl : k = n := (by omega); rw [hx2] at hy; subst hy; exact ⟨m', rfl, rfl, hM'⟩)
      · refine V.aldn 0 dX7_rain_77 rfl rfl ?_
        refine V.gf7_8 dX7_rain_78 f_X7_29 ?_
        refine V.iload dX7_rain_81 rfl ?_
        refine V.ald_52 dX7_rain_83 (ix_nI (by omega) (by decide)) ?_
        refine V.top (hk8 c74) ?_
        refine V.iconst (-1) dX7_rain_84 (by decide +kernel) ?_
        refine V.icmp_ne 111 dX7_rain_85 (by decide) (fun c85 => ?_) (fun c85 => ?_)
        · exact nxt c74 m' y (by rw [rP, if_neg (fun z => c85 (by rw [z.1]; rfl))]) hM'
        · have hnone : y.2.1 k = none := (dI_none (fun e he => by have := (hM'.2.1.2.1 k e c74 he).1; omega)).mp c85
          refine V.aldn 0 dX7_rain_88 rfl rfl ?_
          refine V.gf7_5 dX7_rain_89 f_X7_19 ?_
          refine V.iload dX7_rain_92 rfl ?_
          refine V.ald_49 dX7_rain_94 (ix_nI (by omega) (by decide)) ?_
          refine V.top (congrFun h5 k) ?_
          refine V.if_ne 111 dX7_rain_95 (by decide) (fun c95 => ?_) (fun c95 => ?_)
          · exact nxt c74 m' y (by rw [rP, if_neg (fun z => c95 z.2.1)]) hM'
          · refine V.aldn 0 dX7_rain_98 rfl rfl ?_
            refine V.iload dX7_rain_99 rfl ?_
            refine V.ildn 1 dX7_rain_101 rfl rfl ?_
            refine V.cVe (t_puts (dp := dp) hB hM' c74 hnone hd) dX7_rain_102 k_X7_143 rfl rfl rfl (Nat.le_of_ble_eq_true rfl) rfl ?_
            rintro _ _ ⟨m2, rfl, rfl, hS2, hM2⟩
            refine V.eqs (st' := [.int (bI (putO F n nd y.1 y.2.1 k d).isSome)]) rfl ?_
            first | refine V.if_eqB 111 dX7_rain_105 (by decide) (fun c105 => ?_) (fun c105 => ?_) | refine V.if_eqN 111 dX7_rain_105 (by decide) (by omega) (fun c105 => ?_) (fun c105 => ?_) | refine V.if_eq 111 dX7_rain_105 (by decide) (fun c105 => ?_) (fun c105 => ?_)
            · obtain ⟨e1, e2⟩ := putO_none (R := y.1) (D := y.2.1) (s := k) (d := d) c105
              rw [e1, e2] at hM2
              exact nxt c74 m2 y (by rw [rP, if_neg (fun z => by rw [c105] at z; cases z.2.2)]) hM2
            · first | refine V.iincN dX7_rain_108 rfl ?_ | refine V.iinc dX7_rain_108 rfl rfl ?_
              exact nxt c74 m2 (putR y.1 d (putO F n nd y.1 y.2.1 k d), putD y.2.1 k d (putO F n nd y.1 y.2.1 k d), y.2.2 + 1) (by rw [rP, if_pos ⟨hnone, c95, c105⟩]) hM2
  have loop1 : ∀ (j k : Nat) (m' : Nat → Nat → Int32) (y : St3), n - k = j → k ≤ n → y = fo (rT F d) (R, D, 0) k → MS F n nd y.1 y.2.1 m' → V mX7_rain (dp + 13) 0 0 17 [some (.ref 45), some (.int (nI d)), some (.int (nI y.2.2)), some (.int (nI 0)), some (.int (nI k))] [] (HH f ro rs rw rb m') Q := by
    intro j
    induction j using Nat.strongRecOn with
    | _ j ih =>
      intro k m' y hj hk hy hM'
      have nxt : k < n → ∀ m2 (y2 : St3), y2 = rT F d k y → MS F n nd y2.1 y2.2.1 m2 → V mX7_rain (dp + 13) 0 0 59 [some (.ref 45), some (.int (nI d)), some (.int (nI y2.2.2)), some (.int (nI 0)), some (.int (nI k))] [] (HH f ro rs rw rb m2) Q := by
        intro hkn m2 y2 he hM2
        first | refine V.iincN dX7_rain_59 rfl ?_ | refine V.iinc dX7_rain_59 rfl rfl ?_
        refine V.goto 17 dX7_rain_62 (by decide) ?_
        exact ih _ (by omega) (k + 1) m2 y2 rfl (by omega) (by rw [he, hy]; rfl) hM2
      have hk8 : k < n → m' 8 k = dI (y.2.1 k) := fun h => hM'.2.2.2 k h
      have h5 := hM'.1.2.2.1 5 rfl
      refine V.iload dX7_rain_17 rfl ?_
      refine V.aldn 0 dX7_rain_19 rfl rfl ?_
      refine V.gf7_1 dX7_rain_20 f_X7_84 ?_
      refine V.top hM'.2.2.1 ?_
      first | refine V.icmp_geN 65 dX7_rain_23 (by decide) (by omega) (by omega) (fun c23 => ?_) (fun c23 => ?_) | refine V.icmp_ge 65 dX7_rain_23 (by decide) (fun c23 => ?_) (fun c23 => ?_)
      · refine V.iconst (nI 0) dX7_rain_65 (by decide +kernel) ?_
        refine V.istore dX7_rain_66 (Nat.le_of_ble_eq_true rfl) ?_
        obtain rfl : k = n := by omega
        rw [hx1] at hy
        subst hy
        exact loop2 _ 0 m' (y.1, y.2.1, 0) rfl (Nat.zero_le _) rfl hM'
      · refine V.aldn 0 dX7_rain_26 rfl rfl ?_
        refine V.gf7_8 dX7_rain_27 f_X7_29 ?_
        refine V.iload dX7_rain_30 rfl ?_
        refine V.ald_52 dX7_rain_32 (ix_nI (by omega) (by decide)) ?_
        refine V.top (hk8 c23) ?_
        refine V.ildn 1 dX7_rain_33 rfl rfl ?_
        refine V.icmp_ne 59 dX7_rain_34 (by decide) (fun c34 => ?_) (fun c34 => ?_)
        · exact nxt c23 m' y (by rw [rT, if_neg (fun z => c34 (by rw [z.1]; rfl))]) hM'
        · have hsome : y.2.1 k = some d := by cases h : y.2.1 k with | none => rw [h] at c34; exact absurd c34.symm (nI_m1 (by omega)) | some e => rw [h] at c34; have := (nI_eq (by have := (hM'.2.1.2.1 k e c23 h).1; omega) (by omega)).mp c34; rw [this]
          refine V.aldn 0 dX7_rain_37 rfl rfl ?_
          refine V.gf7_5 dX7_rain_38 f_X7_19 ?_
          refine V.iload dX7_rain_41 rfl ?_
          refine V.ald_49 dX7_rain_43 (ix_nI (by omega) (by decide)) ?_
          refine V.top (congrFun h5 k) ?_
          refine V.if_ne 50 dX7_rain_44 (by decide) (fun c44 => ?_) (fun c44 => ?_)
          · refine V.aldn 0 dX7_rain_50 rfl rfl ?_
            refine V.iload dX7_rain_51 rfl ?_
            refine V.cVe (t_takes (dp := dp + 10) hM' c23 hsome) dX7_rain_53 k_X7_152 rfl rfl rfl (Nat.le_of_ble_eq_true rfl) rfl ?_
            rintro _ _ ⟨m2, rfl, rfl, hS2, hM2⟩
            refine V.eqs (st' := []) rfl ?_
            first | refine V.iincN dX7_rain_56 rfl ?_ | refine V.iinc dX7_rain_56 rfl rfl ?_
            exact nxt c23 m2 (upR y.1 d ((y.1 d).erase k), upD y.2.1 k none, y.2.2 + 1) (by rw [rT, if_pos ⟨hsome, c44⟩]) hM2
          · refine V.goto 59 dX7_rain_47 (by decide) ?_
            exact nxt c23 m' y (by rw [rT, if_neg (fun z => z.2 c44)]) hM'
  refine V.aldn 0 dX7_rain_0 rfl rfl ?_
  refine V.ildn 1 dX7_rain_1 rfl rfl ?_
  refine V.cVi ((t_isDay (by omega) hM.1.2.1 (nI d) : Mt (dp + 10 + 2) 0 0 _ _ _ _)) dX7_rain_2 k_X7_106 rfl rfl rfl (Nat.le_of_ble_eq_true rfl) rfl ?_
  first | refine V.if_neB 10 dX7_rain_5 (by decide) (fun c5 => ?_) (fun c5 => ?_) | refine V.if_neN 10 dX7_rain_5 (by decide) (by omega) (fun c5 => ?_) (fun c5 => ?_) | refine V.if_ne 10 dX7_rain_5 (by decide) (fun c5 => ?_) (fun c5 => ?_)
  · refine V.iconst (nI 0) dX7_rain_10 (by decide +kernel) ?_
    refine V.istn 2 dX7_rain_11 rfl (Nat.le_of_ble_eq_true rfl) ?_
    refine V.iconst (nI 0) dX7_rain_12 (by decide +kernel) ?_
    refine V.istn 3 dX7_rain_13 rfl (Nat.le_of_ble_eq_true rfl) ?_
    refine V.iconst (nI 0) dX7_rain_14 (by decide +kernel) ?_
    refine V.istore dX7_rain_15 (Nat.le_of_ble_eq_true rfl) ?_
    exact loop1 _ 0 m (R, D, 0) rfl (Nat.zero_le _) rfl hM
  · rw [isIn_nI hd (by omega)] at c5
    cases c5
end MODEL
