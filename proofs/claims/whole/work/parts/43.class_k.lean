/-! the class: the best order of the days, taken; rain; bettering -/
def lyX (nd : Nat) (R : Nat → List Nat) (q : List Nat) : Nat → List Nat := fun d => if d < nd then lyR R q d else R d
theorem lyX_lt {nd d : Nat} {R : Nat → List Nat} {q : List Nat} (h : d < nd) : lyX nd R q d = lyR R q d := if_pos h
section CLASS
variable {f ro rs : Nat → Nat → Int32} {rw rb : Nat → Nat} {m : Nat → Nat → Int32} {dp : Nat} {F : Nat → Nat → Int32} {n nd : Nat} {R : Nat → List Nat} {D : Nat → Option Nat}
theorem CP.ly {f' : Nat → Nat → Int32} {rb' rw1 : Nat → Nat} {q : List Nat} (h : CP F n nd R f ro rs rw) (hS : Sm ksP f f') (hx : PX nd q) (hl : q.length = nd) (hb : ∀ d, d < nd → rb' d = rw d) (hr : ∀ d, nd ≤ d → d < 10 → rw1 d = rw d) : CP F n nd (lyX nd R q) f' ro rs (rwT nd rb' (fun d => q.getD d 0) rw1) := by
  obtain ⟨h0, h1, h2, h3, h4, h5⟩ := h
  have hq : ∀ d, d < nd → q.getD d 0 < nd := fun d hd => hx.2 _ (getD_mem (by omega))
  have e : ∀ d, d < 10 → rwT nd rb' (fun d => q.getD d 0) rw1 d = rw (if d < nd then q.getD d 0 else d) := by
    intro d hd
    unfold rwT
    by_cases z : d < nd
    · rw [if_pos z, if_pos z]; exact hb _ (hq d z)
    · rw [if_neg z, if_neg z]; exact hr d (by omega) hd
  have hlt : ∀ d, d < 10 → (if d < nd then q.getD d 0 else d) < 10 := fun d hd => by
    split
    · rename_i z; have := hq d z; omega
    · exact hd
  refine ⟨h0, by rw [hS 1 (by decide)]; exact h1, by rw [hS 12 (by decide)]; exact h2, h3.sm hS rfl, ⟨fun d hd => by rw [e d hd]; exact h4.1 _ (hlt d hd), fun a b ha hb2 z => ?_⟩, fun d hd => ?_⟩
  · rw [e a ha, e b hb2] at z
    have z := h4.2 _ _ (hlt a ha) (hlt b hb2) z
    by_cases q1 : a < nd <;> by_cases q2 : b < nd
    · rw [if_pos q1, if_pos q2] at z
      exact nodup_getD hx.1 (by omega) (by omega) z
    · rw [if_pos q1, if_neg q2] at z; have := hq a q1; omega
    · rw [if_neg q1, if_pos q2] at z; have := hq b q2; omega
    · rw [if_neg q1, if_neg q2] at z; exact z
  · rw [e d (by omega)]
    unfold lyX
    by_cases z : d < nd
    · rw [if_pos z, if_pos z]; exact h5 _ (by have := hq d z; omega)
    · rw [if_neg z, if_neg z]; exact h5 d hd
theorem GV.ly {q : List Nat} (h : GV F n nd R D) (hx : PX nd q) (hl : q.length = nd) : GV F n nd (lyX nd R q) (lyD D q) := by
  obtain ⟨h1, h2, h3, h4⟩ := h
  refine ⟨h1, h2, (h3.ly hx hl).congr (fun d hd => lyX_lt hd) (fun _ _ => rfl), fun d hd => ?_⟩
  rw [lyX_lt hd]
  exact h4 _ (hx.2 _ (getD_mem (by omega)))
theorem kp_lyX {q : List Nat} (hD : DR n nd R D) (hx : PX nd q) (hl : q.length = nd) : KP F n nd (lyX nd R q) (lyD D q) ↔ KP F n nd (lyR R q) (lyD D q) :=
  ⟨fun h => h.congr ((hD.ly hx hl).congr (fun d hd => lyX_lt hd) (fun _ _ => rfl)) (fun d hd => (lyX_lt hd).symm) (fun _ _ => rfl), fun h => h.congr (hD.ly hx hl) (fun d hd => lyX_lt hd) (fun _ _ => rfl)⟩
theorem c_takeBestOrder (hG : GV F n nd R D) (hK : KP F n nd R D) (hP : CP F n nd R f ro rs rw) (hn1 : 1 ≤ nd) (hn6 : nd ≤ 6) : Mt (dp + 6) 0 0 mX4_takeBestOrder [.ref 37] (HH f ro rs rw rb m) (fun r h' => ∃ f' rw' rb' q, ordO F n nd R D = some q ∧ r = some (.int (costC F nd (lyR R q))) ∧ h' = HH f' ro rs rw' rb' m ∧ Sm ksP f f' ∧ CP F n nd (lyX nd R q) f' ro rs rw') := by
  refine Mt.of rfl rfl (Nat.le_of_ble_eq_true rfl) rfl ?_
  have hD := hG.2.2.1
  have hw := hP.2.2.2.2.1
  have h12 := hP.2.2.1
  obtain ⟨hchk, hlen, hhead⟩ := chk_all nd hn1 hn6
  generalize hGf : (fun (b : Option (List Nat)) q => stG F n nd R D q b) = G
  have hord : ordO F n nd R D = (ps nd).foldl G none := by rw [← hGf]; exact tr_lv nd _ [] none
  generalize hQ : (fun (r : Option Value) (h' : List AC) => ∃ f' rw' rb' q, ordO F n nd R D = some q ∧ r = some (.int (costC F nd (lyR R q))) ∧ h' = HH f' ro rs rw' rb' m ∧ Sm ksP f f' ∧ CP F n nd (lyX nd R q) f' ro rs rw') = Q
  have fin : ∀ (f' : Nat → Nat → Int32) (rw1 rb' : Nat → Nat) (b : List Nat) (x2 : Option Value), ordO F n nd R D = some b → PX nd b → b.length = nd → Sm ksP f f' → HT f' 40 nd (fun d => b.getD d 0) → (∀ d, d < nd → rb' d = rw d) → (∀ d, nd ≤ d → d < 10 → rw1 d = rw d) → V mX4_takeBestOrder (dp + 6) 0 0 142 [some (.ref 37), some (.int (costC F nd (lyR R b))), x2] [] (HH f' ro rs rw1 rb' m) Q := by
    intro f' rw1 rb' b x2 hb hx hl hS hT hrb hrw
    have h12' : f' 12 4 = nI nd := by rw [hS 12 (by decide)]; exact h12
    refine V.aldn 0 dX4_takeBestOrder_142 rfl rfl ?_
    refine V.aldn 0 dX4_takeBestOrder_143 rfl rfl ?_
    refine V.gf4_6 dX4_takeBestOrder_144 f_X4_21 ?_
    refine V.cVv ((c_giveRows40 hT (fun k hk => hx.2 _ (getD_mem (by omega))) (fun k hk => by rw [hrb k hk]; exact hw.1 k (by omega)) h12' (by omega) : Mt (dp + 4 + 1) 0 0 _ _ _ _)) dX4_takeBestOrder_147 k_X4_117 rfl rfl rfl (Nat.le_of_ble_eq_true rfl) rfl ?_
    refine V.ildn 1 dX4_takeBestOrder_150 rfl rfl ?_
    exact V.ireturn dX4_takeBestOrder_151 rfl (by first | rfl | decide +kernel) (by rw [← hQ]; exact ⟨f', _, rb', b, hb, rfl, rfl, hS, hP.ly hS hx hl hrb hrw⟩)
  have loop : ∀ (rest dn : List (List Nat)) (q b : List Nat) (f' : Nat → Nat → Int32) (rw1 rb' : Nat → Nat), ps nd = dn ++ q :: rest → (dn ++ [q]).foldl G none = some b → PX nd b → b.length = nd → Sm ksP f f' → HT f' 39 nd (fun d => q.getD d 0) → HT f' 40 nd (fun d => b.getD d 0) → (∀ d, d < nd → rb' d = rw d) → (∀ d, nd ≤ d → d < 10 → rw1 d = rw d) → V mX4_takeBestOrder (dp + 6) 0 0 58 [some (.ref 37), some (.int (costC F nd (lyR R b))), some (.int (nI (dn.length + 1)))] [] (HH f' ro rs rw1 rb' m) Q := by
    intro rest
    induction rest with
    | nil =>
      intro dn q b f' rw1 rb' hps hb hx hl hS h39 h40 hrb hrw
      have hlen2 : dn.length + 1 ≤ 720 := by rw [hps] at hlen; simpa using hlen
      have hob : ordO F n nd R D = some b := by rw [hord, hps]; exact hb
      have hqm : q ∈ ps nd := by rw [hps]; simp
      obtain ⟨hqx, hql⟩ := ps_px hqm
      have hnx : nxT nd (fun i => q.getD i 0) = none := by
        have := chk_at (dn := dn) (q := q) (rest := []) (by rw [← hps]; exact hchk)
        simpa [nxL] using this
      have h12' : f' 12 4 = nI nd := by rw [hS 12 (by decide)]; exact h12
      refine V.ildn 2 dX4_takeBestOrder_58 rfl rfl ?_
      refine V.sipush (nI 720) dX4_takeBestOrder_59 (by decide +kernel) ?_
      first | refine V.icmp_geN 142 dX4_takeBestOrder_62 (by decide) (by omega) (by omega) (fun c62 => ?_) (fun c62 => ?_) | refine V.icmp_ge 142 dX4_takeBestOrder_62 (by decide) (fun c62 => ?_) (fun c62 => ?_)
      · exact fin f' rw1 rb' b _ hob hx hl hS h40 hrb hrw
      · refine V.aldn 0 dX4_takeBestOrder_65 rfl rfl ?_
        refine V.aldn 0 dX4_takeBestOrder_66 rfl rfl ?_
        refine V.gf4_1 dX4_takeBestOrder_67 f_X4_28 ?_
        refine V.gf3_4 dX4_takeBestOrder_70 f_X4_103 ?_
        refine V.top h12' ?_
        refine V.cVe ((c_toNextTurns (dp := dp + 3) h39 (fun k hk => by have := hqx.2 _ (getD_mem (l := q) (k := k) (by omega)); omega) hn1 (by omega) : Mt (dp + 5) 0 0 _ _ _ _)) dX4_takeBestOrder_73 k_X4_113 rfl rfl rfl (Nat.le_of_ble_eq_true rfl) rfl ?_
        rintro _ _ ⟨f2, rfl, g1, rfl, g2, g3⟩
        rw [hnx]
        rw [g2 hnx]
        refine V.eqs (st' := [.int (bI false)]) rfl ?_
        first | refine V.if_eqB 142 dX4_takeBestOrder_76 (by decide) (fun c76 => ?_) (fun c76 => ?_) | refine V.if_eqN 142 dX4_takeBestOrder_76 (by decide) (by omega) (fun c76 => ?_) (fun c76 => ?_) | refine V.if_eq 142 dX4_takeBestOrder_76 (by decide) (fun c76 => ?_) (fun c76 => ?_)
        · exact fin f' rw1 rb' b _ hob hx hl hS h40 hrb hrw
        · cases c76
    | cons q' rest ih =>
      intro dn q b f' rw1 rb' hps hb hx hl hS h39 h40 hrb hrw
      have hlen2 : dn.length + 2 + rest.length ≤ 720 := by rw [hps] at hlen; simp at hlen; omega
      have hqm : q ∈ ps nd := by rw [hps]; simp
      have hqm' : q' ∈ ps nd := by rw [hps]; simp
      obtain ⟨hqx, hql⟩ := ps_px hqm
      obtain ⟨hqx', hql'⟩ := ps_px hqm'
      have hnx : ∃ t', nxT nd (fun i => q.getD i 0) = some t' ∧ ∀ i, i < nd → q'.getD i 0 = t' i := by
        have := chk_at (dn := dn) (q := q) (rest := q' :: rest) (by rw [← hps]; exact hchk)
        rw [nxL] at this
        cases h : nxT nd (fun i => q.getD i 0) with
        | none => rw [h] at this; cases this
        | some t' =>
          rw [h] at this
          have this : some ((List.range nd).map t') = some q' := this
          cases this
          exact ⟨t', rfl, fun i hi => map_range_getD hi⟩
      obtain ⟨t', ht', hq'⟩ := hnx
      have h12' : f' 12 4 = nI nd := by rw [hS 12 (by decide)]; exact h12
      have hps' : ps nd = (dn ++ [q]) ++ q' :: rest := by rw [hps]; simp
      have hfl : ((dn ++ [q]) ++ [q']).foldl G none = stG F n nd R D q' (some b) := by rw [List.foldl_append, hb, ← hGf]; rfl
      have hG' := hG.ly hqx' hql'
      have hdl : (dn ++ [q]).length + 1 = dn.length + 1 + 1 := by simp
      have stay : ∀ (f2 : Nat → Nat → Int32) (rw2 : Nat → Nat), ¬ (dB (KP F n nd (lyR R q') (lyD D q')) = true ∧ costC F nd (lyR R q') < costC F nd (lyR R b)) → Sm ksP f f2 → HT f2 39 nd (fun d => q'.getD d 0) → HT f2 40 nd (fun d => b.getD d 0) → (∀ d, nd ≤ d → d < 10 → rw2 d = rw d) → V mX4_takeBestOrder (dp + 6) 0 0 136 [some (.ref 37), some (.int (costC F nd (lyR R b))), some (.int (nI (dn.length + 1)))] [] (HH f2 ro rs rw2 rb' m) Q := by
        intro f2 rw2 hno hS2 h392 h402 hrw2
        have := ih (dn ++ [q]) q' b f2 rw2 rb' hps' (by rw [hfl, stG, if_neg]; rintro ⟨z1, z2⟩; rcases z2 with z | z; cases z; exact hno ⟨z1, z⟩) hx hl hS2 h392 h402 hrb hrw2
        rw [hdl] at this
        first | refine V.iincN dX4_takeBestOrder_136 rfl ?_ | refine V.iinc dX4_takeBestOrder_136 rfl rfl ?_
        refine V.goto 58 dX4_takeBestOrder_139 (by decide) ?_
        exact this
      refine V.ildn 2 dX4_takeBestOrder_58 rfl rfl ?_
      refine V.sipush (nI 720) dX4_takeBestOrder_59 (by decide +kernel) ?_
      first | refine V.icmp_geN 142 dX4_takeBestOrder_62 (by decide) (by omega) (by omega) (fun c62 => ?_) (fun c62 => ?_) | refine V.icmp_ge 142 dX4_takeBestOrder_62 (by decide) (fun c62 => ?_) (fun c62 => ?_)
      · exact absurd c62 (by omega)
      · refine V.aldn 0 dX4_takeBestOrder_65 rfl rfl ?_
        refine V.aldn 0 dX4_takeBestOrder_66 rfl rfl ?_
        refine V.gf4_1 dX4_takeBestOrder_67 f_X4_28 ?_
        refine V.gf3_4 dX4_takeBestOrder_70 f_X4_103 ?_
        refine V.top h12' ?_
        refine V.cVe ((c_toNextTurns (dp := dp + 3) h39 (fun k hk => by have := hqx.2 _ (getD_mem (l := q) (k := k) (by omega)); omega) hn1 (by omega) : Mt (dp + 5) 0 0 _ _ _ _)) dX4_takeBestOrder_73 k_X4_113 rfl rfl rfl (Nat.le_of_ble_eq_true rfl) rfl ?_
        rintro _ _ ⟨f2, rfl, g1, rfl, g2, g3⟩
        rw [ht']
        have h392 : HT f2 39 nd (fun d => q'.getD d 0) := fun k hk => by rw [g3 t' ht' k hk]; exact congrArg nI (hq' k hk).symm
        have hS2 : Sm ksP f f2 := hS.tr (g1.wk (by simp))
        have h402 : HT f2 40 nd (fun d => b.getD d 0) := fun k hk => by rw [g1 40 (by decide)]; exact h40 k hk
        have h122 : f2 12 4 = nI nd := by rw [hS2 12 (by decide)]; exact h12
        have hP2 := hP.ly (f' := f2) (rb' := rb') (rw1 := rw1) hS2 hqx' hql' hrb hrw
        have hrw2 : ∀ d, nd ≤ d → d < 10 → rwT nd rb' (fun d => q'.getD d 0) rw1 d = rw d := fun d h1 h2 => by rw [rwT, if_neg (by omega)]; exact hrw d h1 h2
        refine V.eqs (st' := [.int (bI true)]) rfl ?_
        first | refine V.if_eqB 142 dX4_takeBestOrder_76 (by decide) (fun c76 => ?_) (fun c76 => ?_) | refine V.if_eqN 142 dX4_takeBestOrder_76 (by decide) (by omega) (fun c76 => ?_) (fun c76 => ?_) | refine V.if_eq 142 dX4_takeBestOrder_76 (by decide) (fun c76 => ?_) (fun c76 => ?_)
        · cases c76
        · refine V.aldn 0 dX4_takeBestOrder_79 rfl rfl ?_
          refine V.aldn 0 dX4_takeBestOrder_80 rfl rfl ?_
          refine V.gf4_5 dX4_takeBestOrder_81 f_X4_17 ?_
          refine V.cVv ((c_giveRows39 h392 (fun k hk => hqx'.2 _ (getD_mem (by omega))) (fun k hk => by rw [hrb k hk]; exact hw.1 k (by omega)) h122 (by omega) : Mt (dp + 4 + 1) 0 0 _ _ _ _)) dX4_takeBestOrder_84 k_X4_117 rfl rfl rfl (Nat.le_of_ble_eq_true rfl) rfl ?_
          refine V.aldn 0 dX4_takeBestOrder_87 rfl rfl ?_
          refine V.gf4_1 dX4_takeBestOrder_88 f_X4_28 ?_
          refine V.cVi ((c_keeps hG.1 hG'.2.2.1 hP2 : Mt (dp + 3 + 2) 0 0 _ _ _ _)) dX4_takeBestOrder_91 k_X4_66 rfl rfl rfl (Nat.le_of_ble_eq_true rfl) rfl ?_
          rw [dB_congr (kp_lyX hD hqx' hql')]
          first | refine V.if_eqB 136 dX4_takeBestOrder_94 (by decide) (fun c94 => ?_) (fun c94 => ?_) | refine V.if_eqN 136 dX4_takeBestOrder_94 (by decide) (by omega) (fun c94 => ?_) (fun c94 => ?_) | refine V.if_eq 136 dX4_takeBestOrder_94 (by decide) (fun c94 => ?_) (fun c94 => ?_)
          · exact stay f2 _ (fun z => by rw [c94] at z; cases z.1) hS2 h392 h402 hrw2
          · refine V.aldn 0 dX4_takeBestOrder_97 rfl rfl ?_
            refine V.gf4_2 dX4_takeBestOrder_98 f_X4_32 ?_
            refine V.cVi ((c_total hP2 hG.1.2.2.2.2 : Mt (dp + 5) 0 0 _ _ _ _)) dX4_takeBestOrder_101 k_X4_89 rfl rfl rfl (Nat.le_of_ble_eq_true rfl) rfl ?_
            refine V.top (cost_congr (fun d hd => lyX_lt hd)) ?_
            refine V.ildn 1 dX4_takeBestOrder_104 rfl rfl ?_
            refine V.icmp_ge 136 dX4_takeBestOrder_105 (by decide) (fun c105 => ?_) (fun c105 => ?_)
            · exact stay f2 _ (fun z => absurd z.2 (Int32.not_lt.mpr c105)) hS2 h392 h402 hrw2
            · refine V.aldn 0 dX4_takeBestOrder_108 rfl rfl ?_
              refine V.gf4_2 dX4_takeBestOrder_109 f_X4_32 ?_
              refine V.cVi ((c_total hP2 hG.1.2.2.2.2 : Mt (dp + 5) 0 0 _ _ _ _)) dX4_takeBestOrder_112 k_X4_89 rfl rfl rfl (Nat.le_of_ble_eq_true rfl) rfl ?_
              refine V.top (cost_congr (fun d hd => lyX_lt hd)) ?_
              refine V.istn 1 dX4_takeBestOrder_115 rfl (Nat.le_of_ble_eq_true rfl) ?_
              refine V.aldn 0 dX4_takeBestOrder_116 rfl rfl ?_
              refine V.gf4_5 dX4_takeBestOrder_117 f_X4_17 ?_
              refine V.iconst (nI 0) dX4_takeBestOrder_120 (by decide +kernel) ?_
              refine V.aldn 0 dX4_takeBestOrder_121 rfl rfl ?_
              refine V.gf4_6 dX4_takeBestOrder_122 f_X4_21 ?_
              refine V.iconst (nI 0) dX4_takeBestOrder_125 (by decide +kernel) ?_
              refine V.aldn 0 dX4_takeBestOrder_126 rfl rfl ?_
              refine V.gf4_1 dX4_takeBestOrder_127 f_X4_28 ?_
              refine V.gf3_4 dX4_takeBestOrder_130 f_X4_103 ?_
              refine V.top h122 ?_
              refine V.acopy (sp' := 0) (dp' := 0) (n' := nd) dX4_takeBestOrder_133 a_X4_121 a_native a_static a_init rfl rfl (by decide +kernel) (by decide +kernel) (nI_pos (by omega)) (by decide +kernel) (by decide +kernel) (nI_clamp (by omega)) (by omega) (by omega) (Nat.le_of_ble_eq_true rfl) (Nat.le_of_ble_eq_true rfl) ?_
              refine V.eqh (h' := HH (upA f2 40 (va_cpy (f2 39) (f2 40) 0 0 nd)) ro rs (rwT nd rb' (fun d => q'.getD d 0) rw1) rb' m) rfl ?_
              first | refine V.iincN dX4_takeBestOrder_136 rfl ?_ | refine V.iinc dX4_takeBestOrder_136 rfl rfl ?_
              refine V.goto 58 dX4_takeBestOrder_139 (by decide) ?_
              have := ih (dn ++ [q]) q' q' (upA f2 40 (va_cpy (f2 39) (f2 40) 0 0 nd)) _ rb' hps' (by rw [hfl, stG, if_pos ⟨c94, Or.inr (Int32.not_le.mp c105)⟩]) hqx' hql' (fun i hi => by rw [upA_n (fun z => hi (by rw [z]; decide))]; exact hS2 i hi) (fun k hk => by rw [upA_n (by decide)]; exact h392 k hk) (fun k hk => by rw [upA_s, va_cpy, if_pos (by omega), show 0 + (k - 0) = k by omega]; exact h392 k hk) hrb hrw2
              rw [hdl] at this
              exact this
  have l0 : ∀ (j i : Nat) (f' : Nat → Nat → Int32) (rb' : Nat → Nat) (x2 : Option Value), nd - i = j → i ≤ nd → Sm ksP f f' → (∀ d, d < i → rb' d = rw d) → (∀ d, d < i → f' 39 d = nI d) → (∀ d, d < i → f' 40 d = nI d) → V mX4_takeBestOrder (dp + 6) 0 0 2 [some (.ref 37), some (.int (nI i)), x2] [] (HH f' ro rs rw rb' m) Q := by
    intro j
    induction j using Nat.strongRecOn with
    | _ j ih =>
      intro i f' rb' x2 hj hi hS hrb h39 h40
      have h12' : f' 12 4 = nI nd := by rw [hS 12 (by decide)]; exact h12
      have hP' : CP F n nd R f' ro rs rw := hP.same hS (fun _ _ => ⟨rfl, rfl⟩)
      refine V.ildn 1 dX4_takeBestOrder_2 rfl rfl ?_
      refine V.aldn 0 dX4_takeBestOrder_3 rfl rfl ?_
      refine V.gf4_1 dX4_takeBestOrder_4 f_X4_28 ?_
      refine V.gf3_4 dX4_takeBestOrder_7 f_X4_103 ?_
      refine V.top h12' ?_
      first | refine V.icmp_geN 48 dX4_takeBestOrder_10 (by decide) (by omega) (by omega) (fun c10 => ?_) (fun c10 => ?_) | refine V.icmp_ge 48 dX4_takeBestOrder_10 (by decide) (fun c10 => ?_) (fun c10 => ?_)
      · obtain rfl : i = nd := by omega
        obtain ⟨i1, i2⟩ := ly_id hD
        have hx0 : PX i (List.range i) := ⟨List.nodup_range, fun i hi => List.mem_range.mp hi⟩
        refine V.aldn 0 dX4_takeBestOrder_48 rfl rfl ?_
        refine V.gf4_2 dX4_takeBestOrder_49 f_X4_32 ?_
        refine V.cVi ((c_total hP' hG.1.2.2.2.2 : Mt (dp + 5) 0 0 _ _ _ _)) dX4_takeBestOrder_52 k_X4_89 rfl rfl rfl (Nat.le_of_ble_eq_true rfl) rfl ?_
        refine V.top (cost_congr i1).symm ?_
        refine V.istn 1 dX4_takeBestOrder_55 rfl (Nat.le_of_ble_eq_true rfl) ?_
        refine V.iconst (nI 1) dX4_takeBestOrder_56 (by decide +kernel) ?_
        refine V.istn 2 dX4_takeBestOrder_57 rfl (Nat.le_of_ble_eq_true rfl) ?_
        obtain ⟨rest, hrest⟩ : ∃ rest, ps i = [] ++ List.range i :: rest := by cases h : ps i with | nil => rw [h] at hhead; cases hhead | cons a r => rw [h] at hhead; cases hhead; exact ⟨r, rfl⟩
        have := loop rest [] (List.range i) (List.range i) f' rw rb' hrest (by rw [← hGf]; show stG F n i R D (List.range i) none = _; rw [stG, if_pos ⟨dB_t (hK.congr hD i1 i2), Or.inl rfl⟩]) hx0 List.length_range hS (fun k hk => by rw [h39 k hk]; exact congrArg nI (range_getD hk).symm) (fun k hk => by rw [h40 k hk]; exact congrArg nI (range_getD hk).symm) hrb (fun _ _ _ => rfl)
        exact this
      · have hk := hw.1 i (by omega)
        refine V.aldn 0 dX4_takeBestOrder_13 rfl rfl ?_
        refine V.gf4_4 dX4_takeBestOrder_14 f_X4_11 ?_
        refine V.ildn 1 dX4_takeBestOrder_17 rfl rfl ?_
        refine V.aldn 0 dX4_takeBestOrder_18 rfl rfl ?_
        refine V.gf4_1 dX4_takeBestOrder_19 f_X4_28 ?_
        refine V.gf3_1 dX4_takeBestOrder_22 f_X4_45 ?_
        refine V.ildn 1 dX4_takeBestOrder_25 rfl rfl ?_
        refine V.ald_13 dX4_takeBestOrder_26 (ix_nI (by omega) (by decide)) ?_
        refine V.ast_38 dX4_takeBestOrder_27 (by omega) (ix_nI (by omega) (by decide)) ?_
        refine V.aldn 0 dX4_takeBestOrder_28 rfl rfl ?_
        refine V.gf4_5 dX4_takeBestOrder_29 f_X4_17 ?_
        refine V.ildn 1 dX4_takeBestOrder_32 rfl rfl ?_
        refine V.ildn 1 dX4_takeBestOrder_33 rfl rfl ?_
        refine V.ast_39 dX4_takeBestOrder_34 (ix_nI (by omega) (by decide)) ?_
        refine V.aldn 0 dX4_takeBestOrder_35 rfl rfl ?_
        refine V.gf4_6 dX4_takeBestOrder_36 f_X4_21 ?_
        refine V.ildn 1 dX4_takeBestOrder_39 rfl rfl ?_
        refine V.ildn 1 dX4_takeBestOrder_40 rfl rfl ?_
        refine V.ast_40 dX4_takeBestOrder_41 (ix_nI (by omega) (by decide)) ?_
        first | refine V.iincN dX4_takeBestOrder_42 rfl ?_ | refine V.iinc dX4_takeBestOrder_42 rfl rfl ?_
        refine V.goto 2 dX4_takeBestOrder_45 (by decide) ?_
        refine ih _ (by omega) (i + 1) _ _ _ rfl (by omega) ((hS.up (by decide)).up (by decide)) (fun d hd => ?_) (fun d hd => ?_) (fun d hd => ?_)
        · unfold upN; split; (rename_i z; rw [z]); exact hrb d (by omega)
        · rw [up2_ne (by decide), up2_at]; split; (rename_i z; rw [z.2]); (rename_i z; exact h39 d (by omega))
        · rw [up2_at]; split; (rename_i z; rw [z.2]); (rename_i z; rw [up2_ne (by decide)]; exact h40 d (by omega))
  refine V.iconst (nI 0) dX4_takeBestOrder_0 (by decide +kernel) ?_
  refine V.istn 1 dX4_takeBestOrder_1 rfl (Nat.le_of_ble_eq_true rfl) ?_
  exact l0 _ 0 f rb _ rfl (Nat.zero_le _) Sm.rf (fun d hd => absurd hd (Nat.not_lt_zero d)) (fun d hd => absurd hd (Nat.not_lt_zero d)) (fun d hd => absurd hd (Nat.not_lt_zero d))
end CLASS
