/-! the reference: a scene put into a day -/
theorem upR_upR (R : Nat → List Nat) (d : Nat) (l l' : List Nat) : upR (upR R d l) d l' = upR R d l' := by
  funext a
  unfold upR
  split <;> rfl
theorem bestO_upR (F : Nat → Nat → Int32) (n nd : Nat) (R : Nat → List Nat) (D : Nat → Option Nat) (d : Nat) (l : List Nat) : bestO F n nd (upR R d l) D d = bestO F n nd R D d := by
  unfold bestO
  have e : ∀ P, stM F n nd (upR R d l) D d P = stM F n nd R D d P := by
    intro P
    funext pre b
    unfold stM
    rw [upR_upR]
  rw [e]
theorem tr_keep {β : Type} {z : Nat} {step : List Nat → β → β} {Pb : β → Prop} (hst : ∀ pre b, PX z pre → pre.length = z → Pb b → Pb (step pre b)) : ∀ (k : Nat) (us : Nat → Bool) (pre : List Nat) (b : β), pre.length + k = z → PX z pre → (∀ i, i < z → (us i = true ↔ i ∈ pre)) → Pb b → Pb (tr z step k us pre b)
  | 0, us, pre, b, hl, hp, hu, hb => hst pre b hp (by omega) hb
  | k + 1, us, pre, b, hl, hp, hu, hb => by
    have go : ∀ q, q ≤ z → Pb (fo (fun i b => if us i = true then b else tr z step k (fun j => us j || j == i) (pre ++ [i]) b) b q) := by
      intro q
      induction q with
      | zero => intro _; exact hb
      | succ q ih =>
        intro hq
        show Pb (if us q = true then _ else _)
        split
        · exact ih (by omega)
        · rename_i hn
          have hnm : q ∉ pre := fun h => hn ((hu q (by omega)).mpr h)
          refine tr_keep hst k _ _ _ (by rw [List.length_append]; simp; omega) (hp.add (by omega) hnm) (fun i hi => ?_) (ih (by omega))
          rw [Bool.or_eq_true, hu i hi, List.mem_append]
          simp
    exact go z (Nat.le_refl z)
/-- what the best order is: an order of the day's scenes by which the plan keeps -/
theorem bestO_some {F : Nat → Nat → Int32} {n nd : Nat} {R : Nat → List Nat} {D : Nat → Option Nat} {d : Nat} {r : List Nat} (h : bestO F n nd R D d = some r) : ∃ pre, PX (Pl n D d).length pre ∧ pre.length = (Pl n D d).length ∧ r = pre.map (fun i => (Pl n D d).getD i 0) ∧ KP F n nd (upR R d r) D := by
  have := tr_keep (z := (Pl n D d).length) (step := stM F n nd R D d (fun i => (Pl n D d).getD i 0)) (Pb := fun b => ∀ r, b = some r → ∃ pre, PX (Pl n D d).length pre ∧ pre.length = (Pl n D d).length ∧ r = pre.map (fun i => (Pl n D d).getD i 0) ∧ KP F n nd (upR R d r) D) (fun pre b hp hl hb r hr => by
    unfold stM at hr
    split at hr
    · rename_i q
      cases hr
      exact ⟨pre, hp, hl, rfl, of_dB q.2⟩
    · exact hb r hr) (Pl n D d).length (fun _ => false) [] none (by simp) ⟨List.nodup_nil, fun i hi => absurd hi List.not_mem_nil⟩ (fun i hi => by simp) (fun r hr => by cases hr)
  exact this r h
theorem DR.add {n nd : Nat} {R : Nat → List Nat} {D : Nat → Option Nat} {s d : Nat} (h : DR n nd R D) (hs : s < n) (hds : D s = none) (hd : d < nd) : DR n nd (upR R d (R d ++ [s])) (upD D s (some d)) := by
  obtain ⟨hn, d1, d2, d3⟩ := h
  have hnm : ∀ a, a < nd → s ∉ R a := fun a ha q => by have := (d2 s a ha q).2; rw [hds] at this; cases this
  refine ⟨hn, fun t a ht ha => ?_, fun t a ha hm => ?_, fun a ha => ?_⟩
  · by_cases e : t = s
    · subst e
      rw [upD_s] at ha
      cases ha
      exact ⟨hd, by rw [upR_s]; simp⟩
    · rw [upD_n e] at ha
      obtain ⟨q1, q2⟩ := d1 t a ht ha
      refine ⟨q1, ?_⟩
      by_cases e2 : a = d
      · subst e2; rw [upR_s]; exact List.mem_append_left _ q2
      · rw [upR_n e2]; exact q2
  · by_cases e2 : a = d
    · subst e2
      rw [upR_s] at hm
      rcases List.mem_append.mp hm with q | q
      · have e : t ≠ s := fun z => hnm a ha (by rw [← z]; exact q)
        rw [upD_n e]; exact d2 t a ha q
      · simp at q; subst q; rw [upD_s]; exact ⟨hs, rfl⟩
    · rw [upR_n e2] at hm
      have e : t ≠ s := fun z => hnm a ha (by rw [← z]; exact hm)
      rw [upD_n e]; exact d2 t a ha hm
  · by_cases e2 : a = d
    · subst e2
      rw [upR_s, List.nodup_append]
      exact ⟨d3 a ha, by simp, fun x hx y hy => by simp at hy; subst hy; exact fun z => hnm a ha (by rw [← z]; exact hx)⟩
    · rw [upR_n e2]; exact d3 a ha
theorem bestO_dr {F : Nat → Nat → Int32} {n nd : Nat} {R : Nat → List Nat} {D : Nat → Option Nat} {d : Nat} {r : List Nat} (hD : DR n nd R D) (hd : d < nd) (h5 : (R d).length ≤ 5) (h : bestO F n nd R D d = some r) : DR n nd (upR R d r) D := by
  obtain ⟨pre, hp, hl, rfl, -⟩ := bestO_some h
  exact (DX.of hD hd h5).dr hp hl
noncomputable def putO (F : Nat → Nat → Int32) (n nd : Nat) (R : Nat → List Nat) (D : Nat → Option Nat) (s d : Nat) : Option (List Nat) := if (R d).length = 5 then none else bestO F n nd R (upD D s (some d)) d
def putR (R : Nat → List Nat) (d : Nat) (o : Option (List Nat)) : Nat → List Nat := match o with
  | some r => upR R d r
  | none => R
def putD (D : Nat → Option Nat) (s d : Nat) (o : Option (List Nat)) : Nat → Option Nat := match o with
  | some _ => upD D s (some d)
  | none => D
section MODEL
variable {f ro rs : Nat → Nat → Int32} {rw rb : Nat → Nat} {m : Nat → Nat → Int32} {dp : Nat} {F : Nat → Nat → Int32} {n nd : Nat} {R : Nat → List Nat} {D : Nat → Option Nat}
theorem t_puts (hB : FB F) (hM : MS F n nd R D m) {s d : Nat} (hs : s < n) (hds : D s = none) (hd : d < nd) : Mt (dp + 12) 0 0 mX7_puts [.ref 45, .int (nI s), .int (nI d)] (HH f ro rs rw rb m) (fun r h' => ∃ m', r = some (.int (bI (putO F n nd R D s d).isSome)) ∧ h' = HH f ro rs rw rb m' ∧ Sm [8, 16, 17, 18, 19, 20, 21] m m' ∧ MS F n nd (putR R d (putO F n nd R D s d)) (putD D s d (putO F n nd R D s d)) m') := by
  refine Mt.of rfl rfl (Nat.le_of_ble_eq_true rfl) rfl ?_
  have hM0 := hM
  obtain ⟨⟨hnd, h13, hF, hp, hR⟩, hD, h1, h8⟩ := hM
  have hn20 := hD.1
  obtain ⟨hz, hz5, hr⟩ := hR d hd
  generalize ho : putO F n nd R D s d = o
  unfold putO at ho
  generalize hQ : (fun (r : Option Value) (h' : List AC) => ∃ m', r = some (.int (bI o.isSome)) ∧ h' = HH f ro rs rw rb m' ∧ Sm [8, 16, 17, 18, 19, 20, 21] m m' ∧ MS F n nd (putR R d o) (putD D s d o) m') = Q
  have loop2 : o = none → ∀ (j k : Nat) (m' : Nat → Nat → Int32), 5 - k = j → k ≤ 5 → Sm [8, 16, 17, 18, 19, 20, 21] m m' → (∀ a, m' 16 a = m 16 a) → (∀ a, m' 8 a = if a = s then -1 else m 8 a) → (∀ i, i < 5 → m' 21 i = m 17 (5 * d + i)) → (∀ i, (i < 5 * d + k ∨ 5 * d + 5 ≤ i) → m' 17 i = m 17 i) → V mX7_puts (dp + 12) 0 0 103 [some (.ref 45), some (.int (nI s)), some (.int (nI d)), some (.int (nI k))] [] (HH f ro rs rw rb m') Q := by
    intro hno j
    induction j using Nat.strongRecOn with
    | _ j ih =>
      intro k m' hj hk hS h16 h8' h21 h17
      refine V.ildn 3 dX7_puts_103 rfl rfl ?_
      refine V.iconst (nI 5) dX7_puts_104 (by decide +kernel) ?_
      first | refine V.icmp_geN 130 dX7_puts_105 (by decide) (by omega) (by omega) (fun c105 => ?_) (fun c105 => ?_) | refine V.icmp_ge 130 dX7_puts_105 (by decide) (fun c105 => ?_) (fun c105 => ?_)
      · refine V.iconst (nI 0) dX7_puts_130 (by decide +kernel) ?_
        exact V.ireturn dX7_puts_131 rfl (by first | rfl | decide +kernel) (by rw [← hQ, hno]; refine ⟨m', rfl, rfl, hS, ⟨hnd, (congrFun (hS 13 (by decide)) 0).trans h13, film_congr hS (isF_no (by decide)) hF, hp, fun a ha => rowM_congr (h16 a) (fun i hi => h17 _ (by omega)) (hR a ha)⟩, hD, (congrFun (hS 1 (by decide)) 0).trans h1, fun a ha => ?_⟩; rw [h8' a]; split; (rename_i e; rw [e]; show -1 = dI (D s); rw [hds]; rfl); exact h8 a ha)
      · refine V.aldn 0 dX7_puts_108 rfl rfl ?_
        refine V.gf7_17 dX7_puts_109 f_X7_53 ?_
        refine V.iconst (nI 5) dX7_puts_112 (by decide +kernel) ?_
        refine V.ildn 2 dX7_puts_113 rfl rfl ?_
        first | refine V.imulN dX7_puts_114 ?_ | refine V.imul dX7_puts_114 ?_
        refine V.ildn 3 dX7_puts_115 rfl rfl ?_
        first | refine V.iaddN dX7_puts_116 ?_ | refine V.iadd dX7_puts_116 ?_
        refine V.aldn 0 dX7_puts_117 rfl rfl ?_
        refine V.gf7_21 dX7_puts_118 f_X7_62 ?_
        refine V.ildn 3 dX7_puts_121 rfl rfl ?_
        refine V.ald_63 dX7_puts_122 (ix_nI (by omega) (by decide)) ?_
        refine V.top (h21 k c105) ?_
        refine V.ast_60 dX7_puts_123 (ix_nI (by omega) (by decide)) ?_
        first | refine V.iincN dX7_puts_124 rfl ?_ | refine V.iinc dX7_puts_124 rfl rfl ?_
        refine V.goto 103 dX7_puts_127 (by decide) ?_
        refine ih _ (by omega) (k + 1) _ rfl (by omega) (hS.up (by decide)) (fun a => by rw [up2_at, if_neg (by omega)]; exact h16 a) (fun a => by rw [up2_at, if_neg (by omega)]; exact h8' a) (fun i hi => by rw [up2_at, if_neg (by omega)]; exact h21 i hi) (fun i hi => ?_)
        rw [up2_at]
        split
        · rename_i e; rw [e.2]
        · rename_i e; exact h17 i (by omega)
  have main : (R d).length ≠ 5 → ∀ (m' : Nat → Nat → Int32), Sm [8, 16, 17, 18, 19, 20, 21] m m' → (∀ k, k ≠ 21 → m' k = m k) → (∀ i, i < 5 → m' 21 i = m 17 (5 * d + i)) → V mX7_puts (dp + 12) 0 0 41 [some (.ref 45), some (.int (nI s)), some (.int (nI d)), some (.int (nI 5))] [] (HH f ro rs rw rb m') Q := by
    intro h5 m' hS hoth h21
    rw [if_neg h5] at ho
    have hD1 := hD.add hs hds hd
    have hM1 : MS F n nd (upR R d (R d ++ [s])) (upD D s (some d)) (up2 (up2 (up2 m' 8 s (nI d)) 17 (5 * d + (R d).length) (nI s)) 16 d (nI ((R d).length + 1))) := by
      have hSS : Sm [8, 16, 17, 18, 19, 20, 21] m (up2 (up2 (up2 m' 8 s (nI d)) 17 (5 * d + (R d).length) (nI s)) 16 d (nI ((R d).length + 1))) := ((hS.up (by decide)).up (by decide)).up (by decide)
      refine ⟨⟨hnd, (congrFun (hSS 13 (by decide)) 0).trans h13, film_congr hSS (isF_no (by decide)) hF, hp, fun a ha => ?_⟩, hD1, (congrFun (hSS 1 (by decide)) 0).trans h1, fun a ha => ?_⟩
      · by_cases e : a = d
        · subst e
          rw [upR_s]
          refine ⟨by rw [up2_at, if_pos ⟨rfl, rfl⟩, List.length_append]; rfl, by rw [List.length_append]; show _ + 1 ≤ 5; omega, fun i hi => ?_⟩
          rw [List.length_append] at hi
          have hi : i < (R a).length + 1 := hi
          rw [up2_at, if_neg (by omega), up2_at]
          by_cases q : i = (R a).length
          · subst q
            rw [if_pos ⟨rfl, rfl⟩, List.getD_eq_getElem?_getD, List.getElem?_append_right (Nat.le_refl _), Nat.sub_self]
            exact ⟨rfl, by show s < 20; omega⟩
          · rw [if_neg (by omega), up2_at, if_neg (by omega), hoth 17 (by decide), List.getD_eq_getElem?_getD, List.getElem?_append_left (by omega), ← List.getD_eq_getElem?_getD]
            exact hr i (by omega)
        · rw [upR_n e]
          refine rowM_congr ?_ (fun i hi => ?_) (hR a ha)
          · rw [up2_at, if_neg (fun q => e q.2), up2_at, if_neg (by omega), up2_at, if_neg (by omega), hoth 16 (by decide)]
          · rw [up2_at, if_neg (by omega), up2_at, if_neg (by omega), up2_at, if_neg (by omega), hoth 17 (by decide)]
      · rw [up2_at, if_neg (by omega), up2_at, if_neg (by omega), up2_at]
        by_cases e : a = s
        · rw [if_pos ⟨rfl, e⟩, e, upD_s]; rfl
        · rw [if_neg (fun q => e q.2), upD_n e, hoth 8 (by decide)]; exact h8 a ha
    have har := t_arranges (f := f) (ro := ro) (rs := rs) (rw := rw) (rb := rb) (dp := dp) hB hM1 hd
    rw [bestO_upR, ho] at har
    have hSS : Sm [8, 16, 17, 18, 19, 20, 21] m (up2 (up2 (up2 m' 8 s (nI d)) 17 (5 * d + (R d).length) (nI s)) 16 d (nI ((R d).length + 1))) := ((hS.up (by decide)).up (by decide)).up (by decide)
    refine V.aldn 0 dX7_puts_41 rfl rfl ?_
    refine V.gf7_8 dX7_puts_42 f_X7_29 ?_
    refine V.ildn 1 dX7_puts_45 rfl rfl ?_
    refine V.ildn 2 dX7_puts_46 rfl rfl ?_
    refine V.ast_52 dX7_puts_47 (ix_nI (by omega) (by decide)) ?_
    refine V.aldn 0 dX7_puts_48 rfl rfl ?_
    refine V.gf7_17 dX7_puts_49 f_X7_53 ?_
    refine V.iconst (nI 5) dX7_puts_52 (by decide +kernel) ?_
    refine V.ildn 2 dX7_puts_53 rfl rfl ?_
    first | refine V.imulN dX7_puts_54 ?_ | refine V.imul dX7_puts_54 ?_
    refine V.aldn 0 dX7_puts_55 rfl rfl ?_
    refine V.gf7_16 dX7_puts_56 f_X7_50 ?_
    refine V.ildn 2 dX7_puts_59 rfl rfl ?_
    refine V.ald_59 dX7_puts_60 (ix_nI (by omega) (by decide)) ?_
    refine V.top (y := nI (R d).length) (by rw [up2_at, if_neg (by omega), hoth 16 (by decide)]; exact hz) ?_
    first | refine V.iaddN dX7_puts_61 ?_ | refine V.iadd dX7_puts_61 ?_
    refine V.ildn 1 dX7_puts_62 rfl rfl ?_
    refine V.ast_60 dX7_puts_63 (ix_nI (by omega) (by decide)) ?_
    refine V.aldn 0 dX7_puts_64 rfl rfl ?_
    refine V.gf7_16 dX7_puts_65 f_X7_50 ?_
    refine V.ildn 2 dX7_puts_68 rfl rfl ?_
    refine V.dup2 dX7_puts_69 ?_
    refine V.ald_59 dX7_puts_70 (ix_nI (by omega) (by decide)) ?_
    refine V.top (y := nI (R d).length) (by rw [up2_at, if_neg (by omega), up2_at, if_neg (by omega), hoth 16 (by decide)]; exact hz) ?_
    refine V.iconst (nI 1) dX7_puts_71 (by decide +kernel) ?_
    first | refine V.iaddN dX7_puts_72 ?_ | refine V.iadd dX7_puts_72 ?_
    refine V.ast_59 dX7_puts_73 (ix_nI (by omega) (by decide)) ?_
    refine V.aldn 0 dX7_puts_74 rfl rfl ?_
    refine V.ildn 2 dX7_puts_75 rfl rfl ?_
    refine V.cVe har dX7_puts_76 k_X7_137 rfl rfl rfl (Nat.le_of_ble_eq_true rfl) rfl ?_
    rintro _ _ ⟨m2, rfl, rfl, hS2, h172, hrow⟩
    refine V.eqs (st' := [.int (bI o.isSome)]) rfl ?_
    have hSa := hSS.tr (hS2.wk (by decide))
    first | refine V.if_eqB 84 dX7_puts_79 (by decide) (fun c79 => ?_) (fun c79 => ?_) | refine V.if_eqN 84 dX7_puts_79 (by decide) (by omega) (fun c79 => ?_) (fun c79 => ?_) | refine V.if_eq 84 dX7_puts_79 (by decide) (fun c79 => ?_) (fun c79 => ?_)
    · have hno : o = none := by cases o with | none => rfl | some r => cases c79
      refine V.aldn 0 dX7_puts_84 rfl rfl ?_
      refine V.gf7_8 dX7_puts_85 f_X7_29 ?_
      refine V.ildn 1 dX7_puts_88 rfl rfl ?_
      refine V.iconst (-1) dX7_puts_89 (by decide +kernel) ?_
      refine V.ast_52 dX7_puts_90 (ix_nI (by omega) (by decide)) ?_
      refine V.aldn 0 dX7_puts_91 rfl rfl ?_
      refine V.gf7_16 dX7_puts_92 f_X7_50 ?_
      refine V.ildn 2 dX7_puts_95 rfl rfl ?_
      refine V.dup2 dX7_puts_96 ?_
      refine V.ald_59 dX7_puts_97 (ix_nI (by omega) (by decide)) ?_
      refine V.top (y := nI ((R d).length + 1)) (by rw [up2_at, if_neg (by omega), hS2 16 (by decide), up2_at, if_pos ⟨rfl, rfl⟩]) ?_
      refine V.iconst (nI 1) dX7_puts_98 (by decide +kernel) ?_
      refine V.isubN dX7_puts_99 (by omega) ?_
      refine V.ast_59 dX7_puts_100 (ix_nI (by omega) (by decide)) ?_
      refine V.iconst (nI 0) dX7_puts_101 (by decide +kernel) ?_
      refine V.istn 3 dX7_puts_102 rfl (Nat.le_of_ble_eq_true rfl) ?_
      refine loop2 hno 5 0 _ (by omega) (by omega) ((hSa.up (by decide)).up (by decide)) (fun a => ?_) (fun a => ?_) (fun i hi => ?_) (fun i hi => ?_)
      · rw [up2_at]; by_cases e : a = d; rw [if_pos ⟨rfl, e⟩, e, Nat.add_sub_cancel]; exact hz.symm; rw [if_neg (fun q => e q.2), up2_at, if_neg (by omega), hS2 16 (by decide), up2_at, if_neg (fun q => e q.2), up2_at, if_neg (by omega), up2_at, if_neg (by omega), hoth 16 (by decide)]
      · rw [up2_at, if_neg (by omega), up2_at]; by_cases e : a = s; rw [if_pos ⟨rfl, e⟩, if_pos e]; rw [if_neg (fun q => e q.2), if_neg e, hS2 8 (by decide), up2_at, if_neg (by omega), up2_at, if_neg (by omega), up2_at, if_neg (fun q => e q.2), hoth 8 (by decide)]
      · rw [up2_at, if_neg (by omega), up2_at, if_neg (by omega), hS2 21 (by decide), up2_at, if_neg (by omega), up2_at, if_neg (by omega), up2_at, if_neg (by omega)]; exact h21 i hi
      · rw [up2_at, if_neg (by omega), up2_at, if_neg (by omega), h172 i (by omega), up2_at, if_neg (by omega), up2_at, if_neg (by omega), up2_at, if_neg (by omega), hoth 17 (by decide)]
    · obtain ⟨r, hor⟩ := Option.isSome_iff_exists.mp c79
      refine V.iconst (nI 1) dX7_puts_82 (by decide +kernel) ?_
      refine V.ireturn dX7_puts_83 rfl (by decide +kernel) ?_
      rw [← hQ, hor]
      obtain ⟨⟨-, k13, kF, -, kR⟩, -, k1, k8⟩ := hM1
      have hrw := hrow r hor
      have hbo := bestO_upR F n nd R (upD D s (some d)) d (R d ++ [s])
      rw [ho, hor] at hbo
      have hdr := bestO_dr hD1 hd (by rw [upR_s, List.length_append]; show _ + 1 ≤ 5; omega) hbo
      rw [upR_upR] at hdr
      refine ⟨m2, rfl, rfl, hSa, ⟨hnd, (congrFun (hSa 13 (by decide)) 0).trans h13, film_congr hSa (isF_no (by decide)) hF, hp, fun a ha => ?_⟩, hdr, (congrFun (hSa 1 (by decide)) 0).trans h1, fun a ha => (congrFun (hS2 8 (by decide)) a).trans (k8 a ha)⟩
      show rowM m2 a (upR R d r a)
      by_cases e : a = d
      · subst e; rw [upR_s]; exact hrw
      · rw [upR_n e]; have := kR a ha; rw [upR_n e] at this; exact rowM_congr (congrFun (hS2 16 (by decide)) a) (fun i hi => h172 _ (by omega)) this
  have loop1 : (R d).length ≠ 5 → ∀ (j k : Nat) (m' : Nat → Nat → Int32), 5 - k = j → k ≤ 5 → Sm [8, 16, 17, 18, 19, 20, 21] m m' → (∀ k, k ≠ 21 → m' k = m k) → (∀ i, i < k → m' 21 i = m 17 (5 * d + i)) → V mX7_puts (dp + 12) 0 0 14 [some (.ref 45), some (.int (nI s)), some (.int (nI d)), some (.int (nI k))] [] (HH f ro rs rw rb m') Q := by
    intro h5 j
    induction j using Nat.strongRecOn with
    | _ j ih =>
      intro k m' hj hk hS hoth h21
      refine V.ildn 3 dX7_puts_14 rfl rfl ?_
      refine V.iconst (nI 5) dX7_puts_15 (by decide +kernel) ?_
      first | refine V.icmp_geN 41 dX7_puts_16 (by decide) (by omega) (by omega) (fun c16 => ?_) (fun c16 => ?_) | refine V.icmp_ge 41 dX7_puts_16 (by decide) (fun c16 => ?_) (fun c16 => ?_)
      · obtain rfl : k = 5 := by omega
        exact main h5 m' hS hoth (fun i hi => h21 i (by omega))
      · refine V.aldn 0 dX7_puts_19 rfl rfl ?_
        refine V.gf7_21 dX7_puts_20 f_X7_62 ?_
        refine V.ildn 3 dX7_puts_23 rfl rfl ?_
        refine V.aldn 0 dX7_puts_24 rfl rfl ?_
        refine V.gf7_17 dX7_puts_25 f_X7_53 ?_
        refine V.iconst (nI 5) dX7_puts_28 (by decide +kernel) ?_
        refine V.ildn 2 dX7_puts_29 rfl rfl ?_
        first | refine V.imulN dX7_puts_30 ?_ | refine V.imul dX7_puts_30 ?_
        refine V.ildn 3 dX7_puts_31 rfl rfl ?_
        first | refine V.iaddN dX7_puts_32 ?_ | refine V.iadd dX7_puts_32 ?_
        refine V.ald_60 dX7_puts_33 (ix_nI (by omega) (by decide)) ?_
        refine V.top (congrFun (hoth 17 (by decide)) _) ?_
        refine V.ast_63 dX7_puts_34 (ix_nI (by omega) (by decide)) ?_
        first | refine V.iincN dX7_puts_35 rfl ?_ | refine V.iinc dX7_puts_35 rfl rfl ?_
        refine V.goto 14 dX7_puts_38 (by decide) ?_
        refine ih _ (by omega) (k + 1) _ rfl (by omega) (hS.up (by decide)) (fun q hq => by rw [up2_ne hq]; exact hoth q hq) (fun i hi => ?_)
        rw [up2_at]
        split
        · rename_i e; rw [e.2]
        · rename_i e; exact h21 i (by omega)
  refine V.aldn 0 dX7_puts_0 rfl rfl ?_
  refine V.gf7_16 dX7_puts_1 f_X7_50 ?_
  refine V.ildn 2 dX7_puts_4 rfl rfl ?_
  refine V.ald_59 dX7_puts_5 (ix_nI (by omega) (by decide)) ?_
  refine V.top hz ?_
  refine V.iconst (nI 5) dX7_puts_6 (by decide +kernel) ?_
  first | refine V.icmp_neN 12 dX7_puts_7 (by decide) (by omega) (by omega) (fun c7 => ?_) (fun c7 => ?_) | refine V.icmp_ne 12 dX7_puts_7 (by decide) (fun c7 => ?_) (fun c7 => ?_)
  · refine V.iconst (nI 0) dX7_puts_12 (by decide +kernel) ?_
    refine V.istn 3 dX7_puts_13 rfl (Nat.le_of_ble_eq_true rfl) ?_
    exact loop1 c7 5 0 m (by omega) (by omega) Sm.rf (fun _ _ => rfl) (fun i hi => absurd hi (Nat.not_lt_zero i))
  · rw [if_pos c7] at ho
    refine V.iconst (nI 0) dX7_puts_10 (by decide +kernel) ?_
    refine V.ireturn dX7_puts_11 rfl (by decide +kernel) ?_
    rw [← hQ, ← ho]
    exact ⟨m, rfl, rfl, Sm.rf, hM0⟩
end MODEL
