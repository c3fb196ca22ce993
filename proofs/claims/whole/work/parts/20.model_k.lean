/-! the reference: the best order of days -/
def FC (F : Nat → Nat → Int32) : Prop := (∀ p, p < 8 → ∃ a, a ≤ 1000 ∧ F 9 p = nI a) ∧ ∀ p, p < 8 → ∃ a, a ≤ 1000 ∧ F 11 p = nI a
theorem sm_bd {g : Nat → Int32} {B : Nat} : ∀ {n : Nat}, (∀ k, k < n → ∃ a, a ≤ B ∧ g k = nI a) → ∃ a, a ≤ B * n ∧ sm g n = nI a
  | 0, _ => ⟨0, by omega, rfl⟩
  | n + 1, h => by
    obtain ⟨a, ha, ea⟩ := sm_bd (fun k hk => h k (Nat.lt_succ_of_lt hk))
    obtain ⟨b, hb, eb⟩ := h n (Nat.lt_succ_self n)
    exact ⟨a + b, by rw [Nat.mul_succ]; omega, by rw [sm, ea, eb, nI_add]⟩
theorem cost_bd {F : Nat → Nat → Int32} {nd : Nat} {R : Nat → List Nat} (hB : FB F) (hC : FC F) (hp : PlV F) (hnd : nd ≤ 8) (hR : ∀ d, d < nd → (R d).length ≤ 5 ∧ ∀ k, k < (R d).length → (R d).getD k 0 < 20) : ∃ c, c < 1000000 ∧ costC F nd R = nI c := by
  obtain ⟨a, ha, ea⟩ : ∃ a, a ≤ 8000 * 8 ∧ payC F nd R = nI a := by
    refine sm_bd (fun p hp => ?_)
    obtain ⟨x, hx, ex⟩ := hC.1 p hp
    have hb := pdS_bd (pb := fun d => plB F (R d) p) (gap := F 10 p) nd
    refine ⟨x * (pdS (fun d => plB F (R d) p) (F 10 p) nd).1, ?_, by show F 9 p * _ = _; rw [ex, pk_mul]⟩
    exact Nat.le_trans (Nat.mul_le_mul hx (show _ ≤ 8 by omega)) (by decide)
  obtain ⟨b, hb, eb⟩ : ∃ a, a ≤ 8000 * nd ∧ rentC F nd R = nI a := by
    refine sm_bd (fun d hd => ?_)
    obtain ⟨x, hx, ex⟩ := sm_bd (g := fun p => if usB F (R d) p = true then F 11 p else nI 0) (B := 1000) (n := 8) (fun p hp => by
      show ∃ a, a ≤ 1000 ∧ (if usB F (R d) p = true then F 11 p else nI 0) = nI a
      split
      · exact hC.2 p hp
      · exact ⟨0, by omega, rfl⟩)
    exact ⟨x, by omega, ex⟩
  obtain ⟨c, hc, ec⟩ : ∃ a, a ≤ 5000 * nd ∧ overC F nd R = nI a := by
    refine sm_bd (fun d hd => ?_)
    obtain ⟨t, ht, et⟩ := mins_bd hB hp (hR d hd).1 (hR d hd).2
    show ∃ a, a ≤ 5000 ∧ nI 50 * ovr (mins F (R d)) = nI a
    rw [et, ovr]
    split
    · rename_i q
      have q := (nI_ltI (by decide) (by omega)).mp q
      rw [pk_sub (by omega), nI_add, pk_div (by omega) (by decide) (by decide), pk_mul]
      exact ⟨_, by omega, rfl⟩
    · rw [pk_mul]
      exact ⟨_, by omega, rfl⟩
  exact ⟨a + b + c, by omega, by rw [costC, ea, eb, ec, nI_add, nI_add]⟩
theorem tr_hit {β : Type} {z : Nat} {step : List Nat → β → β} {Pb : β → Prop} {q : List Nat} (hst : ∀ pre b, Pb b → Pb (step pre b)) (hq : ∀ b, Pb (step q b)) (hqx : PX z q) (hql : q.length = z) : ∀ (k : Nat) (us : Nat → Bool) (pre rest : List Nat) (b : β), q = pre ++ rest → rest.length = k → (∀ i, i < z → (us i = true ↔ i ∈ pre)) → Pb (tr z step k us pre b)
  | 0, us, pre, rest, b, he, hr, hu => by
    have : rest = [] := List.eq_nil_of_length_eq_zero hr
    subst this
    rw [List.append_nil] at he
    subst he
    exact hq b
  | k + 1, us, pre, rest, b, he, hr, hu => by
    cases rest with
    | nil => cases hr
    | cons x rest =>
      have keep : ∀ (k : Nat) (us : Nat → Bool) (pre : List Nat) (b : β), Pb b → Pb (tr z step k us pre b) := by
        intro k
        induction k with
        | zero => intro us pre b hb; exact hst pre b hb
        | succ k ih =>
          intro us pre b hb
          have go : ∀ t, Pb (fo (fun i b => if us i = true then b else tr z step k (fun j => us j || j == i) (pre ++ [i]) b) b t) := by
            intro t
            induction t with
            | zero => exact hb
            | succ t iht =>
              show Pb (if us t = true then _ else _)
              split
              · exact iht
              · exact ih _ _ _ iht
          exact go z
      have hxz : x < z := hqx.2 x (by rw [he]; simp)
      have hxn : x ∉ pre := by
        have := hqx.1
        rw [he, List.nodup_append] at this
        exact fun h => this.2.2 x h x (by simp) rfl
      have hux : ¬ us x = true := fun h => hxn ((hu x hxz).mp h)
      have go : ∀ t, x < t → Pb (fo (fun i b => if us i = true then b else tr z step k (fun j => us j || j == i) (pre ++ [i]) b) b t) := by
        intro t
        induction t with
        | zero => intro h; omega
        | succ t iht =>
          intro h
          show Pb (if us t = true then _ else _)
          by_cases e : t = x
          · subst e
            rw [if_neg hux]
            refine tr_hit hst hq hqx hql k _ _ rest _ (by rw [he]; simp) (by simpa using hr) (fun i hi => ?_)
            rw [Bool.or_eq_true, hu i hi, List.mem_append]
            simp
          · split
            · exact iht (by omega)
            · exact keep _ _ _ _ (iht (by omega))
      exact go z hxz
def lyR (R : Nat → List Nat) (q : List Nat) : Nat → List Nat := fun d => R (q.getD d 0)
def lyD (D : Nat → Option Nat) (q : List Nat) : Nat → Option Nat := fun s => (D s).map (fun e => q.idxOf e)
theorem idxOf_getD {l : List Nat} (h : l.Nodup) {i : Nat} (hi : i < l.length) : l.idxOf (l.getD i 0) = i := by
  have hm := getD_mem hi
  have h1 := List.idxOf_lt_length_of_mem hm
  refine nodup_getD h h1 hi ?_
  rw [List.getD_eq_getElem?_getD, List.getElem?_eq_getElem h1]
  exact List.getElem_idxOf h1
theorem getD_idxOf {l : List Nat} {x : Nat} (hm : x ∈ l) : l.getD (l.idxOf x) 0 = x := by
  have h1 := List.idxOf_lt_length_of_mem hm
  rw [List.getD_eq_getElem?_getD, List.getElem?_eq_getElem h1]
  exact List.getElem_idxOf h1
theorem DR.ly {n nd : Nat} {R : Nat → List Nat} {D : Nat → Option Nat} {q : List Nat} (h : DR n nd R D) (hx : PX nd q) (hl : q.length = nd) : DR n nd (lyR R q) (lyD D q) := by
  obtain ⟨hn, d1, d2, d3⟩ := h
  have hall := nd_all hx.1 hx.2 hl
  refine ⟨hn, fun s d hs hd => ?_, fun s d hd hm => ?_, fun d hd => d3 _ (hx.2 _ (getD_mem (by omega)))⟩
  · cases hD : D s with
    | none => rw [lyD, hD] at hd; cases hd
    | some e =>
      rw [lyD, hD] at hd
      have hd : some (q.idxOf e) = some d := hd
      cases hd
      obtain ⟨q1, q2⟩ := d1 s e hs hD
      have hm := hall e q1
      exact ⟨by rw [← hl]; exact List.idxOf_lt_length_of_mem hm, by rw [lyR, getD_idxOf hm]; exact q2⟩
  · obtain ⟨q1, q2⟩ := d2 s _ (hx.2 _ (getD_mem (by omega))) hm
    exact ⟨q1, by rw [lyD, q2]; show some (q.idxOf (q.getD d 0)) = some d; rw [idxOf_getD hx.1 (by omega)]⟩
def bc (F : Nat → Nat → Int32) (nd : Nat) (R : Nat → List Nat) (b : Option (List Nat)) : Int32 := match b with
  | none => -1
  | some q => costC F nd (lyR R q)
noncomputable def stG (F : Nat → Nat → Int32) (n nd : Nat) (R : Nat → List Nat) (D : Nat → Option Nat) (pre : List Nat) (b : Option (List Nat)) : Option (List Nat) :=
  if dB (KP F n nd (lyR R pre) (lyD D pre)) = true ∧ (b = none ∨ costC F nd (lyR R pre) < bc F nd R b) then some pre else b
noncomputable def ordO (F : Nat → Nat → Int32) (n nd : Nat) (R : Nat → List Nat) (D : Nat → Option Nat) : Option (List Nat) := tr nd (stG F n nd R D) nd (fun _ => false) [] none
/-- what lays stands on: the kept rows R and days D, and the reference's film -/
def LX (F : Nat → Nat → Int32) (n nd : Nat) (R : Nat → List Nat) (D : Nat → Option Nat) (m : Nat → Nat → Int32) : Prop := (nd ≤ 6 ∧ m 13 0 = nI nd ∧ m 1 0 = nI n ∧ (∀ k, isF k = true → m k = F k) ∧ PlV F ∧ DR n nd R D) ∧ (∀ d, d < nd → m 23 d = nI (R d).length ∧ (R d).length ≤ 5 ∧ ∀ k, k < (R d).length → m 22 (5 * d + k) = nI ((R d).getD k 0) ∧ (R d).getD k 0 < 20) ∧ (∀ s, s < n → m 24 s = dI (D s)) ∧ ∀ s, s < n → D s = none → m 8 s = -1
theorem LX.sm {F : Nat → Nat → Int32} {n nd : Nat} {R : Nat → List Nat} {D : Nat → Option Nat} {m m' : Nat → Nat → Int32} (h : LX F n nd R D m) (hS : Sm [8, 16, 17, 25, 26, 27] m m') (h8 : ∀ s, s < n → D s = none → m' 8 s = -1) : LX F n nd R D m' := by
  obtain ⟨⟨l1, l2, l3, l4, l5, l6⟩, l7, l8, l9⟩ := h
  exact ⟨⟨l1, (congrFun (hS 13 (by decide)) 0).trans l2, (congrFun (hS 1 (by decide)) 0).trans l3, film_congr hS (isF_no (by decide)) l4, l5, l6⟩, fun d hd => ⟨(congrFun (hS 23 (by decide)) d).trans (l7 d hd).1, (l7 d hd).2.1, fun k hk => ⟨(congrFun (hS 22 (by decide)) _).trans ((l7 d hd).2.2 k hk).1, ((l7 d hd).2.2 k hk).2⟩⟩, fun s hs => (congrFun (hS 24 (by decide)) s).trans (l8 s hs), h8⟩
section MODEL
variable {f ro rs : Nat → Nat → Int32} {rw rb : Nat → Nat} {dp : Nat} {F : Nat → Nat → Int32} {n nd : Nat} {R : Nat → List Nat} {D : Nat → Option Nat}
theorem t_laysM {m : Nat → Nat → Int32} (hL : LX F n nd R D m) {q : List Nat} (hx : PX nd q) (hl : q.length = nd) (hg : ∀ d, d < nd → m 25 d = nI (q.getD d 0)) : Mt (dp + 1) 0 0 mX7_lays [.ref 45] (HH f ro rs rw rb m) (fun r h' => ∃ m', r = none ∧ h' = HH f ro rs rw rb m' ∧ Sm [8, 16, 17] m m' ∧ MS F n nd (lyR R q) (lyD D q) m' ∧ (∀ s, s < n → D s = none → m' 8 s = -1)) := by
  refine Mt.of rfl rfl (Nat.le_of_ble_eq_true rfl) rfl ?_
  obtain ⟨⟨l1, l2, l3, l4, l5, l6⟩, l7, l8, l9⟩ := hL
  have hn20 := l6.1
  have hq : ∀ d, d < nd → q.getD d 0 < nd := fun d hd => hx.2 _ (getD_mem (by omega))
  generalize hQ : (fun (r : Option Value) (h' : List AC) => ∃ m', r = none ∧ h' = HH f ro rs rw rb m' ∧ Sm [8, 16, 17] m m' ∧ MS F n nd (lyR R q) (lyD D q) m' ∧ (∀ s, s < n → D s = none → m' 8 s = -1)) = Q
  have loop2 : ∀ (j k : Nat) (m' : Nat → Nat → Int32) (o2 : Option Value), n - k = j → k ≤ n → Sm [8, 16, 17] m m' → (∀ d, d < nd → rowM m' d (lyR R q d)) → (∀ s, s < n → D s = none → m' 8 s = -1) → (∀ s, s < k → m' 8 s = dI (lyD D q s)) → V mX7_lays (dp + 1) 0 0 73 [some (.ref 45), some (.int (nI k)), o2] [] (HH f ro rs rw rb m') Q := by
    intro j
    induction j using Nat.strongRecOn with
    | _ j ih =>
      intro k m' o2 hj hk hS hrow hnone h8
      have inner : k < n → ∀ (i d : Nat) (m' : Nat → Nat → Int32), nd - d = i → d ≤ nd → Sm [8, 16, 17] m m' → (∀ d, d < nd → rowM m' d (lyR R q d)) → (∀ s, s < n → D s = none → m' 8 s = -1) → (∀ s, s < k → m' 8 s = dI (lyD D q s)) → (∀ e, D k = some e → q.idxOf e < d → m' 8 k = nI (q.idxOf e)) → V mX7_lays (dp + 1) 0 0 83 [some (.ref 45), some (.int (nI k)), some (.int (nI d))] [] (HH f ro rs rw rb m') Q := by
        intro hkn i
        induction i using Nat.strongRecOn with
        | _ i ih2 =>
          intro d m' hi hd hS hrow hnone h8 hk8
          have dk : ∀ e, D k = some e → e < nd := fun e he => (l6.2.1 k e hkn he).1
          refine V.ildn 2 dX7_lays_83 rfl rfl ?_
          refine V.aldn 0 dX7_lays_84 rfl rfl ?_
          refine V.gf7_13 dX7_lays_85 f_X7_91 ?_
          refine V.top (y := nI nd) (by rw [hS 13 (by decide)]; exact l2) ?_
          first | refine V.icmp_geN 119 dX7_lays_88 (by decide) (by omega) (by omega) (fun c88 => ?_) (fun c88 => ?_) | refine V.icmp_ge 119 dX7_lays_88 (by decide) (fun c88 => ?_) (fun c88 => ?_)
          · refine V.iincN dX7_lays_119 rfl ?_
            refine V.goto 73 dX7_lays_122 (by decide) ?_
            refine ih _ (by omega) (k + 1) m' _ rfl (by omega) hS hrow hnone (fun s hs => ?_)
            rcases Nat.lt_succ_iff_lt_or_eq.mp hs with z | z
            · exact h8 s z
            · rw [z]; unfold lyD; cases hD : D k with | none => exact hnone k hkn hD | some e => exact hk8 e hD (by have := List.idxOf_lt_length_of_mem (nd_all hx.1 hx.2 hl e (dk e hD)); omega)
          · refine V.aldn 0 dX7_lays_91 rfl rfl ?_
            refine V.gf7_24 dX7_lays_92 f_X7_71 ?_
            refine V.ildn 1 dX7_lays_95 rfl rfl ?_
            refine V.ald_66 dX7_lays_96 (ix_nI (by omega) (by decide)) ?_
            refine V.top (y := dI (D k)) (by rw [hS 24 (by decide)]; exact l8 k hkn) ?_
            refine V.aldn 0 dX7_lays_97 rfl rfl ?_
            refine V.gf7_25 dX7_lays_98 f_X7_74 ?_
            refine V.ildn 2 dX7_lays_101 rfl rfl ?_
            refine V.ald_67 dX7_lays_102 (ix_nI (by omega) (by decide)) ?_
            refine V.top (y := nI (q.getD d 0)) (by rw [hS 25 (by decide)]; exact hg d c88) ?_
            refine V.icmp_ne 113 dX7_lays_103 (by decide) (fun c103 => ?_) (fun c103 => ?_)
            · refine V.iincN dX7_lays_113 rfl ?_
              refine V.goto 83 dX7_lays_116 (by decide) ?_
              refine ih2 _ (by omega) (d + 1) m' rfl (by omega) hS hrow hnone h8 (fun e he hlt => ?_)
              rcases Nat.lt_succ_iff_lt_or_eq.mp hlt with z | z
              · exact hk8 e he z
              · exact absurd (by rw [he, ← z, getD_idxOf (nd_all hx.1 hx.2 hl e (dk e he))]; rfl) c103
            · have hq2 := hq d c88
              obtain ⟨e0, he0, hee⟩ : ∃ e0, D k = some e0 ∧ e0 = q.getD d 0 := by cases h : D k with | none => rw [h] at c103; exact absurd c103.symm (nI_m1 (by omega)) | some e => rw [h] at c103; exact ⟨e, rfl, (nI_eq (by have := dk e h; omega) (by omega)).mp c103⟩
              refine V.aldn 0 dX7_lays_106 rfl rfl ?_
              refine V.gf7_8 dX7_lays_107 f_X7_29 ?_
              refine V.ildn 1 dX7_lays_110 rfl rfl ?_
              refine V.ildn 2 dX7_lays_111 rfl rfl ?_
              refine V.ast_52 dX7_lays_112 (ix_nI (by omega) (by decide)) ?_
              first | refine V.iincN dX7_lays_113 rfl ?_ | refine V.iinc dX7_lays_113 rfl rfl ?_
              refine V.goto 83 dX7_lays_116 (by decide) ?_
              refine ih2 _ (by omega) (d + 1) _ rfl (by omega) (hS.up (by decide)) (fun a ha => rowM_congr (by rw [up2_at, if_neg (by omega)]) (fun i hi => by rw [up2_at, if_neg (by omega)]) (hrow a ha)) (fun s hs hn => by rw [up2_at, if_neg (fun z => by rw [z.2, he0] at hn; cases hn)]; exact hnone s hs hn) (fun s hs => by rw [up2_at, if_neg (by omega)]; exact h8 s hs) (fun e he hlt => ?_)
              rw [he0] at he
              cases he
              rw [up2_at, if_pos ⟨rfl, rfl⟩, hee, idxOf_getD hx.1 (by omega)]
      refine V.ildn 1 dX7_lays_73 rfl rfl ?_
      refine V.aldn 0 dX7_lays_74 rfl rfl ?_
      refine V.gf7_1 dX7_lays_75 f_X7_84 ?_
      refine V.top (y := nI n) (by rw [hS 1 (by decide)]; exact l3) ?_
      first | refine V.icmp_geN 125 dX7_lays_78 (by decide) (by omega) (by omega) (fun c78 => ?_) (fun c78 => ?_) | refine V.icmp_ge 125 dX7_lays_78 (by decide) (fun c78 => ?_) (fun c78 => ?_)
      · exact V.vreturn dX7_lays_125 rfl (by rw [← hQ]; exact ⟨m', rfl, rfl, hS, ⟨⟨by omega, (congrFun (hS 13 (by decide)) 0).trans l2, film_congr hS (isF_no (by decide)) l4, l5, hrow⟩, l6.ly hx hl, (congrFun (hS 1 (by decide)) 0).trans l3, fun s hs => h8 s (by omega)⟩, hnone⟩)
      · refine V.iconst (nI 0) dX7_lays_81 (by decide +kernel) ?_
        refine V.istn 2 dX7_lays_82 rfl (Nat.le_of_ble_eq_true rfl) ?_
        exact inner c78 _ 0 m' rfl (Nat.zero_le _) hS hrow hnone h8 (fun e _ h => absurd h (Nat.not_lt_zero _))
  have loop1 : ∀ (j k : Nat) (m' : Nat → Nat → Int32) (o2 : Option Value), nd - k = j → k ≤ nd → Sm [8, 16, 17] m m' → m' 8 = m 8 → (∀ d, d < k → rowM m' d (lyR R q d)) → V mX7_lays (dp + 1) 0 0 2 [some (.ref 45), some (.int (nI k)), o2] [] (HH f ro rs rw rb m') Q := by
    intro j
    induction j using Nat.strongRecOn with
    | _ j ih =>
      intro k m' o2 hj hk hS h8 hrow
      have inner : k < nd → ∀ (i c : Nat) (m' : Nat → Nat → Int32), 5 - c = i → c ≤ 5 → Sm [8, 16, 17] m m' → m' 8 = m 8 → (∀ d, d < k → rowM m' d (lyR R q d)) → m' 16 k = nI (R (q.getD k 0)).length → (∀ i, i < c → m' 17 (5 * k + i) = m 22 (5 * q.getD k 0 + i)) → V mX7_lays (dp + 1) 0 0 29 [some (.ref 45), some (.int (nI k)), some (.int (nI c))] [] (HH f ro rs rw rb m') Q := by
        intro hkn i
        induction i using Nat.strongRecOn with
        | _ i ih2 =>
          intro c m' hi hc hS h8 hrow h16 h17
          have hqk := hq k hkn
          obtain ⟨k1, k2, k3⟩ := l7 _ hqk
          refine V.ildn 2 dX7_lays_29 rfl rfl ?_
          refine V.iconst (nI 5) dX7_lays_30 (by decide +kernel) ?_
          first | refine V.icmp_geN 65 dX7_lays_31 (by decide) (by omega) (by omega) (fun c31 => ?_) (fun c31 => ?_) | refine V.icmp_ge 65 dX7_lays_31 (by decide) (fun c31 => ?_) (fun c31 => ?_)
          · refine V.iincN dX7_lays_65 rfl ?_
            refine V.goto 2 dX7_lays_68 (by decide) ?_
            refine ih _ (by omega) (k + 1) m' _ rfl (by omega) hS h8 (fun d hd => ?_)
            rcases Nat.lt_succ_iff_lt_or_eq.mp hd with z | z
            · exact hrow d z
            · rw [z]; exact ⟨h16, k2, fun i hi => ⟨(h17 i (by have hi : i < (R (q.getD k 0)).length := hi; omega)).trans (k3 i hi).1, (k3 i hi).2⟩⟩
          · refine V.aldn 0 dX7_lays_34 rfl rfl ?_
            refine V.gf7_17 dX7_lays_35 f_X7_53 ?_
            refine V.iconst (nI 5) dX7_lays_38 (by decide +kernel) ?_
            refine V.ildn 1 dX7_lays_39 rfl rfl ?_
            first | refine V.imulN dX7_lays_40 ?_ | refine V.imul dX7_lays_40 ?_
            refine V.ildn 2 dX7_lays_41 rfl rfl ?_
            first | refine V.iaddN dX7_lays_42 ?_ | refine V.iadd dX7_lays_42 ?_
            refine V.aldn 0 dX7_lays_43 rfl rfl ?_
            refine V.gf7_22 dX7_lays_44 f_X7_65 ?_
            refine V.iconst (nI 5) dX7_lays_47 (by decide +kernel) ?_
            refine V.aldn 0 dX7_lays_48 rfl rfl ?_
            refine V.gf7_25 dX7_lays_49 f_X7_74 ?_
            refine V.ildn 1 dX7_lays_52 rfl rfl ?_
            refine V.ald_67 dX7_lays_53 (ix_nI (by omega) (by decide)) ?_
            refine V.top (y := nI (q.getD k 0)) (by rw [hS 25 (by decide)]; exact hg k hkn) ?_
            first | refine V.imulN dX7_lays_54 ?_ | refine V.imul dX7_lays_54 ?_
            refine V.ildn 2 dX7_lays_55 rfl rfl ?_
            first | refine V.iaddN dX7_lays_56 ?_ | refine V.iadd dX7_lays_56 ?_
            refine V.ald_64 dX7_lays_57 (ix_nI (by omega) (by decide)) ?_
            refine V.top (y := m 22 (5 * q.getD k 0 + c)) (by rw [hS 22 (by decide)]) ?_
            refine V.ast_60 dX7_lays_58 (ix_nI (by omega) (by decide)) ?_
            first | refine V.iincN dX7_lays_59 rfl ?_ | refine V.iinc dX7_lays_59 rfl rfl ?_
            refine V.goto 29 dX7_lays_62 (by decide) ?_
            refine ih2 _ (by omega) (c + 1) _ rfl (by omega) (hS.up (by decide)) ((up2_ne (by decide)).trans h8) (fun d hd => rowM_congr (by rw [up2_at, if_neg (by omega)]) (fun i hi => by rw [up2_at, if_neg (by omega)]) (hrow d hd)) (by rw [up2_at, if_neg (by omega)]; exact h16) (fun i hi => ?_)
            rw [up2_at]
            split
            · rename_i z; rw [show i = c by omega]
            · rename_i z; exact h17 i (by omega)
      refine V.ildn 1 dX7_lays_2 rfl rfl ?_
      refine V.aldn 0 dX7_lays_3 rfl rfl ?_
      refine V.gf7_13 dX7_lays_4 f_X7_91 ?_
      refine V.top (y := nI nd) (by rw [hS 13 (by decide)]; exact l2) ?_
      first | refine V.icmp_geN 71 dX7_lays_7 (by decide) (by omega) (by omega) (fun c7 => ?_) (fun c7 => ?_) | refine V.icmp_ge 71 dX7_lays_7 (by decide) (fun c7 => ?_) (fun c7 => ?_)
      · obtain rfl : k = nd := by omega
        refine V.iconst (nI 0) dX7_lays_71 (by decide +kernel) ?_
        refine V.istn 1 dX7_lays_72 rfl (Nat.le_of_ble_eq_true rfl) ?_
        exact loop2 _ 0 m' _ rfl (Nat.zero_le _) hS hrow (fun s hs hn => by rw [h8]; exact l9 s hs hn) (fun s hs => absurd hs (Nat.not_lt_zero s))
      · have hqk := hq k c7
        refine V.aldn 0 dX7_lays_10 rfl rfl ?_
        refine V.gf7_16 dX7_lays_11 f_X7_50 ?_
        refine V.ildn 1 dX7_lays_14 rfl rfl ?_
        refine V.aldn 0 dX7_lays_15 rfl rfl ?_
        refine V.gf7_23 dX7_lays_16 f_X7_68 ?_
        refine V.aldn 0 dX7_lays_19 rfl rfl ?_
        refine V.gf7_25 dX7_lays_20 f_X7_74 ?_
        refine V.ildn 1 dX7_lays_23 rfl rfl ?_
        refine V.ald_67 dX7_lays_24 (ix_nI (by omega) (by decide)) ?_
        refine V.top (y := nI (q.getD k 0)) (by rw [hS 25 (by decide)]; exact hg k c7) ?_
        refine V.ald_65 dX7_lays_25 (ix_nI (by omega) (by decide)) ?_
        refine V.top (y := nI (R (q.getD k 0)).length) (by rw [hS 23 (by decide)]; exact (l7 _ hqk).1) ?_
        refine V.ast_59 dX7_lays_26 (ix_nI (by omega) (by decide)) ?_
        refine V.iconst (nI 0) dX7_lays_27 (by decide +kernel) ?_
        refine V.istn 2 dX7_lays_28 rfl (Nat.le_of_ble_eq_true rfl) ?_
        exact inner c7 5 0 _ (by omega) (by omega) (hS.up (by decide)) ((up2_ne (by decide)).trans h8) (fun d hd => rowM_congr (by rw [up2_at, if_neg (by omega)]) (fun i hi => by rw [up2_at, if_neg (by omega)]) (hrow d hd)) (by rw [up2_at, if_pos ⟨rfl, rfl⟩]) (fun i hi => absurd hi (Nat.not_lt_zero i))
  refine V.iconst (nI 0) dX7_lays_0 (by decide +kernel) ?_
  refine V.istn 1 dX7_lays_1 rfl (Nat.le_of_ble_eq_true rfl) ?_
  exact loop1 _ 0 m _ rfl (Nat.zero_le _) Sm.rf rfl (fun d hd => absurd hd (Nat.not_lt_zero d))
def BG (F : Nat → Nat → Int32) (nd : Nat) (R : Nat → List Nat) (m : Nat → Nat → Int32) (b : Option (List Nat)) : Prop := m 27 0 = bc F nd R b ∧ ∀ q, b = some q → PX nd q ∧ q.length = nd ∧ ∀ i, i < nd → m 26 i = nI (q.getD i 0)
theorem t_gives (hB : FB F) (hC : FC F) : ∀ (k : Nat) (m : Nat → Nat → Int32) (us : Nat → Bool) (uI : Int32) (pre : List Nat) (a : Nat) (b : Option (List Nat)), a = pre.length → a + k = nd → PX nd pre → (∀ i, i < nd → (us i = true ↔ i ∈ pre)) → (∀ i, i < nd → btB uI i = us i) → LX F n nd R D m → (∀ i, i < a → m 25 i = nI (pre.getD i 0)) → BG F nd R m b →
    Mt (dp + k + 7) 0 0 mX7_gives [.ref 45, .int (nI a), .int uI] (HH f ro rs rw rb m) (fun r h' => ∃ m', r = none ∧ h' = HH f ro rs rw rb m' ∧ Sm [8, 16, 17, 25, 26, 27] m m' ∧ LX F n nd R D m' ∧ (∀ i, i < a → m' 25 i = m 25 i) ∧ BG F nd R m' (tr nd (stG F n nd R D) k us pre b)) := by
  intro k
  induction k with
  | zero =>
    intro m us uI pre a b ha hak hpx hus hub hL hpre hBG
    refine Mt.of rfl rfl (Nat.le_of_ble_eq_true rfl) rfl ?_
    obtain rfl : a = nd := by omega
    have hnd6 := hL.1.1
    generalize hQ : (fun (r : Option Value) (h' : List AC) => ∃ m', r = none ∧ h' = HH f ro rs rw rb m' ∧ Sm [8, 16, 17, 25, 26, 27] m m' ∧ LX F n a R D m' ∧ (∀ i, i < a → m' 25 i = m 25 i) ∧ BG F a R m' (tr a (stG F n a R D) 0 us pre b)) = Q
    have rest : ∀ (m1 : Nat → Nat → Int32), Sm [8, 16, 17] m m1 → MS F n a (lyR R pre) (lyD D pre) m1 → (∀ s, s < n → D s = none → m1 8 s = -1) → V mX7_gives (dp + 0 + 7) 0 0 12 [some (.ref 45), some (.int (nI a)), some (.int uI), none] [] (HH f ro rs rw rb m1) Q := by
      intro m1 hS1 hM1 hn1
      have hL1 := hL.sm (hS1.wk (by decide)) hn1
      have h25 : ∀ i, i < a → m1 25 i = m 25 i := fun i _ => congrFun (hS1 25 (by decide)) i
      have hBG1 : BG F a R m1 b := ⟨(congrFun (hS1 27 (by decide)) 0).trans hBG.1, fun q hq => ⟨(hBG.2 q hq).1, (hBG.2 q hq).2.1, fun i hi => (congrFun (hS1 26 (by decide)) i).trans ((hBG.2 q hq).2.2 i hi)⟩⟩
      have stay : ¬ (dB (KP F n a (lyR R pre) (lyD D pre)) = true ∧ (b = none ∨ costC F a (lyR R pre) < bc F a R b)) → Q none (HH f ro rs rw rb m1) := by
        intro hno
        rw [← hQ]
        refine ⟨m1, rfl, rfl, hS1.wk (by decide), hL1, h25, ?_⟩
        show BG F a R m1 (stG F n a R D pre b)
        rw [stG, if_neg hno]
        exact hBG1
      have hcb : ∀ q, b = some q → ¬ bc F a R b = -1 := by
        intro q hq
        rw [hq]
        obtain ⟨q1, q2, -⟩ := hBG.2 q hq
        obtain ⟨c, hc, ec⟩ := cost_bd (nd := a) (R := lyR R q) hB hC hL.1.2.2.2.2.1 (by omega) (fun d hd => by have := hL.2.1 _ (q1.2 _ (getD_mem (l := q) (k := d) (by omega))); exact ⟨this.2.1, fun k hk => (this.2.2 k hk).2⟩)
        show ¬ costC F a (lyR R q) = -1
        rw [ec]
        exact nI_m1 (by omega)
      have upd : (dB (KP F n a (lyR R pre) (lyD D pre)) = true ∧ (b = none ∨ costC F a (lyR R pre) < bc F a R b)) → V mX7_gives (dp + 0 + 7) 0 0 39 [some (.ref 45), some (.int (nI a)), some (.int uI), none] [] (HH f ro rs rw rb m1) Q := by
        intro hyes
        have loop : ∀ (j i : Nat) (m' : Nat → Nat → Int32), a - i = j → i ≤ a → Sm [26, 27] m1 m' → m' 27 0 = costC F a (lyR R pre) → (∀ q, q < i → m' 26 q = nI (pre.getD q 0)) → V mX7_gives (dp + 0 + 7) 0 0 49 [some (.ref 45), some (.int (nI a)), some (.int uI), some (.int (nI i))] [] (HH f ro rs rw rb m') Q := by
          intro j
          induction j using Nat.strongRecOn with
          | _ j ih =>
            intro i m' hj hi hS h27 h26
            refine V.ildn 3 dX7_gives_49 rfl rfl ?_
            refine V.aldn 0 dX7_gives_50 rfl rfl ?_
            refine V.gf7_13 dX7_gives_51 f_X7_91 ?_
            refine V.top (y := nI a) (by rw [hS 13 (by decide)]; exact hL1.1.2.1) ?_
            first | refine V.icmp_geN 75 dX7_gives_54 (by decide) (by omega) (by omega) (fun c54 => ?_) (fun c54 => ?_) | refine V.icmp_ge 75 dX7_gives_54 (by decide) (fun c54 => ?_) (fun c54 => ?_)
            · exact V.vreturn dX7_gives_75 rfl (by rw [← hQ]; refine ⟨m', rfl, rfl, (hS1.wk (by decide)).tr (hS.wk (by decide)), hL1.sm (hS.wk (by decide)) (fun s hs hn => (congrFun (hS 8 (by decide)) s).trans (hn1 s hs hn)), fun i hi => (congrFun (hS 25 (by decide)) i).trans (h25 i hi), ?_⟩; show BG F a R m' (stG F n a R D pre b); rw [stG, if_pos hyes]; exact ⟨h27, fun q hq => by cases hq; exact ⟨hpx, ha.symm, fun i hi => h26 i (by omega)⟩⟩)
            · refine V.aldn 0 dX7_gives_57 rfl rfl ?_
              refine V.gf7_26 dX7_gives_58 f_X7_77 ?_
              refine V.ildn 3 dX7_gives_61 rfl rfl ?_
              refine V.aldn 0 dX7_gives_62 rfl rfl ?_
              refine V.gf7_25 dX7_gives_63 f_X7_74 ?_
              refine V.ildn 3 dX7_gives_66 rfl rfl ?_
              refine V.ald_67 dX7_gives_67 (ix_nI (by omega) (by decide)) ?_
              refine V.top (y := nI (pre.getD i 0)) (by rw [hS 25 (by decide), h25 i c54]; exact hpre i c54) ?_
              refine V.ast_68 dX7_gives_68 (ix_nI (by omega) (by decide)) ?_
              first | refine V.iincN dX7_gives_69 rfl ?_ | refine V.iinc dX7_gives_69 rfl rfl ?_
              refine V.goto 49 dX7_gives_72 (by decide) ?_
              refine ih _ (by omega) (i + 1) _ rfl (by omega) (hS.up (by decide)) (by rw [up2_at, if_neg (by omega)]; exact h27) (fun q hq => ?_)
              rw [up2_at]
              split
              · rename_i z; rw [z.2]
              · rename_i z; exact h26 q (by omega)
        refine V.aldn 0 dX7_gives_39 rfl rfl ?_
        refine V.aldn 0 dX7_gives_40 rfl rfl ?_
        refine V.cVi ((t_costAll hM1.1 : Mt (dp + 1 + 5) 0 0 _ _ _ _)) dX7_gives_41 k_X7_160 rfl rfl rfl (Nat.le_of_ble_eq_true rfl) rfl ?_
        refine V.pf7_27 dX7_gives_44 (fp_X7_201 rfl) ?_
        refine V.iconst (nI 0) dX7_gives_47 (by decide +kernel) ?_
        refine V.istn 3 dX7_gives_48 rfl (Nat.le_of_ble_eq_true rfl) ?_
        exact loop _ 0 _ rfl (Nat.zero_le _) (Sm.rf.up (by decide)) (by rw [up2_at, if_pos ⟨rfl, rfl⟩]) (fun q hq => absurd hq (Nat.not_lt_zero q))
      refine V.aldn 0 dX7_gives_12 rfl rfl ?_
      refine V.cVi ((t_keeps hM1.1 hM1.2.1 hM1.2.2 : Mt (dp + 3 + 3) 0 0 _ _ _ _)) dX7_gives_13 k_X7_94 rfl rfl rfl (Nat.le_of_ble_eq_true rfl) rfl ?_
      first | refine V.if_eqB 38 dX7_gives_16 (by decide) (fun c16 => ?_) (fun c16 => ?_) | refine V.if_eqN 38 dX7_gives_16 (by decide) (by omega) (fun c16 => ?_) (fun c16 => ?_) | refine V.if_eq 38 dX7_gives_16 (by decide) (fun c16 => ?_) (fun c16 => ?_)
      · exact V.vreturn dX7_gives_38 rfl (stay (fun q => by rw [c16] at q; cases q.1))
      · refine V.aldn 0 dX7_gives_19 rfl rfl ?_
        refine V.gf7_27 dX7_gives_20 f_X7_201 ?_
        refine V.top hBG1.1 ?_
        refine V.iconst (-1) dX7_gives_23 (by decide +kernel) ?_
        refine V.icmp_eq 39 dX7_gives_24 (by decide) (fun c24 => ?_) (fun c24 => ?_)
        · exact upd ⟨c16, Or.inl (by cases hb : b with | none => rfl | some q => exact absurd c24 (hcb q hb))⟩
        · refine V.aldn 0 dX7_gives_27 rfl rfl ?_
          refine V.cVi ((t_costAll hM1.1 : Mt (dp + 1 + 5) 0 0 _ _ _ _)) dX7_gives_28 k_X7_160 rfl rfl rfl (Nat.le_of_ble_eq_true rfl) rfl ?_
          refine V.aldn 0 dX7_gives_31 rfl rfl ?_
          refine V.gf7_27 dX7_gives_32 f_X7_201 ?_
          refine V.top hBG1.1 ?_
          refine V.icmp_lt 39 dX7_gives_35 (by decide) (fun c35 => ?_) (fun c35 => ?_)
          · exact upd ⟨c16, Or.inr c35⟩
          · exact V.vreturn dX7_gives_38 rfl (stay (fun q => by rcases q.2 with z | z; exact c24 (by rw [z]; rfl); exact c35 z))
    refine V.ildn 1 dX7_gives_0 rfl rfl ?_
    refine V.aldn 0 dX7_gives_1 rfl rfl ?_
    refine V.gf7_13 dX7_gives_2 f_X7_91 ?_
    refine V.top hL.1.2.1 ?_
    first | refine V.icmp_neN 76 dX7_gives_5 (by decide) (by omega) (by omega) (fun c5 => ?_) (fun c5 => ?_) | refine V.icmp_ne 76 dX7_gives_5 (by decide) (fun c5 => ?_) (fun c5 => ?_)
    · exact absurd rfl c5
    · refine V.aldn 0 dX7_gives_8 rfl rfl ?_
      refine V.cVe (t_laysM (dp := dp + 5) hL hpx ha.symm hpre) dX7_gives_9 k_X7_198 rfl rfl rfl (Nat.le_of_ble_eq_true rfl) rfl ?_
      rintro _ _ ⟨m1, rfl, rfl, hS1, hM1, hn1⟩
      refine V.eqs (st' := []) rfl ?_
      exact rest m1 hS1 hM1 hn1
  | succ k IH =>
    intro m us uI pre a b ha hak hpx hus hub hL hpre hBG
    refine Mt.of rfl rfl (Nat.le_of_ble_eq_true rfl) rfl ?_
    have hnd6 := hL.1.1
    generalize hst : (fun (i : Nat) (b : Option (List Nat)) => if us i = true then b else tr nd (stG F n nd R D) k (fun j => us j || j == i) (pre ++ [i]) b) = g
    have hres : tr nd (stG F n nd R D) (k + 1) us pre b = fo g b nd := by rw [tr, hst]
    rw [hres]
    have hg : ∀ i b, g i b = if us i = true then b else tr nd (stG F n nd R D) k (fun j => us j || j == i) (pre ++ [i]) b := fun i b => by rw [← hst]
    generalize hQ : (fun (r : Option Value) (h' : List AC) => ∃ m', r = none ∧ h' = HH f ro rs rw rb m' ∧ Sm [8, 16, 17, 25, 26, 27] m m' ∧ LX F n nd R D m' ∧ (∀ i, i < a → m' 25 i = m 25 i) ∧ BG F nd R m' (fo g b nd)) = Q
    have g1 : ∀ i, i ∉ pre → i < nd → ∀ j, j < nd → ((us j || j == i) = true ↔ j ∈ pre ++ [i]) := by
      intro i hnm hiz j hj
      rw [Bool.or_eq_true, hus j hj, List.mem_append]
      simp
    have g2 : ∀ i, i < nd → ∀ j, j < nd → btB (uI ||| (nI 1 <<< (nI i &&& 31))) j = (us j || j == i) := by
      intro i hi j hj
      rw [btB_set (by omega) (by omega), hub j hj]
    have g4 : ∀ (m' : Nat → Nat → Int32) i, (∀ j, j < a → m' 25 j = m 25 j) → ∀ q, q < a + 1 → up2 m' 25 a (nI i) 25 q = nI ((pre ++ [i]).getD q 0) := by
      intro m' i h q hq
      rw [up2_at]
      by_cases e : q = a
      · subst e
        rw [if_pos ⟨rfl, rfl⟩]
        congr 1
        rw [List.getD_eq_getElem?_getD, List.getElem?_append_right (by omega), ha]
        simp
      · rw [if_neg (by omega), h _ (by omega), hpre q (by omega)]
        congr 1
        rw [List.getD_eq_getElem?_getD, List.getD_eq_getElem?_getD, List.getElem?_append_left (by omega)]
    have g5 : ∀ (m' : Nat → Nat → Int32) i b, BG F nd R m' b → BG F nd R (up2 m' 25 a (nI i)) b := by
      intro m' i b h
      refine ⟨by rw [up2_at, if_neg (by omega)]; exact h.1, fun r hr => ⟨(h.2 r hr).1, (h.2 r hr).2.1, fun q hq => by rw [up2_at, if_neg (by omega)]; exact (h.2 r hr).2.2 q hq⟩⟩
    have loop : ∀ (j i : Nat) (m' : Nat → Nat → Int32), nd - i = j → i ≤ nd → Sm [8, 16, 17, 25, 26, 27] m m' → LX F n nd R D m' → (∀ i, i < a → m' 25 i = m 25 i) → BG F nd R m' (fo g b i) → V mX7_gives (dp + (k + 1) + 7) 0 0 78 [some (.ref 45), some (.int (nI a)), some (.int uI), some (.int (nI i))] [] (HH f ro rs rw rb m') Q := by
      intro j
      induction j using Nat.strongRecOn with
      | _ j ih =>
        intro i m' hj hi hS hL' h25 hB'
        refine V.ildn 3 dX7_gives_78 rfl rfl ?_
        refine V.aldn 0 dX7_gives_79 rfl rfl ?_
        refine V.gf7_13 dX7_gives_80 f_X7_91 ?_
        refine V.top hL'.1.2.1 ?_
        first | refine V.icmp_geN 123 dX7_gives_83 (by decide) (by omega) (by omega) (fun c83 => ?_) (fun c83 => ?_) | refine V.icmp_ge 123 dX7_gives_83 (by decide) (fun c83 => ?_) (fun c83 => ?_)
        · exact V.vreturn dX7_gives_123 rfl (by rw [← hQ]; obtain rfl : i = nd := (by omega); exact ⟨m', rfl, rfl, hS, hL', h25, hB'⟩)
        · refine V.ildn 2 dX7_gives_86 rfl rfl ?_
          refine V.ildn 3 dX7_gives_87 rfl rfl ?_
          refine V.ishr dX7_gives_88 ?_
          refine V.iconst (nI 1) dX7_gives_89 (by decide +kernel) ?_
          refine V.iand dX7_gives_90 ?_
          refine V.iconst (nI 1) dX7_gives_91 (by decide +kernel) ?_
          refine V.icmp_ne 98 dX7_gives_92 (by decide) (fun c92 => ?_) (fun c92 => ?_)
          · have hui : ¬ us i = true := fun q => c92 (of_decide_eq_true (by rw [← hub i (by omega)] at q; exact q))
            have hnm : i ∉ pre := fun q => hui ((hus i (by omega)).mpr q)
            refine V.aldn 0 dX7_gives_98 rfl rfl ?_
            refine V.gf7_25 dX7_gives_99 f_X7_74 ?_
            refine V.ildn 1 dX7_gives_102 rfl rfl ?_
            refine V.ildn 3 dX7_gives_103 rfl rfl ?_
            refine V.ast_67 dX7_gives_104 (ix_nI (by omega) (by decide)) ?_
            refine V.aldn 0 dX7_gives_105 rfl rfl ?_
            refine V.ildn 1 dX7_gives_106 rfl rfl ?_
            refine V.iconst (nI 1) dX7_gives_107 (by decide +kernel) ?_
            first | refine V.iaddN dX7_gives_108 ?_ | refine V.iadd dX7_gives_108 ?_
            refine V.ildn 2 dX7_gives_109 rfl rfl ?_
            refine V.iconst (nI 1) dX7_gives_110 (by decide +kernel) ?_
            refine V.ildn 3 dX7_gives_111 rfl rfl ?_
            refine V.ishl dX7_gives_112 ?_
            refine V.ior dX7_gives_113 ?_
            refine V.cVe (IH (up2 m' 25 a (nI i)) (fun j => us j || j == i) _ (pre ++ [i]) (a + 1) (fo g b i) (by rw [List.length_append]; simp; exact ha) (by omega) (hpx.add (by omega) hnm) (g1 i hnm (by omega)) (g2 i (by omega)) (hL'.sm (Sm.rf.up (by decide)) (fun s hs hn => by rw [up2_at, if_neg (by omega)]; exact hL'.2.2.2 s hs hn)) (g4 m' i h25) (g5 m' i _ hB')) dX7_gives_114 k_X7_204 rfl rfl rfl (Nat.le_of_ble_eq_true rfl) rfl ?_
            rintro _ _ ⟨m2, rfl, rfl, hS2, hL2, h252, hB2⟩
            refine V.eqs (st' := []) rfl ?_
            refine V.iincN dX7_gives_117 rfl ?_
            refine V.goto 78 dX7_gives_120 (by decide) ?_
            refine ih _ (by omega) (i + 1) m2 rfl (by omega) ((hS.up (by decide)).tr hS2) hL2 (fun q hq => by rw [h252 q (by omega), up2_at, if_neg (by omega)]; exact h25 q hq) ?_
            show BG F nd R m2 (g i (fo g b i))
            rw [hg, if_neg hui]
            exact hB2
          · have hui : us i = true := by rw [← hub i (by omega)]; exact decide_eq_true c92
            refine V.goto 117 dX7_gives_95 (by decide) ?_
            refine V.iincN dX7_gives_117 rfl ?_
            refine V.goto 78 dX7_gives_120 (by decide) ?_
            refine ih _ (by omega) (i + 1) m' rfl (by omega) hS hL' h25 ?_
            show BG F nd R m' (g i (fo g b i))
            rw [hg, if_pos hui]
            exact hB'
    refine V.ildn 1 dX7_gives_0 rfl rfl ?_
    refine V.aldn 0 dX7_gives_1 rfl rfl ?_
    refine V.gf7_13 dX7_gives_2 f_X7_91 ?_
    refine V.top hL.1.2.1 ?_
    first | refine V.icmp_neN 76 dX7_gives_5 (by decide) (by omega) (by omega) (fun c5 => ?_) (fun c5 => ?_) | refine V.icmp_ne 76 dX7_gives_5 (by decide) (fun c5 => ?_) (fun c5 => ?_)
    · refine V.iconst (nI 0) dX7_gives_76 (by decide +kernel) ?_
      refine V.istn 3 dX7_gives_77 rfl (Nat.le_of_ble_eq_true rfl) ?_
      exact loop _ 0 m rfl (Nat.zero_le _) Sm.rf hL (fun _ _ => rfl) hBG
    · exact absurd c5 (by omega)
end MODEL
