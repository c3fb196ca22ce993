/-! a scene taken; bettering is one thing only -/
section TAKE
variable {F : Nat → Nat → Int32} {n nd : Nat} {R : Nat → List Nat} {D : Nat → Option Nat}
def uN (F : Nat → Nat → Int32) (s : Nat) : Nat := (F 12 (pl F s)).toNatClampNeg
theorem uN_bd (hB : FB F) (hp : PlV F) {s : Nat} (hs : s < 20) : uN F s ≤ 120 ∧ F 12 (pl F s) = nI (uN F s) := by
  obtain ⟨w, h1, h2⟩ := hB.2 _ (hp s hs).2
  unfold uN
  rw [h2, nI_clamp (by omega)]
  exact ⟨h1, rfl⟩
theorem wyN_abs (hB : FB F) (hp : PlV F) {a b : Nat} (ha : a < 20) (hb : b < 20) : wyN F a b = if uN F a ≤ uN F b then uN F b - uN F a else uN F a - uN F b := by
  obtain ⟨a1, a2⟩ := uN_bd hB hp ha
  obtain ⟨b1, b2⟩ := uN_bd hB hp hb
  rw [wyN, wy, a2, b2, dst_nI (by omega) (by omega), nI_clamp (by split <;> omega)]
  split <;> omega
theorem tri (hB : FB F) (hp : PlV F) {a b c : Nat} (ha : a < 20) (hb : b < 20) (hc : c < 20) : wyN F a c ≤ wyN F a b + wyN F b c := by
  rw [wyN_abs hB hp ha hc, wyN_abs hB hp ha hb, wyN_abs hB hp hb hc]
  repeat' split
  all_goals omega
def wlf (F : Nat → Nat → Int32) : Nat → List Nat → Nat
  | _, [] => 0
  | a, b :: r => wyN F a b + wlf F b r
def wl0 (F : Nat → Nat → Int32) : List Nat → Nat
  | [] => 0
  | a :: r => wlf F a r
theorem wN_shift {a : Nat} {l : List Nat} : ∀ k, wN F (a :: l) (k + 2) = wyN F a (l.getD 0 0) + wN F l (k + 1)
  | 0 => by
    rw [wN, wN, wN, wN, wN]
    simp
  | k + 1 => by
    show wN F (a :: l) (k + 2) + (if k + 2 = 0 then 0 else wyN F ((a :: l).getD (k + 1) 0) ((a :: l).getD (k + 2) 0)) = wyN F a (l.getD 0 0) + (wN F l (k + 1) + (if k + 1 = 0 then 0 else wyN F (l.getD k 0) (l.getD (k + 1) 0)))
    rw [wN_shift k, if_neg (show ¬ k + 2 = 0 by omega), if_neg (show ¬ k + 1 = 0 by omega), List.getD_cons_succ, List.getD_cons_succ]
    omega
theorem wN_wlf : ∀ {r : List Nat} {a : Nat}, wN F (a :: r) (r.length + 1) = wlf F a r
  | [], a => rfl
  | b :: r, a => by
    rw [List.length_cons, wN_shift, wN_wlf]
    rfl
theorem wN_wl (l : List Nat) : wN F l l.length = wl0 F l := by
  cases l with
  | nil => rfl
  | cons a r => exact wN_wlf
theorem wlf_tri (hB : FB F) (hp : PlV F) {a b : Nat} (ha : a < 20) (hb : b < 20) {r : List Nat} (hr : ∀ x, x ∈ r → x < 20) : wlf F a r ≤ wyN F a b + wlf F b r := by
  cases r with
  | nil => exact Nat.zero_le _
  | cons c r =>
    have := tri hB hp ha hb (hr c List.mem_cons_self)
    show wyN F a c + wlf F c r ≤ wyN F a b + (wyN F b c + wlf F c r)
    omega
theorem wlf_erase (hB : FB F) (hp : PlV F) (s : Nat) : ∀ {l : List Nat} {a : Nat}, a < 20 → (∀ x, x ∈ l → x < 20) → wlf F a (l.erase s) ≤ wlf F a l
  | [], _, _, _ => Nat.le_refl _
  | b :: r, a, ha, hl => by
    have hb := hl b List.mem_cons_self
    have hr : ∀ x, x ∈ r → x < 20 := fun x hx => hl x (List.mem_cons_of_mem _ hx)
    by_cases e : b = s
    · subst e
      rw [List.erase_cons_head]
      exact wlf_tri hB hp ha hb hr
    · rw [List.erase_cons_tail (by simpa using e)]
      have := wlf_erase hB hp s hb hr
      show wyN F a b + wlf F b (r.erase s) ≤ wyN F a b + wlf F b r
      omega
theorem wl_erase (hB : FB F) (hp : PlV F) (s : Nat) {l : List Nat} (hl : ∀ x, x ∈ l → x < 20) : wl0 F (l.erase s) ≤ wl0 F l := by
  cases l with
  | nil => exact Nat.le_refl _
  | cons a r =>
    have ha := hl a List.mem_cons_self
    have hr : ∀ x, x ∈ r → x < 20 := fun x hx => hl x (List.mem_cons_of_mem _ hx)
    by_cases e : a = s
    · subst e
      rw [List.erase_cons_head]
      cases r with
      | nil => exact Nat.zero_le _
      | cons c r => show wlf F c r ≤ wyN F a c + wlf F c r; omega
    · rw [List.erase_cons_tail (by simpa using e)]
      exact wlf_erase hB hp s ha hr
theorem sum_erase {g : Nat → Nat} {s : Nat} : ∀ {l : List Nat}, ((l.erase s).map g).sum ≤ (l.map g).sum
  | [] => Nat.le_refl _
  | b :: r => by
    by_cases e : b = s
    · subst e
      rw [List.erase_cons_head, List.map_cons, List.sum_cons]
      omega
    · rw [List.erase_cons_tail (by simpa using e), List.map_cons, List.sum_cons, List.map_cons, List.sum_cons]
      have := sum_erase (g := g) (s := s) (l := r)
      omega
theorem mem20 {l : List Nat} (hl : ∀ x, x ∈ l → x < 20) : ∀ i, i < l.length → l.getD i 0 < 20 := fun i hi => hl _ (getD_mem hi)
theorem mN_bd (hB : FB F) {s : Nat} (hs : s < 20) : mN F s ≤ 300 := by
  obtain ⟨a, h1, h2⟩ := hB.1 s hs
  rw [mN, h2, nI_clamp (by omega)]
  exact h1
theorem mins_erase (hB : FB F) (hp : PlV F) (s : Nat) {l : List Nat} (h5 : l.length ≤ 5) (hl : ∀ x, x ∈ l → x < 20) : mins F (l.erase s) ≤ mins F l := by
  have hl' : ∀ x, x ∈ l.erase s → x < 20 := fun x hx => hl x (List.mem_of_mem_erase hx)
  have h5' : (l.erase s).length ≤ 5 := Nat.le_trans List.length_erase_le h5
  have a1 := wN_bd F l l.length
  have a2 := wN_bd F (l.erase s) (l.erase s).length
  have b1 := sum_bd (g := mN F) (B := 300) (l := l) (fun x hx => mN_bd hB (hl x hx))
  have b2 := sum_bd (g := mN F) (B := 300) (l := l.erase s) (fun x hx => mN_bd hB (hl' x hx))
  rw [mins_nI hB hp (mem20 hl'), mins_nI hB hp (mem20 hl), nI_leI (by omega) (by omega), wN_wl, wN_wl]
  have := wl_erase hB hp s hl
  have := sum_erase (g := mN F) (s := s) (l := l)
  omega
theorem sN_bd (hB : FB F) {s : Nat} (hs : s < 20) : sN F s ≤ 300 := by
  have := mN_bd hB hs
  unfold sN
  split
  · exact this
  · omega
theorem sunm_erase (hB : FB F) (s : Nat) {l : List Nat} (h5 : l.length ≤ 5) (hl : ∀ x, x ∈ l → x < 20) : sunm F (l.erase s) ≤ sunm F l := by
  have hl' : ∀ x, x ∈ l.erase s → x < 20 := fun x hx => hl x (List.mem_of_mem_erase hx)
  have h5' : (l.erase s).length ≤ 5 := Nat.le_trans List.length_erase_le h5
  have b1 := sum_bd (g := sN F) (B := 300) (l := l) (fun x hx => sN_bd hB (hl x hx))
  have b2 := sum_bd (g := sN F) (B := 300) (l := l.erase s) (fun x hx => sN_bd hB (hl' x hx))
  rw [sunm_nI hB (mem20 hl'), sunm_nI hB (mem20 hl), nI_leI (by omega) (by omega)]
  exact sum_erase
theorem hasL_erase {s : Nat} {l : List Nat} {v : Int32} (h : hasL F (l.erase s) v = true) : hasL F l v = true := by
  rw [hasL, List.any_eq_true] at h ⊢
  obtain ⟨x, h1, h2⟩ := h
  exact ⟨x, List.mem_of_mem_erase h1, h2⟩
theorem ordr_pw {l : List Nat} : ordr F l ↔ l.Pairwise (fun x y => btB (F 7 x) y = false) ∧ ∀ x, x ∈ l → btB (F 7 x) x = false := by
  have g : ∀ i (h : i < l.length), l.getD i 0 = l[i] := fun i h => by rw [List.getD_eq_getElem?_getD, List.getElem?_eq_getElem h]; rfl
  constructor
  · intro h
    refine ⟨List.pairwise_iff_getElem.mpr (fun i j hi hj hij => ?_), fun x hx => ?_⟩
    · cases q : btB (F 7 l[i]) l[j] with
      | false => rfl
      | true => have := h i j hi hj (by rw [g i hi, g j hj]; exact q); omega
    · obtain ⟨i, hi, rfl⟩ := mem_getD hx
      cases q : btB (F 7 (l.getD i 0)) (l.getD i 0) with
      | false => rfl
      | true => have := h i i hi hi q; omega
  · rintro ⟨h1, h2⟩ i j hi hj hb
    rcases Nat.lt_trichotomy j i with e | e | e
    · exact e
    · subst e; rw [h2 _ (getD_mem hj)] at hb; cases hb
    · have := List.pairwise_iff_getElem.mp h1 i j hi hj e
      rw [g i hi, g j hj, this] at hb
      cases hb
theorem KP.take (hF : GF F n) (hD : DR n nd R D) (h5 : ∀ d, d < nd → (R d).length ≤ 5) (hK : KP F n nd R D) {s d : Nat} (hs : s < n) (hd : D s = some d) : KP F n nd (upR R d ((R d).erase s)) (upD D s none) := by
  obtain ⟨hN, hm, hB, hp, -⟩ := hF
  have hdn := (hD.2.1 s d hs hd).1
  have hD' := hD.take hs hd
  have hl : ∀ x, x ∈ R d → x < 20 := fun x hx => by have := hD.lt hdn x hx; have := hD.1; omega
  have ho := kp_ordr hN hm hB hD h5 hK hdn
  have ho' : ordr F ((R d).erase s) := by
    rw [ordr_pw] at ho ⊢
    exact ⟨ho.1.sublist List.erase_sublist, fun x hx => ho.2 x (List.mem_of_mem_erase hx)⟩
  have hle5 : ((R d).erase s).length ≤ 5 := Nat.le_trans List.length_erase_le (h5 d hdn)
  have hrow : ∀ e v, hasL F (upR R d ((R d).erase s) e) v = true → hasL F (R e) v = true := by
    intro e v h
    by_cases q : e = d
    · subst q; rw [upR_s] at h; exact hasL_erase h
    · rw [upR_n q] at h; exact h
  refine ⟨fun e he => ?_, fun t ht htd a ha hb da ds h1 h2 => ?_⟩
  · obtain ⟨k1, k2, k3⟩ := hK.1 e he
    refine ⟨?_, ?_, fun q1 q2 => ?_⟩
    · by_cases q : e = d
      · subst q; rw [upR_s]; exact Int32.le_trans (mins_erase hB hp s (h5 e he) hl) k1
      · rw [upR_n q]; exact k1
    · by_cases q : e = d
      · subst q; rw [upR_s]; exact Int32.le_trans (sunm_erase hB s (h5 e he) hl) k2
      · rw [upR_n q]; exact k2
    · have := k3 q1 (hrow e _ q2)
      cases h : hasL F (upR R d ((R d).erase s) (e + 1)) (nI 1) with
      | false => rfl
      | true => rw [hrow _ _ h] at this; cases this
  · have et : t ≠ s := fun e => by rw [e, upD_s] at htd; exact htd rfl
    have ea : a ≠ s := fun e => by rw [e, upD_s] at h1; cases h1
    have g1 := h1
    have g2 := h2
    rw [upD_n et] at htd h2
    rw [upD_n ea] at h1
    rcases hK.2 t ht htd a ha hb da ds h1 h2 with q | ⟨q1, q2⟩
    · exact Or.inl q
    · subst q1
      refine Or.inr ⟨rfl, ?_⟩
      by_cases q : da = d
      · subst q
        have e1 := (hD'.2.1 t da ht g2).2
        have e2 := (hD'.2.1 a da ha g1).2
        exact (ordr_ixo hN hD' hdn (by rw [upR_s]; exact hle5)).mp (by rw [upR_s]; exact ho') t a e1 e2 hb
      · rw [upR_n q]; exact q2
theorem JV.take (h : JV F n nd R D) {s d : Nat} (hs : s < n) (hd : D s = some d) : JV F n nd (upR R d ((R d).erase s)) (upD D s none) := by
  obtain ⟨hG, hO, hK, hE⟩ := h
  have hdn := (hG.2.2.1.2.1 s d hs hd).1
  exact ⟨hG.take hs hd, hO, hK.take hG.1 hG.2.2.1 hG.2.2.2 hs hd, fun e he => by rw [upR_n (by omega)]; exact hE e he⟩
theorem JV.put (h : JV F n nd R D) {s d : Nat} {r : List Nat} (hs : s < n) (hds : D s = none) (hd : d < nd) (hr : putO F n nd R D s d = some r) : JV F n nd (upR R d r) (upD D s (some d)) := by
  obtain ⟨hG, hO, hK, hE⟩ := h
  have := putO_kp (F := F) (n := n) (nd := nd) (R := R) (D := D) (s := s) (d := d) (by rw [hr]; rfl)
  rw [hr] at this
  exact ⟨hG.put hs hds hd hr, hO, this, fun e he => by rw [upR_n (by omega)]; exact hE e he⟩
theorem JV.rTf (h : JV F n nd R D) {d : Nat} : ∀ k, k ≤ n → JV F n nd (fo (rT F d) (R, D, 0) k).1 (fo (rT F d) (R, D, 0) k).2.1
  | 0, _ => h
  | k + 1, hk => by
    have ih := JV.rTf h (d := d) k (by omega)
    show JV F n nd (rT F d k (fo (rT F d) (R, D, 0) k)).1 (rT F d k (fo (rT F d) (R, D, 0) k)).2.1
    generalize fo (rT F d) (R, D, 0) k = x at ih ⊢
    unfold rT
    split
    · rename_i q; exact ih.take (by omega) q.1
    · exact ih
theorem JV.rPf (h : JV F n nd R D) {d : Nat} (hd : d < nd) : ∀ k, k ≤ n → JV F n nd (fo (rP F n nd d) (R, D, 0) k).1 (fo (rP F n nd d) (R, D, 0) k).2.1
  | 0, _ => h
  | k + 1, hk => by
    have ih := JV.rPf h hd k (by omega)
    show JV F n nd (rP F n nd d k (fo (rP F n nd d) (R, D, 0) k)).1 (rP F n nd d k (fo (rP F n nd d) (R, D, 0) k)).2.1
    generalize fo (rP F n nd d) (R, D, 0) k = x at ih ⊢
    unfold rP
    split
    · rename_i q
      obtain ⟨r, hr⟩ := Option.isSome_iff_exists.mp q.2.2
      rw [hr]
      exact ih.put (by omega) q.1 hd hr
    · exact ih
theorem JV.bs (h : JV F n nd R D) {res : Bool} {R' : Nat → List Nat} {D' : Nat → Option Nat} (hb : BS F n nd R D res R' D') : JV F n nd R' D' := by
  rcases hb with ⟨s, d, e, s1, s2, s3, s4, s5, -, -, rfl, rfl⟩ | ⟨-, ⟨a, b, t1, t2, t3, -, -, rfl, rfl⟩ | ⟨-, -, rfl, rfl⟩⟩
  · obtain ⟨r, hr⟩ := Option.isSome_iff_exists.mp s5.1
    have := (h.take s1 s3).put s1 (upD_s D s none) s2 hr
    rw [mvR, mvD, hr]
    exact this
  · exact ⟨h.1.swp (by omega) t2, h.2.1, t3.1, fun e he => by show R (sw a b e) = []; rw [sw_n (by omega) (by omega)]; exact h.2.2.2 e he⟩
  · exact h
theorem JV.bit : ∀ {k : Nat} {R : Nat → List Nat} {D : Nat → Option Nat} {c : Nat} {R' : Nat → List Nat} {D' : Nat → Option Nat}, JV F n nd R D → BIt F n nd k R D c R' D' → JV F n nd R' D'
  | 0, _, _, _, _, _, h, hb => by obtain ⟨-, rfl, rfl⟩ := hb; exact h
  | k + 1, _, _, _, _, _, h, hb => by
    obtain ⟨res, R1, D1, h1, h2⟩ := hb
    have hJ := h.bs h1
    rcases h2 with ⟨-, c', -, h3⟩ | ⟨-, -, rfl, rfl⟩
    · exact JV.bit hJ h3
    · exact hJ
theorem BS.det {r1 r2 : Bool} {R1 R2 : Nat → List Nat} {D1 D2 : Nat → Option Nat} (h1 : BS F n nd R D r1 R1 D1) (h2 : BS F n nd R D r2 R2 D2) : r1 = r2 ∧ R1 = R2 ∧ D1 = D2 := by
  rcases h1 with ⟨s, d, e, s1, s2, s3, s4, s5, s6, rfl, rfl, rfl⟩ | ⟨s6, h1⟩
  · rcases h2 with ⟨s', d', e', s1', s2', s3', s4', s5', s6', rfl, rfl, rfl⟩ | ⟨s6', -⟩
    · have g : GM F n nd R D s d := ⟨e, s3, s4, s5⟩
      have g' : GM F n nd R D s' d' := ⟨e', s3', s4', s5'⟩
      have es : s = s' := by
        rcases Nat.lt_trichotomy s s' with z | z | z
        · exact absurd g (s6' s d s1 s2 (Or.inl z))
        · exact z
        · exact absurd g' (s6 s' d' s1' s2' (Or.inl z))
      subst es
      have ed : d = d' := by
        rcases Nat.lt_trichotomy d d' with z | z | z
        · exact absurd g (s6' s d s1 s2 (Or.inr ⟨rfl, z⟩))
        · exact z
        · exact absurd g' (s6 s d' s1' s2' (Or.inr ⟨rfl, z⟩))
      subst ed
      rw [s3] at s3'
      cases s3'
      exact ⟨rfl, rfl, rfl⟩
    · exact absurd ⟨e, s3, s4, s5⟩ (s6' s d s1 s2)
  · rcases h2 with ⟨s', d', e', s1', s2', s3', s4', s5', s6', rfl, rfl, rfl⟩ | ⟨s6', h2⟩
    · exact absurd ⟨e', s3', s4', s5'⟩ (s6 s' d' s1' s2')
    · rcases h1 with ⟨a, b, t1, t2, t3, t4, rfl, rfl, rfl⟩ | ⟨t4, rfl, rfl, rfl⟩
      · rcases h2 with ⟨a', b', t1', t2', t3', t4', rfl, rfl, rfl⟩ | ⟨t4', -⟩
        · have ea : a = a' := by
            rcases Nat.lt_trichotomy a a' with z | z | z
            · exact absurd t3 (t4' a b t1 t2 (Or.inl z))
            · exact z
            · exact absurd t3' (t4 a' b' t1' t2' (Or.inl z))
          subst ea
          have eb : b = b' := by
            rcases Nat.lt_trichotomy b b' with z | z | z
            · exact absurd t3 (t4' a b t1 t2 (Or.inr ⟨rfl, z⟩))
            · exact z
            · exact absurd t3' (t4 a b' t1' t2' (Or.inr ⟨rfl, z⟩))
          subst eb
          exact ⟨rfl, rfl, rfl⟩
        · exact absurd t3 (t4' a b t1 t2)
      · rcases h2 with ⟨a', b', t1', t2', t3', t4', rfl, rfl, rfl⟩ | ⟨t4', rfl, rfl, rfl⟩
        · exact absurd t3' (t4 a' b' t1' t2')
        · exact ⟨rfl, rfl, rfl⟩
theorem BIt.det : ∀ {k : Nat} {R : Nat → List Nat} {D : Nat → Option Nat} {c1 c2 : Nat} {R1 R2 : Nat → List Nat} {D1 D2 : Nat → Option Nat}, BIt F n nd k R D c1 R1 D1 → BIt F n nd k R D c2 R2 D2 → c1 = c2 ∧ R1 = R2 ∧ D1 = D2
  | 0, _, _, _, _, _, _, _, _, h1, h2 => by
    obtain ⟨rfl, rfl, rfl⟩ := h1
    obtain ⟨rfl, rfl, rfl⟩ := h2
    exact ⟨rfl, rfl, rfl⟩
  | k + 1, _, _, _, _, _, _, _, _, h1, h2 => by
    obtain ⟨r1, A1, B1, a1, a2⟩ := h1
    obtain ⟨r2, A2, B2, b1, b2⟩ := h2
    obtain ⟨rfl, rfl, rfl⟩ := a1.det b1
    rcases a2 with ⟨q1, c, rfl, a3⟩ | ⟨q1, rfl, rfl, rfl⟩
    · rcases b2 with ⟨q2, c', rfl, b3⟩ | ⟨q2, -⟩
      · obtain ⟨rfl, e1, e2⟩ := BIt.det a3 b3
        exact ⟨rfl, e1, e2⟩
      · rw [q1] at q2; cases q2
    · rcases b2 with ⟨q2, -⟩ | ⟨q2, rfl, rfl, rfl⟩
      · rw [q1] at q2; cases q2
      · exact ⟨rfl, rfl, rfl⟩
end TAKE
