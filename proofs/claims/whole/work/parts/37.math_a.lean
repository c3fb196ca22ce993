/-! the class's word for 'keeps' is the reference's -/
def NA (F : Nat → Nat → Int32) (n : Nat) : Prop := ∃ rk : Nat → Nat, ∀ s a, s < 20 → a < 32 → btB (F 7 s) a = true → a < n ∧ s < n ∧ rk a < rk s
def PM (F : Nat → Nat → Int32) (n : Nat) : Prop := ∀ s, s < n → ∃ a, 1 ≤ a ∧ a ≤ 300 ∧ F 2 s = nI a
def ordr (F : Nat → Nat → Int32) (l : List Nat) : Prop := ∀ i j, i < l.length → j < l.length → btB (F 7 (l.getD i 0)) (l.getD j 0) = true → j < i
theorem btB_one {i j : Nat} (hi : i < 32) (hj : j < 32) : btB (nI 1 <<< (nI i &&& 31)) j = decide (j = i) := by rw [btB_bt hj, bt_one hi hj]
theorem tc_bit {l : List Nat} (hl : ∀ i, i < l.length → l.getD i 0 < 20) (hn : l.Nodup) {x : Nat} (hx : x < 32) : ∀ {i : Nat}, i ≤ l.length → (btB (tc l i) x = true ↔ ∃ j, i ≤ j ∧ j < l.length ∧ l.getD j 0 = x) := by
  intro i
  induction i with
  | zero =>
    intro _
    rw [tc, mbr_k hx (fun i hi => by have := hl i hi; omega)]
    constructor
    · rintro ⟨j, h1, h2⟩; exact ⟨j, by omega, h1, h2⟩
    · rintro ⟨j, h0, h1, h2⟩; exact ⟨j, h1, h2⟩
  | succ i ih =>
    intro hi
    have h20 := hl i (by omega)
    rw [tc, btB_and hx, btB_not hx, btB_one (by omega) hx, Bool.and_eq_true, ih (by omega), Bool.not_eq_true', decide_eq_false_iff_not]
    constructor
    · rintro ⟨⟨j, h0, h1, h2⟩, h3⟩
      refine ⟨j, ?_, h1, h2⟩
      rcases Nat.eq_or_lt_of_le h0 with e | e
      · rw [e] at h3; exact absurd h2.symm h3
      · exact e
    · rintro ⟨j, h0, h1, h2⟩
      exact ⟨⟨j, by omega, h1, h2⟩, fun e => by have := nodup_getD hn (i := i) (j := j) (by omega) h1 (by rw [← e, h2]); omega⟩
theorem inT_iff {F : Nat → Nat → Int32} {l : List Nat} (hl : ∀ i, i < l.length → l.getD i 0 < 20) (hn : l.Nodup) : inT F l ↔ ordr F l := by
  constructor
  · intro h i j hi hj hb
    have h2 := and_0.mp (h i hi) (l.getD j 0) (by have := hl j hj; omega)
    rcases Nat.lt_or_ge j i with e | e
    · exact e
    · exact absurd ⟨hb, (tc_bit hl hn (by have := hl j hj; omega) (by omega)).mpr ⟨j, e, hj, rfl⟩⟩ h2
  · intro h i hi
    refine and_0.mpr (fun x hx hb => ?_)
    obtain ⟨j, h0, h1, h2⟩ := (tc_bit hl hn hx (by omega)).mp hb.2
    have := h i j hi h1 (by rw [h2]; exact hb.1)
    omega
theorem ndr_bit {F : Nat → Nat → Int32} {l : List Nat} {x : Nat} (hx : x < 32) : ∀ {k : Nat}, (btB (ndr F l k) x = true ↔ ∃ i, i < k ∧ btB (F 7 (l.getD i 0)) x = true) := by
  intro k
  induction k with
  | zero => rw [ndr, btB_0 hx]; simp
  | succ k ih =>
    rw [ndr, btB_or hx, Bool.or_eq_true, ih]
    constructor
    · rintro (⟨i, h1, h2⟩ | h)
      · exact ⟨i, by omega, h2⟩
      · exact ⟨k, by omega, h⟩
    · rintro ⟨i, h1, h2⟩
      rcases Nat.lt_succ_iff_lt_or_eq.mp h1 with q | q
      · exact Or.inl ⟨i, q, h2⟩
      · exact Or.inr (by rw [← q]; exact h2)
theorem ltm_bit {R : Nat → List Nat} {nd x : Nat} (hx : x < 32) (hl : ∀ d, d < nd → ∀ i, i < (R d).length → (R d).getD i 0 < 20) : ∀ {k : Nat}, k ≤ nd → (btB (ltm R nd k) x = true ↔ ∃ e, nd - k ≤ e ∧ e < nd ∧ x ∈ R e) := by
  intro k
  induction k with
  | zero =>
    intro _
    rw [ltm, btB_0 hx]
    constructor
    · intro h; cases h
    · rintro ⟨e, h1, h2, -⟩; omega
  | succ k ih =>
    intro hk
    rw [ltm, btB_or hx, Bool.or_eq_true, ih (by omega), mbr_bit (hl _ (by omega)) hx]
    constructor
    · rintro (⟨i, h1, h2⟩ | h)
      · exact ⟨i, by omega, h2⟩
      · exact ⟨nd - 1 - k, by omega, by omega, h⟩
    · rintro ⟨e, h1, h2, h3⟩
      by_cases q : e = nd - 1 - k
      · exact Or.inr (by rw [← q]; exact h3)
      · exact Or.inl ⟨e, by omega, h2, h3⟩
def sN (F : Nat → Nat → Int32) (s : Nat) : Nat := if F 4 s = nI 1 then (F 2 s).toNatClampNeg else 0
theorem sn_nI {F : Nat → Nat → Int32} (hB : FB F) {l : List Nat} (hl : ∀ i, i < l.length → l.getD i 0 < 20) : ∀ {k : Nat}, k ≤ l.length → sn F l k = nI ((l.take k).map (sN F)).sum := by
  intro k
  induction k with
  | zero => intro _; rfl
  | succ k ih =>
    intro hk
    obtain ⟨a, ha, ea⟩ := hB.1 _ (hl k (by omega))
    have et : l.take (k + 1) = l.take k ++ [l.getD k 0] := by
      rw [List.take_succ, List.getD_eq_getElem?_getD, List.getElem?_eq_getElem (by omega)]
      rfl
    rw [sn, ih (by omega), et, List.map_append, List.sum_append, ← nI_add]
    congr 1
    simp only [List.map_cons, List.map_nil, List.sum_cons, List.sum_nil, Nat.add_zero, sN]
    split
    · rw [ea, nI_clamp (by omega)]
    · rfl
theorem sunm_nI {F : Nat → Nat → Int32} (hB : FB F) {l : List Nat} (hl : ∀ i, i < l.length → l.getD i 0 < 20) : sunm F l = nI (l.map (sN F)).sum := by
  rw [sunm, sn_nI hB hl (Nat.le_refl _), List.take_length]
theorem sum_bd {g : Nat → Nat} {B : Nat} : ∀ {l : List Nat}, (∀ x, x ∈ l → g x ≤ B) → (l.map g).sum ≤ B * l.length
  | [], _ => by simp
  | a :: l, h => by
    have h1 := sum_bd (l := l) (fun x hx => h x (List.mem_cons_of_mem _ hx))
    have h2 := h a List.mem_cons_self
    simp only [List.map_cons, List.sum_cons, List.length_cons, Nat.mul_add]
    omega
theorem sum_pos {g : Nat → Nat} : ∀ {l : List Nat}, (0 < (l.map g).sum ↔ ∃ x, x ∈ l ∧ 0 < g x)
  | [] => by simp
  | a :: l => by
    have h1 := sum_pos (g := g) (l := l)
    simp only [List.map_cons, List.sum_cons]
    constructor
    · intro h
      rcases Nat.eq_zero_or_pos (g a) with e | e
      · obtain ⟨x, h2, h3⟩ := h1.mp (by omega)
        exact ⟨x, List.mem_cons_of_mem _ h2, h3⟩
      · exact ⟨a, List.mem_cons_self, e⟩
    · rintro ⟨x, hx, h3⟩
      rcases List.mem_cons.mp hx with e | e
      · subst e; omega
      · have := h1.mpr ⟨x, e, h3⟩; omega
theorem lt_of_mem {l : List Nat} {n : Nat} (h : ∀ x, x ∈ l → x < n) (hn : n ≤ 20) : ∀ i, i < l.length → l.getD i 0 < 20 := fun i hi => by have := h _ (getD_mem hi); omega
theorem sun_pos {F : Nat → Nat → Int32} {n : Nat} (hB : FB F) (hm : PM F n) {l : List Nat} (hl : ∀ x, x ∈ l → x < n) (hn : n ≤ 20) (h5 : l.length ≤ 5) : (0 < sunm F l) ↔ hasL F l (nI 1) = true := by
  have hb : (l.map (sN F)).sum ≤ 300 * l.length := sum_bd (fun x hx => by
    obtain ⟨a, h1, h2, h3⟩ := hm x (hl x hx)
    unfold sN
    split
    · rw [h3, nI_clamp (by omega)]; exact h2
    · omega)
  rw [sunm_nI hB (lt_of_mem hl hn), ← nI_0, nI_ltI (by decide) (by omega), sum_pos, hasL, List.any_eq_true]
  constructor
  · rintro ⟨x, h1, h2⟩
    refine ⟨x, h1, ?_⟩
    unfold sN at h2
    split at h2
    · rename_i q; exact decide_eq_true q
    · omega
  · rintro ⟨x, h1, h2⟩
    refine ⟨x, h1, ?_⟩
    obtain ⟨a, q1, q2, q3⟩ := hm x (hl x h1)
    rw [sN, if_pos (of_decide_eq_true h2), q3, nI_clamp (by omega)]
    omega
section KP
variable {F : Nat → Nat → Int32} {n nd : Nat} {R : Nat → List Nat} {D : Nat → Option Nat}
theorem DR.lt (hD : DR n nd R D) {d : Nat} (hd : d < nd) : ∀ x, x ∈ R d → x < n := fun x hx => (hD.2.2.1 x d hd hx).1
theorem ixo_mem {l : List Nat} {s : Nat} (h : s ∈ l) : ixo l s = nI (l.idxOf s) := if_pos h
theorem ordr_ixo (hF : NA F n) (hD : DR n nd R D) {d : Nat} (hd : d < nd) (h5 : (R d).length ≤ 5) : ordr F (R d) ↔ ∀ s a, s ∈ R d → a ∈ R d → btB (F 7 s) a = true → ixo (R d) a ≤ ixo (R d) s := by
  obtain ⟨rk, hrk⟩ := hF
  have hnd := hD.2.2.2 d hd
  constructor
  · intro h s a hs ha hb
    rw [ixo_mem hs, ixo_mem ha]
    have h1 := List.idxOf_lt_length_of_mem hs
    have h2 := List.idxOf_lt_length_of_mem ha
    have := h ((R d).idxOf s) ((R d).idxOf a) h1 h2 (by rw [getD_idxOf hs, getD_idxOf ha]; exact hb)
    exact (nI_leI (by omega) (by omega)).mpr (by omega)
  · intro h i j hi hj hb
    have h1 := h _ _ (getD_mem hi) (getD_mem hj) hb
    rw [ixo_mem (getD_mem hi), ixo_mem (getD_mem hj), idxOf_getD hnd hi, idxOf_getD hnd hj, nI_leI (by omega) (by omega)] at h1
    rcases Nat.eq_or_lt_of_le h1 with e | e
    · rw [e] at hb
      have hlt := hD.lt hd _ (getD_mem hi)
      have := hrk _ _ (by have := hD.1; omega) (by have := hD.1; omega) hb
      omega
    · exact e
theorem kp_iff (hF : NA F n) (hm : PM F n) (hB : FB F) (hD : DR n nd R D) (h5 : ∀ d, d < nd → (R d).length ≤ 5) : (∀ d, d < nd → kday F nd R d) ↔ KP F n nd R D := by
  have hn := hD.1
  have h20 : ∀ d, d < nd → ∀ i, i < (R d).length → (R d).getD i 0 < 20 := fun d hd => lt_of_mem (hD.lt hd) hn
  have hdl : ∀ d, d < nd → (dln F nd R (d + 1) = true ↔ d + 1 < nd ∧ hasL F (R (d + 1)) (nI 1) = true) := by
    intro d hd
    rw [dln, Bool.and_eq_true, decide_eq_true_eq, decide_eq_true_eq]
    constructor
    · rintro ⟨h1, h2⟩; exact ⟨h1, (sun_pos hB hm (hD.lt h1) hn (h5 _ h1)).mp h2⟩
    · rintro ⟨h1, h2⟩; exact ⟨h1, (sun_pos hB hm (hD.lt h1) hn (h5 _ h1)).mpr h2⟩
  have hlt : ∀ d, d < nd → ((ndr F (R d) (R d).length &&& ltm R nd (nd - 1 - d)) = 0 ↔ ∀ s a e, s ∈ R d → d < e → e < nd → a ∈ R e → ¬ btB (F 7 s) a = true) := by
    intro d hd
    constructor
    · intro h s a e hs h1 h2 ha hb
      have ha20 := hD.lt h2 a ha
      refine and_0.mp h a (by omega) ⟨(ndr_bit (by omega)).mpr ?_, (ltm_bit (by omega) h20 (by omega)).mpr ⟨e, by omega, h2, ha⟩⟩
      obtain ⟨i, hi, rfl⟩ := mem_getD hs
      exact ⟨i, hi, hb⟩
    · intro h
      refine and_0.mpr (fun x hx hb => ?_)
      obtain ⟨i, hi, h1⟩ := (ndr_bit hx).mp hb.1
      obtain ⟨e, h2, h3, h4⟩ := (ltm_bit hx h20 (by omega)).mp hb.2
      exact h _ x e (getD_mem hi) (by omega) h3 h4 h1
  constructor
  · intro h
    refine ⟨fun d hd => ?_, fun s hs hsd a ha hb da ds hda hds => ?_⟩
    · obtain ⟨k1, k2, k3, k4, k5⟩ := h d hd
      refine ⟨k1, k2, fun q1 q2 => ?_⟩
      cases q3 : hasL F (R (d + 1)) (nI 1) with
      | false => rfl
      | true => exact absurd ⟨q2, (hdl d hd).mpr ⟨q1, q3⟩⟩ k4
    · have e1 := hD.2.1 s ds hs hds
      have e2 := hD.2.1 a da ha hda
      obtain ⟨k1, k2, k3, k4, k5⟩ := h ds e1.1
      rcases Nat.lt_trichotomy da ds with q | q | q
      · exact Or.inl q
      · subst q
        exact Or.inr ⟨rfl, (ordr_ixo hF hD e1.1 (h5 _ e1.1)).mp ((inT_iff (h20 _ e1.1) (hD.2.2.2 _ e1.1)).mp k3) s a e1.2 e2.2 hb⟩
      · exact absurd hb ((hlt ds e1.1).mp k5 s a da e1.2 q e2.1 e2.2)
  · rintro ⟨h, ho⟩ d hd
    obtain ⟨k1, k2, k3⟩ := h d hd
    have key : ∀ s a e, s ∈ R d → e < nd → a ∈ R e → btB (F 7 s) a = true → e < d ∨ (e = d ∧ ixo (R e) a ≤ ixo (R d) s) := by
      intro s a e hs he ha hb
      obtain ⟨x1, x2⟩ := hD.2.2.1 s d hd hs
      obtain ⟨y1, y2⟩ := hD.2.2.1 a e he ha
      exact ho s x1 (by rw [x2]; simp) a y1 hb e d y2 x2
    refine ⟨k1, k2, ?_, fun q => ?_, ?_⟩
    · refine (inT_iff (h20 d hd) (hD.2.2.2 d hd)).mpr ((ordr_ixo hF hD hd (h5 d hd)).mpr (fun s a hs ha hb => ?_))
      rcases key s a d hs hd ha hb with q | q
      · omega
      · exact q.2
    · obtain ⟨q1, q2⟩ := (hdl d hd).mp q.2
      rw [k3 q1 q.1] at q2
      cases q2
    · refine (hlt d hd).mpr (fun s a e hs h1 h2 ha hb => ?_)
      rcases key s a e hs h2 ha hb with q | q <;> omega
end KP
