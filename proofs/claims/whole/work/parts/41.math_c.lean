/-! the orders of the days, one behind the other -/
def lv (z : Nat) : Nat → (Nat → Bool) → List Nat → List (List Nat)
  | 0, _, pre => [pre]
  | k + 1, us, pre => (List.range z).flatMap (fun i => if us i = true then [] else lv z k (fun j => us j || j == i) (pre ++ [i]))
theorem fo_foldl {α : Type} (g : Nat → α → α) (b : α) : ∀ z, fo g b z = (List.range z).foldl (fun b i => g i b) b
  | 0 => rfl
  | z + 1 => by rw [List.range_succ, List.foldl_append]; show g z (fo g b z) = g z _; rw [fo_foldl g b z]
theorem tr_lv {β : Type} {z : Nat} {step : List Nat → β → β} : ∀ (k : Nat) (us : Nat → Bool) (pre : List Nat) (b : β), tr z step k us pre b = (lv z k us pre).foldl (fun b q => step q b) b
  | 0, us, pre, b => rfl
  | k + 1, us, pre, b => by
    rw [tr, lv, fo_foldl, List.foldl_flatMap]
    congr 1
    funext b i
    split
    · rfl
    · rw [tr_lv k]
def rF (t : Nat → Nat) : Nat → Nat
  | 0 => 0
  | r + 1 => if t (r + 1) < t r then rF t r else r + 1
def gF (t : Nat → Nat) (r : Nat) : Nat → Nat
  | 0 => 0
  | g + 1 => if r < g + 1 ∧ t (g + 1) < t r then gF t r g else g + 1
def swp (t : Nat → Nat) (a b : Nat) : Nat → Nat := fun i => if i = b then t a else if i = a then t b else t i
def rvF (t : Nat → Nat) (r nd : Nat) : Nat → (Nat → Nat)
  | 0 => t
  | k + 1 => swp (rvF t r nd k) (r + 1 + k) (nd - 1 - k)
def nxT (nd : Nat) (t : Nat → Nat) : Option (Nat → Nat) :=
  if rF t (nd - 1) = 0 then none else some (rvF (swp t (rF t (nd - 1) - 1) (gF t (rF t (nd - 1) - 1) (nd - 1))) (rF t (nd - 1) - 1) nd ((nd - 1 - (rF t (nd - 1) - 1)) / 2))
def nxL (nd : Nat) (q : List Nat) : Option (List Nat) := (nxT nd (fun i => q.getD i 0)).map (fun t => (List.range nd).map t)
def chk (nd : Nat) : List (List Nat) → Bool
  | [] => false
  | [q] => nxL nd q == none
  | q :: q' :: r => (nxL nd q == some q') && chk nd (q' :: r)
abbrev ps (nd : Nat) : List (List Nat) := lv nd nd (fun _ => false) []
theorem chk_all : ∀ nd, 1 ≤ nd → nd ≤ 6 → chk nd (ps nd) = true ∧ (ps nd).length ≤ 720 ∧ (ps nd).head? = some (List.range nd) := by
  intro nd h1 h2
  have : nd = 1 ∨ nd = 2 ∨ nd = 3 ∨ nd = 4 ∨ nd = 5 ∨ nd = 6 := by omega
  rcases this with rfl | rfl | rfl | rfl | rfl | rfl <;> exact ⟨by decide +kernel, by decide +kernel, by decide +kernel⟩
theorem lv_px {z : Nat} : ∀ (k : Nat) (us : Nat → Bool) (pre : List Nat), pre.length + k = z → PX z pre → (∀ i, i < z → (us i = true ↔ i ∈ pre)) → ∀ q, q ∈ lv z k us pre → PX z q ∧ q.length = z
  | 0, us, pre, hl, hp, hu, q, hq => by
    rw [lv, List.mem_singleton] at hq
    subst hq
    exact ⟨hp, by omega⟩
  | k + 1, us, pre, hl, hp, hu, q, hq => by
    rw [lv, List.mem_flatMap] at hq
    obtain ⟨i, hi, hq⟩ := hq
    rw [List.mem_range] at hi
    split at hq
    · cases hq
    · rename_i hn
      have hnm : i ∉ pre := fun h => hn ((hu i hi).mpr h)
      refine lv_px k _ _ (by rw [List.length_append]; simp; omega) (hp.add hi hnm) (fun j hj => ?_) q hq
      rw [Bool.or_eq_true, hu j hj, List.mem_append]
      simp
theorem ps_px {nd : Nat} {q : List Nat} (h : q ∈ ps nd) : PX nd q ∧ q.length = nd := lv_px nd _ [] (by simp) ⟨List.nodup_nil, fun i hi => absurd hi List.not_mem_nil⟩ (fun i hi => by simp) q h
theorem chk_at {nd : Nat} : ∀ {dn : List (List Nat)} {q : List Nat} {rest : List (List Nat)}, chk nd (dn ++ q :: rest) = true → nxL nd q = rest.head?
  | [], q, [], h => by simpa [chk] using h
  | [], q, q' :: r, h => by
    have h : ((nxL nd q == some q') && chk nd (q' :: r)) = true := h
    rw [Bool.and_eq_true] at h
    simpa using h.1
  | [x], q, rest, h => by
    have h : ((nxL nd x == some q) && chk nd (q :: rest)) = true := h
    rw [Bool.and_eq_true] at h
    exact chk_at (dn := []) h.2
  | x :: y :: dn, q, rest, h => by
    have h : ((nxL nd x == some y) && chk nd (y :: dn ++ q :: rest)) = true := h
    rw [Bool.and_eq_true] at h
    exact chk_at (dn := y :: dn) h.2
theorem rF_le (t : Nat → Nat) : ∀ i, rF t i ≤ i
  | 0 => Nat.le_refl _
  | i + 1 => by
    rw [rF]; split
    · have := rF_le t i; omega
    · exact Nat.le_refl _
theorem gF_le (t : Nat → Nat) (r : Nat) : ∀ i, gF t r i ≤ i
  | 0 => Nat.le_refl _
  | i + 1 => by
    rw [gF]; split
    · have := gF_le t r i; omega
    · exact Nat.le_refl _
theorem map_range_getD {t : Nat → Nat} {nd i : Nat} (h : i < nd) : ((List.range nd).map t).getD i 0 = t i := by
  rw [List.getD_eq_getElem?_getD, List.getElem?_map, List.getElem?_range h]; rfl
theorem range_getD {nd i : Nat} (h : i < nd) : (List.range nd).getD i 0 = i := by
  rw [List.getD_eq_getElem?_getD, List.getElem?_range h]; rfl
section CONGR
variable {F : Nat → Nat → Int32} {n nd : Nat} {R R' : Nat → List Nat} {D D' : Nat → Option Nat}
theorem KP.congr (hD : DR n nd R D) (hR : ∀ d, d < nd → R' d = R d) (hDD : ∀ s, s < n → D' s = D s) (h : KP F n nd R D) : KP F n nd R' D' := by
  refine ⟨fun d hd => ?_, fun s hs hn a ha hb da ds h1 h2 => ?_⟩
  · obtain ⟨k1, k2, k3⟩ := h.1 d hd
    refine ⟨by rw [hR d hd]; exact k1, by rw [hR d hd]; exact k2, fun q => ?_⟩
    rw [hR d hd, hR _ q]
    exact k3 q
  · rw [hDD s hs] at hn h2
    rw [hDD a ha] at h1
    rw [hR da (hD.2.1 a da ha h1).1, hR ds (hD.2.1 s ds hs h2).1]
    exact h.2 s hs hn a ha hb da ds h1 h2
theorem DR.congr (hR : ∀ d, d < nd → R' d = R d) (hDD : ∀ s, s < n → D' s = D s) (h : DR n nd R D) : DR n nd R' D' := by
  obtain ⟨h0, h1, h2, h3⟩ := h
  refine ⟨h0, fun s d hs hd => ?_, fun s d hd hs => ?_, fun d hd => by rw [hR d hd]; exact h3 d hd⟩
  · rw [hDD s hs] at hd
    have := h1 s d hs hd
    exact ⟨this.1, by rw [hR d this.1]; exact this.2⟩
  · rw [hR d hd] at hs
    have := h2 s d hd hs
    exact ⟨this.1, by rw [hDD s this.1]; exact this.2⟩
theorem pdS_congr {pb pb' : Nat → Bool} {gap : Int32} : ∀ {k : Nat}, (∀ i, i < k → pb' i = pb i) → pdS pb' gap k = pdS pb gap k
  | 0, _ => rfl
  | k + 1, h => by rw [pdS, pdS, pdS_congr (fun i hi => h i (by omega)), h k (by omega)]
theorem cost_congr (hR : ∀ d, d < nd → R' d = R d) : costC F nd R' = costC F nd R := by
  have a : payC F nd R' = payC F nd R := sm_congr (fun p _ => by rw [pdS_congr (fun i hi => by rw [hR i hi])])
  have b : rentC F nd R' = rentC F nd R := sm_congr (fun d hd => by rw [hR d hd])
  have c : overC F nd R' = overC F nd R := sm_congr (fun d hd => by rw [hR d hd])
  rw [costC, costC, a, b, c]
theorem ly_id (hD : DR n nd R D) : (∀ d, d < nd → lyR R (List.range nd) d = R d) ∧ ∀ s, s < n → lyD D (List.range nd) s = D s := by
  refine ⟨fun d hd => by rw [lyR, range_getD hd], fun s hs => ?_⟩
  unfold lyD
  cases h : D s with
  | none => rfl
  | some e =>
    have he := (hD.2.1 s e hs h).1
    show some ((List.range nd).idxOf e) = some e
    have h9 := idxOf_getD (l := List.range nd) List.nodup_range (i := e) (by rw [List.length_range]; exact he)
    rw [range_getD he] at h9
    rw [h9]
end CONGR
