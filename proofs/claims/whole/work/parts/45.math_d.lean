/-! what a changed film leaves as it was -/
section FILM
variable {F F' : Nat → Nat → Int32} {n nd : Nat} {R : Nat → List Nat} {D : Nat → Option Nat} {l : List Nat}
theorem wy_film {a b : Nat} (ha : F' 3 a = F 3 a) (hb : F' 3 b = F 3 b) (h12 : F' 12 = F 12) : wy F' a b = wy F a b := by unfold wy pl; rw [ha, hb, h12]
theorem mn_film (h : ∀ x, x ∈ l → F' 2 x = F 2 x ∧ F' 3 x = F 3 x) (h12 : F' 12 = F 12) : ∀ {k : Nat}, k ≤ l.length → mn F' l k = mn F l k := by
  intro k
  induction k with
  | zero => intro _; rfl
  | succ k ih =>
    intro hk
    rw [mn, mn, ih (by omega), (h _ (getD_mem (show k < l.length by omega))).1, wy_film (h _ (getD_mem (show k - 1 < l.length by omega))).2 (h _ (getD_mem (show k < l.length by omega))).2 h12]
theorem mins_film (h : ∀ x, x ∈ l → F' 2 x = F 2 x ∧ F' 3 x = F 3 x) (h12 : F' 12 = F 12) : mins F' l = mins F l := mn_film h h12 (Nat.le_refl _)
theorem sn_film (h : ∀ x, x ∈ l → F' 2 x = F 2 x ∧ F' 4 x = F 4 x) : ∀ {k : Nat}, k ≤ l.length → sn F' l k = sn F l k := by
  intro k
  induction k with
  | zero => intro _; rfl
  | succ k ih =>
    intro hk
    have := h _ (getD_mem (show k < l.length by omega))
    rw [sn, sn, ih (by omega), this.1, this.2]
theorem sunm_film (h : ∀ x, x ∈ l → F' 2 x = F 2 x ∧ F' 4 x = F 4 x) : sunm F' l = sunm F l := sn_film h (Nat.le_refl _)
theorem any_congr {p q : Nat → Bool} : ∀ {l : List Nat}, (∀ x, x ∈ l → p x = q x) → l.any p = l.any q
  | [], _ => rfl
  | a :: l, h => by rw [List.any_cons, List.any_cons, h a List.mem_cons_self, any_congr (fun x hx => h x (List.mem_cons_of_mem _ hx))]
theorem hasL_film {v : Int32} (h : ∀ x, x ∈ l → F' 4 x = F 4 x) : hasL F' l v = hasL F l v := any_congr (fun x hx => by rw [h x hx])
theorem KP.film (hD : DR n nd R D) (h : ∀ s, s < n → F' 2 s = F 2 s ∧ F' 3 s = F 3 s ∧ F' 4 s = F 4 s ∧ F' 7 s = F 7 s) (h12 : F' 12 = F 12) (hd : ∀ d, d < nd → F' 14 d = F 14 d ∧ F' 15 d = F 15 d) (hK : KP F n nd R D) : KP F' n nd R D := by
  have hl := fun {d} (q : d < nd) => hD.lt q
  refine ⟨fun d hdn => ?_, fun s hs hsd a ha => ?_⟩
  · obtain ⟨k1, k2, k3⟩ := hK.1 d hdn
    refine ⟨?_, ?_, fun q1 q2 => ?_⟩
    · rw [mins_film (fun x hx => ⟨(h x (hl hdn x hx)).1, (h x (hl hdn x hx)).2.1⟩) h12, (hd d hdn).1]; exact k1
    · rw [sunm_film (fun x hx => ⟨(h x (hl hdn x hx)).1, (h x (hl hdn x hx)).2.2.1⟩), (hd d hdn).2]; exact k2
    · rw [hasL_film (fun x hx => (h x (hl q1 x hx)).2.2.1)]
      exact k3 q1 (by rw [← q2, hasL_film (fun x hx => (h x (hl hdn x hx)).2.2.1)])
  · have := hK.2 s hs hsd a ha
    unfold ordA at this ⊢
    rw [(h s hs).2.2.2]
    exact this
theorem RowIs.film {r sc : Nat → Int32} (h : ∀ x, x ∈ l → F' 2 x = F 2 x ∧ F' 3 x = F 3 x ∧ F' 4 x = F 4 x ∧ F' 6 x = F 6 x ∧ F' 7 x = F 7 x) (h12 : F' 12 = F 12) (hR : RowIs F l r sc) : RowIs F' l r sc := by
  obtain ⟨hS, ⟨c1, c2, c3, c4, c5, c6, c7⟩, c9⟩ := hR
  have g : ∀ k, k < l.length → _ := fun k hk => h _ (getD_mem hk)
  have e2 : ∀ {k : Nat}, k ≤ l.length → ndr F' l k = ndr F l k := by
    intro k; induction k with
    | zero => intro _; rfl
    | succ k ih => intro hk; rw [ndr, ndr, ih (by omega), (g k (by omega)).2.2.2.2]
  have e5 : ∀ {k : Nat}, k ≤ l.length → orP F' l k = orP F l k := by
    intro k; induction k with
    | zero => intro _; rfl
    | succ k ih => intro hk; rw [orP, orP, ih (by omega), (g k (by omega)).2.2.2.1]
  have e6 : ∀ {k : Nat}, k ≤ l.length → plr F' l k = plr F l k := by
    intro k; induction k with
    | zero => intro _; rfl
    | succ k ih => intro hk; rw [plr, plr, ih (by omega), (g k (by omega)).2.1]
  have e7 : ∀ {k : Nat}, k ≤ l.length → nit F' l k = nit F l k := by
    intro k; induction k with
    | zero => intro _; rfl
    | succ k ih => intro hk; rw [nit, nit, ih (by omega), (g k (by omega)).2.2.1]
  have e9 : inT F' l ↔ inT F l := by
    unfold inT
    constructor
    · intro q i hi; rw [← (g i hi).2.2.2.2]; exact q i hi
    · intro q i hi; rw [(g i hi).2.2.2.2]; exact q i hi
  refine ⟨hS, ⟨c1, by rw [e2 (Nat.le_refl _)]; exact c2, ?_, ?_, by rw [e5 (Nat.le_refl _)]; exact c5, by rw [e6 (Nat.le_refl _)]; exact c6, by rw [e7 (Nat.le_refl _)]; exact c7⟩, by rw [dB_congr e9]; exact c9⟩
  · rw [mn_film (fun x hx => ⟨(h x hx).1, (h x hx).2.1⟩) h12 (Nat.le_refl _)]; exact c3
  · rw [sn_film (fun x hx => ⟨(h x hx).1, (h x hx).2.2.1⟩) (Nat.le_refl _)]; exact c4
/-- all that holds between two calls -/
def JV (F : Nat → Nat → Int32) (n nd : Nat) (R : Nat → List Nat) (D : Nat → Option Nat) : Prop := GV F n nd R D ∧ GO F ∧ KP F n nd R D ∧ ∀ d, nd ≤ d → R d = []
def GH (h : List AC) : Prop := ∃ F n nd R D f ro rs rw rb m, h = HH f ro rs rw rb m ∧ JV F n nd R D ∧ CP F n nd R f ro rs rw ∧ MS F n nd R D m
def PQ (M : MD) (args : List Value) : Option Value → List AC → Prop := fun q h' => ∃ v, q = some (.int v) ∧ (∃ fs, h'[45]? = some (.inl (7, fs))) ∧ Mt 20 0 0 M (.ref 45 :: args) h' (fun q2 h'' => q2 = some (.int v) ∧ GH h'')
theorem PQ.ri {M : MD} {args : List Value} {v : Int32} {h : List AC} (hM : Mt 20 0 0 M (.ref 45 :: args) h (RI v h)) (hg : GH h) : PQ M args (some (.int v)) h :=
  ⟨v, rfl, by obtain ⟨F, n, nd, R, D, f, ro, rs, rw, rb, m, rfl, -⟩ := hg; exact ⟨_, rfl⟩, hM.weaken (fun r h' q => ⟨q.1, by rw [q.2]; exact hg⟩)⟩
theorem MS.congr {R' : Nat → List Nat} {m : Nat → Nat → Int32} (hR : ∀ d, d < nd → R' d = R d) (h : MS F n nd R D m) : MS F n nd R' D m := by
  obtain ⟨⟨h1, h2, h3, h4, h5⟩, h6, h7⟩ := h
  exact ⟨⟨h1, h2, h3, h4, fun d hd => by rw [hR d hd]; exact h5 d hd⟩, h6.congr hR (fun _ _ => rfl), h7⟩
theorem CF.up {f : Nat → Nat → Int32} {i j : Nat} {v : Int32} (h : CF F f) (hi : isC i = true) : CF (up2 F (cF i) j v) (up2 f i j v) := by
  intro k hk
  have key0 : ∀ a ∈ [2, 3, 4, 5, 6, 7, 8, 9, 10, 11, 14, 15], ∀ b ∈ [2, 3, 4, 5, 6, 7, 8, 9, 10, 11, 14, 15], cF a = cF b → a = b := by decide
  have key : ∀ a b, isC a = true → isC b = true → cF a = cF b → a = b := fun a b ha hb => key0 a (by simpa [isC] using ha) b (by simpa [isC] using hb)
  by_cases e : k = i
  · subst e; rw [up2_same, up2_same, h k hk]
  · rw [up2_ne e, up2_ne (fun q => e (key k i hk hi q)), h k hk]
theorem CF.no {f : Nat → Nat → Int32} {i j : Nat} {v : Int32} (h : CF F f) (hi : isC i = false) : CF F (up2 f i j v) := by
  intro k hk
  rw [up2_ne (fun e => by rw [e, hi] at hk; cases hk)]
  exact h k hk
end FILM
