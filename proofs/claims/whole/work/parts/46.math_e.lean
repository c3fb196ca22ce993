/-! counting bits; what must be ahead by others too -/
theorem cnt_congr {p q : Nat → Bool} : ∀ {n : Nat}, (∀ i, i < n → p i = q i) → cnt p n = cnt q n
  | 0, _ => rfl
  | n + 1, h => by rw [cnt, cnt, cnt_congr (fun i hi => h i (by omega)), h n (by omega)]
theorem cnt_add (p : Nat → Bool) (a : Nat) : ∀ b, cnt p (a + b) = cnt p a + cnt (fun i => p (a + i)) b
  | 0 => rfl
  | b + 1 => by rw [← Nat.add_assoc, cnt, cnt, cnt_add p a b, Nat.add_assoc]
theorem cnt_le (p : Nat → Bool) : ∀ n, cnt p n ≤ n
  | 0 => Nat.le_refl _
  | n + 1 => by
    have := cnt_le p n
    rw [cnt]; split <;> omega
theorem cnt_mono {p q : Nat → Bool} : ∀ {n : Nat}, (∀ i, i < n → p i = true → q i = true) → cnt p n ≤ cnt q n
  | 0, _ => Nat.le_refl _
  | n + 1, h => by
    have h1 := cnt_mono (p := p) (q := q) (n := n) (fun i hi => h i (by omega))
    have h2 := h n (by omega)
    rw [cnt, cnt]
    by_cases e : p n = true
    · rw [if_pos e, if_pos (h2 e)]; omega
    · rw [if_neg e]; omega
theorem cnt_lt {p q : Nat → Bool} {k : Nat} : ∀ {n : Nat}, (∀ i, i < n → p i = true → q i = true) → k < n → p k = false → q k = true → cnt p n < cnt q n
  | 0, _, hk, _, _ => absurd hk (Nat.not_lt_zero k)
  | n + 1, h, hk, h1, h2 => by
    rw [cnt, cnt]
    rcases Nat.lt_succ_iff_lt_or_eq.mp hk with e | e
    · have h3 := cnt_lt (p := p) (q := q) (n := n) (fun i hi => h i (by omega)) e h1 h2
      have h4 := h n (by omega)
      by_cases e2 : p n = true
      · rw [if_pos e2, if_pos (h4 e2)]; omega
      · rw [if_neg e2]; omega
    · subst e
      have h3 := cnt_mono (p := p) (q := q) (n := k) (fun i hi => h i (by omega))
      rw [h1, h2, if_neg (by decide), if_pos rfl]
      omega
theorem cnt_full {p : Nat → Bool} : ∀ {n : Nat}, n ≤ cnt p n → ∀ i, i < n → p i = true
  | 0, _, i, hi => absurd hi (Nat.not_lt_zero i)
  | n + 1, h, i, hi => by
    rw [cnt] at h
    have := cnt_le p n
    by_cases e : p n = true
    · rw [if_pos e] at h
      rcases Nat.lt_succ_iff_lt_or_eq.mp hi with q | q
      · exact cnt_full (n := n) (by omega) i q
      · rw [q]; exact e
    · rw [if_neg e] at h; omega
section CLO
variable {F : Nat → Nat → Int32} {n : Nat}
theorem iter_fix {st : Int32 → Int32} {y : Nat → Int32} (hy : ∀ r, y (r + 1) = st (y r)) (mono : ∀ x i, i < 32 → btB x i = true → btB (st x) i = true) (bd : ∀ r i, i < 32 → btB (y r) i = true → i < n) (hn : n ≤ 32) : st (y n) = y n := by
  have ext : ∀ x z : Int32, (∀ i, i < 32 → btB x i = btB z i) → x = z := fun x z h => b_ext (fun i hi => by have := h i hi; rw [btB_bt hi, btB_bt hi] at this; exact this)
  have go : ∀ r, st (y r) = y r ∨ r ≤ cnt (fun i => btB (y r) i) n := by
    intro r
    induction r with
    | zero => exact Or.inr (Nat.zero_le _)
    | succ r ih =>
      rcases ih with q | q
      · left; rw [hy r, q, q]
      · by_cases e : st (y r) = y r
        · left; rw [hy r, e, e]
        · right
          have : ∃ k, k < 32 ∧ btB (y r) k = false ∧ btB (st (y r)) k = true := by
            apply Classical.byContradiction
            intro hno
            refine e (ext _ _ (fun i hi => ?_))
            cases h1 : btB (y r) i with
            | true => exact mono _ i hi h1
            | false =>
              cases h2 : btB (st (y r)) i with
              | false => rfl
              | true => exact absurd ⟨i, hi, h1, h2⟩ hno
          obtain ⟨k, k1, k2, k3⟩ := this
          have kn : k < n := bd (r + 1) k k1 (by rw [hy r]; exact k3)
          have := cnt_lt (p := fun i => btB (y r) i) (q := fun i => btB (y (r + 1)) i) (n := n) (fun i hi h => by show btB (y (r + 1)) i = true; rw [hy r]; exact mono _ i (by omega) h) kn k2 (by show btB (y (r + 1)) k = true; rw [hy r]; exact k3)
          omega
  rcases go n with q | q
  · exact q
  · have full := cnt_full q
    refine ext _ _ (fun i hi => ?_)
    cases h1 : btB (y n) i with
    | true => exact mono _ i hi h1
    | false =>
      cases h2 : btB (st (y n)) i with
      | false => rfl
      | true =>
        have := bd (n + 1) i hi (by rw [hy n]; exact h2)
        have := full i this
        rw [h1] at this
        cases this
def Cl (F : Nat → Nat → Int32) (n : Nat) (x : Int32) : Prop := ∀ s, s < n → btB x s = true → ∀ a, a < 32 → btB (F 7 s) a = true → btB x a = true
def Sb (x z : Int32) : Prop := ∀ i, i < 32 → btB x i = true → btB z i = true
def NB (F : Nat → Nat → Int32) (n : Nat) : Prop := n ≤ 20 ∧ ∀ s a, s < 20 → a < 32 → btB (F 7 s) a = true → a < n
theorem NA.nb (h : NA F n) (hn : n ≤ 20) : NB F n := by
  obtain ⟨rk, h⟩ := h
  exact ⟨hn, fun s a hs ha hb => (h s a hs ha hb).1⟩
theorem inr1_mono {x : Int32} : ∀ (k : Nat), Sb x (inr1 F x k)
  | 0 => fun _ _ h => h
  | k + 1 => fun i hi h => by
    rw [inr1]; split
    · rw [btB_or hi, inr1_mono k i hi h]; rfl
    · exact inr1_mono k i hi h
theorem inr1_mono2 {x : Int32} {k : Nat} : ∀ {k' : Nat}, k ≤ k' → Sb (inr1 F x k) (inr1 F x k')
  | 0, h => by rw [show k = 0 by omega]; exact fun _ _ h => h
  | k' + 1, h => fun i hi hb => by
    rcases Nat.eq_or_lt_of_le h with e | e
    · rw [← e]; exact hb
    · have := inr1_mono2 (k := k) (k' := k') (by omega) i hi hb
      rw [inr1]; split
      · rw [btB_or hi, this]; rfl
      · exact this
theorem inr1_least {x z : Int32} (hz : Cl F n z) (hx : Sb x z) : ∀ {k : Nat}, k ≤ n → n ≤ 32 → Sb (inr1 F x k) z
  | 0, _, _ => hx
  | k + 1, hk, hn => fun i hi hb => by
    have ih := inr1_least hz hx (k := k) (by omega) hn
    rw [inr1] at hb
    split at hb
    · rename_i q
      rw [btB_or hi, Bool.or_eq_true] at hb
      rcases hb with hb | hb
      · exact ih i hi hb
      · exact hz k (by omega) (ih k (by omega) q) i hi hb
    · exact ih i hi hb
theorem inr1_fix {x : Int32} (hn : n ≤ 32) (h : inr1 F x n = x) : Cl F n x := by
  intro s hs hb a ha hba
  have h1 := inr1_mono2 (F := F) (x := x) (k := s + 1) (k' := n) (by omega) a ha
  rw [h] at h1
  apply h1
  rw [inr1, if_pos (inr1_mono s s (by omega) hb), btB_or ha, hba, Bool.or_true]
theorem clo_ok (hN : NB F n) {x : Int32} (hx : ∀ a, a < 32 → btB x a = true → a < n) : Sb x (clo F n x n) ∧ Cl F n (clo F n x n) ∧ ∀ z, Cl F n z → Sb x z → Sb (clo F n x n) z := by
  have hn := hN.1
  have sub : ∀ r, Sb x (clo F n x r) := by
    intro r; induction r with
    | zero => exact fun _ _ h => h
    | succ r ih => exact fun i hi h => inr1_mono n i hi (ih i hi h)
  have full : Cl F n (Int32.ofNat (2 ^ n - 1)) := by
    intro s hs hb a ha hba
    have := hN.2 s a (by omega) ha hba
    rw [btB_bt ha]
    show (BitVec.ofNat 32 (2 ^ n - 1)).getLsbD a = true
    rw [BitVec.getLsbD_ofNat, Nat.testBit_two_pow_sub_one]
    simp; omega
  have fullx : ∀ y : Int32, (∀ a, a < 32 → btB y a = true → a < n) ↔ Sb y (Int32.ofNat (2 ^ n - 1)) := by
    intro y
    have e : ∀ a, a < 32 → (btB (Int32.ofNat (2 ^ n - 1)) a = true ↔ a < n) := by
      intro a ha
      rw [btB_bt ha]
      show (BitVec.ofNat 32 (2 ^ n - 1)).getLsbD a = true ↔ _
      rw [BitVec.getLsbD_ofNat, Nat.testBit_two_pow_sub_one]
      simp; omega
    exact ⟨fun h a ha hb => (e a ha).mpr (h a ha hb), fun h a ha hb => (e a ha).mp (h a ha hb)⟩
  have least : ∀ z, Cl F n z → Sb x z → ∀ r, Sb (clo F n x r) z := by
    intro z h1 h2 r
    induction r with
    | zero => exact h2
    | succ r ih => exact inr1_least h1 ih (Nat.le_refl n) (by omega)
  have bd : ∀ r i, i < 32 → btB (clo F n x r) i = true → i < n := fun r i hi h => (fullx _).mpr (least _ full ((fullx _).mp hx) r) i hi h
  have fix := iter_fix (st := fun z => inr1 F z n) (y := clo F n x) (fun r => rfl) (fun x i hi h => inr1_mono n i hi h) bd (by omega)
  exact ⟨sub n, inr1_fix (by omega) fix, fun z h1 h2 => least z h1 h2 n⟩
theorem noa_bit {x : Int32} {i : Nat} (hi : i < 32) : ∀ {k : Nat}, (btB (noa F x k) i = true ↔ ∃ s, s < k ∧ btB x s = true ∧ btB (F 7 s) i = true) := by
  intro k
  induction k with
  | zero => rw [noa, btB_0 hi]; simp
  | succ k ih =>
    rw [noa]
    split
    · rename_i h
      rw [btB_or hi, Bool.or_eq_true, ih]
      constructor
      · rintro (⟨s, h1, h2⟩ | h3)
        · exact ⟨s, by omega, h2⟩
        · exact ⟨k, by omega, h, h3⟩
      · rintro ⟨s, h1, h2, h3⟩
        rcases Nat.lt_succ_iff_lt_or_eq.mp h1 with q | q
        · exact Or.inl ⟨s, q, h2, h3⟩
        · exact Or.inr (by rw [← q]; exact h3)
    · rename_i h
      rw [ih]
      constructor
      · rintro ⟨s, h1, h2⟩; exact ⟨s, by omega, h2⟩
      · rintro ⟨s, h1, h2, h3⟩
        rcases Nat.lt_succ_iff_lt_or_eq.mp h1 with q | q
        · exact ⟨s, q, h2, h3⟩
        · rw [q] at h2; exact absurd h2 h
theorem nbo_ok (hN : NB F n) {x : Int32} (hx : ∀ a, a < 32 → btB x a = true → a < n) : Sb x (nbo F n x n) ∧ Cl F n (nbo F n x n) ∧ ∀ z, Cl F n z → Sb x z → Sb (nbo F n x n) z := by
  have hn := hN.1
  have sub : ∀ r, Sb x (nbo F n x r) := by
    intro r; induction r with
    | zero => exact fun _ _ h => h
    | succ r ih => exact fun i hi h => by rw [nbo, btB_or hi, ih i hi h]; rfl
  have least : ∀ z, Cl F n z → Sb x z → ∀ r, Sb (nbo F n x r) z := by
    intro z h1 h2 r
    induction r with
    | zero => exact h2
    | succ r ih =>
      intro i hi h
      rw [nbo, btB_or hi, Bool.or_eq_true, noa_bit hi] at h
      rcases h with h | ⟨s, q1, q2, q3⟩
      · exact ih i hi h
      · exact h1 s q1 (ih s (by omega) q2) i hi q3
  have bd : ∀ r i, i < 32 → btB (nbo F n x r) i = true → i < n := by
    intro r
    induction r with
    | zero => exact hx
    | succ r ih =>
      intro i hi h
      rw [nbo, btB_or hi, Bool.or_eq_true, noa_bit hi] at h
      rcases h with h | ⟨s, q1, q2, q3⟩
      · exact ih i hi h
      · exact hN.2 s i (by omega) hi q3
  have fix := iter_fix (st := fun z => z ||| noa F z n) (y := nbo F n x) (fun r => rfl) (fun x i hi h => by rw [btB_or hi, h]; rfl) bd (by omega)
  refine ⟨sub n, fun s hs hb a ha hba => ?_, fun z h1 h2 => least z h1 h2 n⟩
  rw [← fix]
  rw [btB_or ha, (noa_bit ha).mpr ⟨s, hs, hb, hba⟩, Bool.or_true]
theorem nbo_clo (hN : NB F n) {a b : Nat} (ha : a < 20) (hb : b < 32) : btB (nbo F n (F 7 a) n) b = btB (clo F n (F 7 a) n) b := by
  have hx : ∀ i, i < 32 → btB (F 7 a) i = true → i < n := fun i hi h => hN.2 a i ha hi h
  obtain ⟨a1, a2, a3⟩ := nbo_ok hN hx
  obtain ⟨b1, b2, b3⟩ := clo_ok hN hx
  rw [Bool.eq_iff_iff]
  exact ⟨fun h => a3 _ b2 b1 b hb h, fun h => b3 _ a2 a1 b hb h⟩
theorem NA.ahead (h : NA F n) (hn : n ≤ 20) {a b : Nat} (ha : a < n) (hb : b < n) (hab : a ≠ b) (hc : btB (clo F n (F 7 a) n) b = false) : NA (fAh F a b) n := by
  have hN := h.nb hn
  obtain ⟨rk, hr⟩ := h
  have hx : ∀ s, s < 20 → ∀ i, i < 32 → btB (F 7 s) i = true → i < n := fun s hs i hi h => hN.2 s i hs hi h
  let T : Nat → Prop := fun s => s = b ∨ btB (clo F n (F 7 s) n) b = true
  have T2 : ∀ s x, s < 20 → x < 32 → btB (F 7 s) x = true → T x → T s := by
    intro s x hs hx32 hbx hT
    have hxn := hx s hs x hx32 hbx
    obtain ⟨c1, c2, c3⟩ := clo_ok hN (hx s hs)
    right
    rcases hT with e | e
    · subst e; exact c1 x hx32 hbx
    · obtain ⟨d1, d2, d3⟩ := clo_ok hN (hx x (by omega))
      exact d3 _ c2 (fun i hi h => c2 x hxn (c1 x hx32 hbx) i hi h) b (by omega) e
  have T3 : ¬ T a := fun q => by
    rcases q with q | q
    · exact hab q
    · rw [hc] at q; cases q
  refine ⟨fun s => rk s + (if dB (T s) = true then rk a + 1 else 0), fun s x hs hx32 hbx => ?_⟩
  have old : btB (F 7 s) x = true → x < n ∧ s < n ∧ rk x + (if dB (T x) = true then rk a + 1 else 0) < rk s + (if dB (T s) = true then rk a + 1 else 0) := by
    intro hbx
    obtain ⟨q1, q2, q3⟩ := hr s x hs hx32 hbx
    refine ⟨q1, q2, ?_⟩
    by_cases e : T x
    · rw [if_pos (dB_t e), if_pos (dB_t (T2 s x hs hx32 hbx e))]; omega
    · rw [if_neg (fun q => e (of_dB q))]; omega
  unfold fAh at hbx
  rw [up2_at] at hbx
  split at hbx
  · rename_i e
    obtain ⟨-, rfl⟩ := e
    rw [btB_set (by omega) hx32, Bool.or_eq_true, beq_iff_eq] at hbx
    rcases hbx with q | q
    · exact old q
    · subst q
      refine ⟨ha, hb, ?_⟩
      show rk x + (if dB (T x) = true then rk x + 1 else 0) < rk s + (if dB (T s) = true then rk x + 1 else 0)
      rw [if_neg (fun q => T3 (of_dB q)), if_pos (dB_t (Or.inl rfl : T s))]
      omega
  · exact old hbx
end CLO
