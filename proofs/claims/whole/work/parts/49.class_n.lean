/-! the class's face: what is told, ahead of the calls -/
theorem inB_nI {x : Int32} {lo hi : Nat} (hh : hi < 2 ^ 30) (hl : lo < 2 ^ 30) (h : inB x (nI lo) (nI hi) = true) : ∃ j, lo ≤ j ∧ j ≤ hi ∧ x = nI j := by
  rw [inB, Bool.and_eq_true, decide_eq_true_eq, decide_eq_true_eq] at h
  have h0 : (0 : Int32) ≤ x := Int32.le_trans (by rw [← nI_0]; exact (nI_leI (by decide) (by omega)).mpr (Nat.zero_le _)) h.1
  have : isIn x (hi + 1) = true := by
    rw [isIn, Bool.and_eq_true, decide_eq_true_eq, decide_eq_true_eq]
    exact ⟨h0, Int32.lt_of_le_of_lt h.2 ((nI_ltI (by omega) (by omega)).mpr (by omega))⟩
  obtain ⟨j, hj, rfl⟩ := (isIn_iff (by omega)).mp this
  exact ⟨j, (nI_leI (by omega) (by omega)).mp h.1, by omega, rfl⟩
section TOLD
variable {f ro rs : Nat → Nat → Int32} {rw rb : Nat → Nat} {m : Nat → Nat → Int32} {dp : Nat} {F F' : Nat → Nat → Int32} {n nd : Nat} {R : Nat → List Nat} {D : Nat → Option Nat}
theorem RowIs.nil {r sc : Nat → Int32} (h : RowIs F [] r sc) : RowIs F' [] r sc := by
  obtain ⟨hS, ⟨c1, c2, c3, c4, c5, c6, c7⟩, c9⟩ := h
  refine ⟨hS, ⟨c1, c2, c3, c4, c5, c6, c7⟩, ?_⟩
  have a : inT F [] := fun i hi => absurd hi (Nat.not_lt_zero i)
  have b : inT F' [] := fun i hi => absurd hi (Nat.not_lt_zero i)
  rw [c9, dB_t a, dB_t b]
theorem FB.up {i j : Nat} {v : Int32} (h : FB F) (h2 : i ≠ 2) (h12 : i ≠ 12) : FB (up2 F i j v) :=
  ⟨fun s hs => by rw [up2_ne (fun e => h2 e.symm)]; exact h.1 s hs, fun p hp => by rw [up2_ne (fun e => h12 e.symm)]; exact h.2 p hp⟩
theorem FC.up {i j : Nat} {v : Int32} (h : FC F) (hv : i = 9 ∨ i = 11 → ∃ a, a ≤ 1000 ∧ v = nI a) : FC (up2 F i j v) := by
  refine ⟨fun p hp => ?_, fun p hp => ?_⟩
  · rw [up2_at]; split
    · rename_i e; exact hv (Or.inl e.1.symm)
    · exact h.1 p hp
  · rw [up2_at]; split
    · rename_i e; exact hv (Or.inr e.1.symm)
    · exact h.2 p hp
theorem NA.up {i j : Nat} {v : Int32} (h : NA F n) (h7 : i ≠ 7) : NA (up2 F i j v) n := by
  obtain ⟨rk, h⟩ := h
  exact ⟨rk, fun s a hs ha hb => by rw [up2_ne (fun e => h7 e.symm)] at hb; exact h s a hs ha hb⟩
theorem PM.up {i j : Nat} {v : Int32} (h : PM F n) (h2 : i ≠ 2) : PM (up2 F i j v) n := fun s hs => by rw [up2_ne (fun e => h2 e.symm)]; exact h s hs
theorem GO.up {i j : Nat} {v : Int32} (h : GO F) (h5 : i ≠ 5) : GO (up2 F i j v) := fun s hs => by rw [up2_ne (fun e => h5 e.symm)]; exact h s hs
/-- money told -/
theorem JV.up {i j : Nat} {v : Int32} (h : JV F n nd R D) (hi : i = 9 ∨ i = 10 ∨ i = 11) (hv : i = 9 ∨ i = 11 → ∃ a, a ≤ 1000 ∧ v = nI a) : JV (up2 F i j v) n nd R D := by
  obtain ⟨⟨⟨a1, a2, a3, a4, a5⟩, a6, a7, a8⟩, b1, b2, b3⟩ := h
  have e : ∀ k, k ≠ 9 → k ≠ 10 → k ≠ 11 → up2 F i j v k = F k := fun k q1 q2 q3 => up2_ne (fun z => by rcases hi with q | q | q <;> omega)
  refine ⟨⟨⟨a1.up (by omega), a2.up (by omega), a3.up (by omega) (by omega), a4.up (by omega), a5.up hv⟩, a6, a7, a8⟩, b1.up (by omega), b2.film a7 (fun s hs => ?_) (e 12 (by decide) (by decide) (by decide)) (fun d hd => ?_), b3⟩
  · rw [e 2 (by decide) (by decide) (by decide), e 3 (by decide) (by decide) (by decide), e 4 (by decide) (by decide) (by decide), e 7 (by decide) (by decide) (by decide)]
    exact ⟨rfl, rfl, rfl, rfl⟩
  · rw [e 14 (by decide) (by decide) (by decide), e 15 (by decide) (by decide) (by decide)]
    exact ⟨rfl, rfl⟩
theorem CP.up {i j : Nat} {v : Int32} (h : CP F n nd R f ro rs rw) (hi : i = 8 ∨ i = 9 ∨ i = 10) : CP (up2 F (cF i) j v) n nd R (up2 f i j v) ro rs rw := by
  obtain ⟨⟨a1, a2, a3, a4⟩, h1, h2, h3, h4, h5⟩ := h
  have hc : cF i = 9 ∨ cF i = 10 ∨ cF i = 11 := by rcases hi with rfl | rfl | rfl <;> decide
  have e : ∀ k, k ≠ 9 → k ≠ 10 → k ≠ 11 → up2 F (cF i) j v k = F k := fun k q1 q2 q3 => up2_ne (fun z => by rcases hc with q | q | q <;> omega)
  refine ⟨⟨a1, a2, a3.up (by omega) (by omega), a4.up (by omega)⟩, by rw [up2_ne (by omega)]; exact h1, by rw [up2_ne (by omega)]; exact h2, h3.up (by rcases hi with rfl | rfl | rfl <;> rfl), h4, fun d hd => (h5 d hd).film (fun x hx => ?_) (e 12 (by decide) (by decide) (by decide))⟩
  rw [e 2 (by decide) (by decide) (by decide), e 3 (by decide) (by decide) (by decide), e 4 (by decide) (by decide) (by decide), e 6 (by decide) (by decide) (by decide), e 7 (by decide) (by decide) (by decide)]
  exact ⟨rfl, rfl, rfl, rfl, rfl⟩
/-- rows measured anew -/
theorem CP.anew {f' ro' : Nat → Nat → Int32} (h : CP F n nd R f ro rs rw) (hE : ∀ d, nd ≤ d → R d = []) (hB : FB F') (hp : PlV F') (h1 : f' 1 10 = nI n) (h12 : f' 12 4 = nI nd) (hC : CF F' f') (g1 : ∀ q, (∀ d, d < nd → q ≠ rw d) → ro' q = ro q) (g2 : ∀ d, d < nd → RowIs F' (R d) (ro' (rw d)) (rs (rw d))) : CP F' n nd R f' ro' rs rw := by
  obtain ⟨⟨a1, a2, a3, a4⟩, -, -, -, h4, h5⟩ := h
  refine ⟨⟨a1, a2, hB, hp⟩, h1, h12, hC, h4, fun d hd => ?_⟩
  by_cases q : d < nd
  · exact g2 d q
  · have := h5 d hd
    rw [hE d (by omega)] at this ⊢
    rw [g1 (rw d) (fun e he z => by have := h4.2 d e (by omega) (by omega) z; omega)]
    exact this.nil
theorem fScene_n {a b c o w : Int32} {k x : Nat} (h : x ≠ n) : fScene F n a b c o w k x = F k x := by
  unfold fScene
  simp only [up2_at]
  rw [if_neg (fun q => h q.2), if_neg (fun q => h q.2), if_neg (fun q => h q.2), if_neg (fun q => h q.2), if_neg (fun q => h q.2)]
theorem fScene_k {a b c o w : Int32} {k : Nat} (h : k < 2 ∨ 6 < k) : fScene F n a b c o w k = F k := by
  unfold fScene
  rw [up2_ne (by omega), up2_ne (by omega), up2_ne (by omega), up2_ne (by omega), up2_ne (by omega)]
theorem FB.scene {a b c o w : Int32} (h : FB F) (ha : ∃ j, j ≤ 300 ∧ a = nI j) : FB (fScene F n a b c o w) := by
  refine ⟨fun s hs => ?_, fun p hp => by rw [fScene_k (by omega)]; exact h.2 p hp⟩
  by_cases e : s = n
  · subst e
    obtain ⟨j, h1, h2⟩ := ha
    refine ⟨j, h1, ?_⟩
    unfold fScene
    rw [up2_ne (by decide), up2_ne (by decide), up2_ne (by decide), up2_ne (by decide), up2_at, if_pos ⟨rfl, rfl⟩, h2]
  · rw [fScene_n e]; exact h.1 s hs
theorem CP.scene {a b c o w : Int32} (h : CP F n nd R f ro rs rw) (hD : DR n nd R D) (hE : ∀ d, nd ≤ d → R d = []) (hn : n < 20) (ha : ∃ j, j ≤ 300 ∧ a = nI j) (hb : isIn b 8 = true) : CP (fScene F n a b c o w) (n + 1) nd R (up2 (fScene f n a b c o w) 1 10 (nI (n + 1))) ro rs rw := by
  obtain ⟨⟨a1, a2, a3, a4⟩, h1, h2, h3, h4, h5⟩ := h
  refine ⟨⟨by omega, a2, a3.scene ha, a4.scene hb⟩, by rw [up2_at, if_pos ⟨rfl, rfl⟩], by rw [up2_ne (by decide), fScene_k (by omega)]; exact h2, ?_, h4, fun d hd => (h5 d hd).film (fun x hx => ?_) (fScene_k (by omega))⟩
  · exact CF.no ((((((h3.up (i := 2) rfl).up (i := 3) rfl).up (i := 4) rfl).up (i := 5) rfl).up (i := 6) rfl) : CF (fScene F n a b c o w) (fScene f n a b c o w)) rfl
  · have hx : x ≠ n := by
      by_cases q : d < nd
      · have := hD.lt q x hx; omega
      · rw [hE d (by omega)] at hx; cases hx
    exact ⟨fScene_n hx, fScene_n hx, fScene_n hx, fScene_n hx, fScene_n hx⟩
theorem JV.scene {a b c o w : Int32} (h : JV F n nd R D) (hn : n < 20) (ha : ∃ j, 5 ≤ j ∧ j ≤ 300 ∧ a = nI j) (hb : isIn b 8 = true) (ho : o = nI 0 ∨ o = nI 1) : JV (fScene F n a b c o w) (n + 1) nd R (upD D n none) := by
  obtain ⟨⟨⟨a1, a2, a3, a4, a5⟩, a6, a7, a8⟩, b1, b2, b3⟩ := h
  obtain ⟨j, j1, j2, j3⟩ := ha
  have e2 : fScene F n a b c o w 2 n = a := by
    unfold fScene
    rw [up2_ne (by decide), up2_ne (by decide), up2_ne (by decide), up2_ne (by decide), up2_at, if_pos ⟨rfl, rfl⟩]
  have e5 : fScene F n a b c o w 5 n = o := by
    unfold fScene
    rw [up2_ne (by decide), up2_at, if_pos ⟨rfl, rfl⟩]
  refine ⟨⟨⟨?_, fun s hs => ?_, a3.scene ⟨j, j2, j3⟩, a4.scene hb, ?_⟩, a6, a7.scene hn, a8⟩, fun s hs => ?_, ?_, b3⟩
  · obtain ⟨rk, q⟩ := a1
    exact ⟨rk, fun s x hs hx hb => by rw [fScene_k (by omega)] at hb; have := q s x hs hx hb; exact ⟨by omega, by omega, this.2.2⟩⟩
  · by_cases e : s = n
    · subst e; exact ⟨j, by omega, j2, by rw [e2, j3]⟩
    · rw [fScene_n e]; exact a2 s (by omega)
  · exact ⟨fun p hp => by rw [fScene_k (by omega)]; exact a5.1 p hp, fun p hp => by rw [fScene_k (by omega)]; exact a5.2 p hp⟩
  · by_cases e : s = n
    · subst e; rw [e5]; exact ho
    · rw [fScene_n e]; exact b1 s hs
  · have hK := b2.film (F' := fScene F n a b c o w) a7 (fun s hs => ⟨fScene_n (by omega), fScene_n (by omega), fScene_n (by omega), fScene_n (by omega)⟩) (fScene_k (by omega)) (fun d hd => by rw [fScene_k (by omega), fScene_k (by omega)]; exact ⟨rfl, rfl⟩)
    refine ⟨hK.1, fun s hs hsd x hx hb da ds h1 h2 => ?_⟩
    have es : s ≠ n := fun e => by rw [e, upD_s] at hsd; exact hsd rfl
    have ex : x ≠ n := fun e => by rw [e, upD_s] at h1; cases h1
    rw [upD_n es] at hsd h2
    rw [upD_n ex] at h1
    exact hK.2 s (by omega) hsd x (by omega) hb da ds h1 h2
theorem mins_nil : mins F [] = nI 0 := rfl
theorem fDay_n {d e : Nat} {a b : Int32} {k : Nat} (h : e ≠ d) : fDay F d a b k e = F k e := by
  unfold fDay
  rw [up2_at, if_neg (fun q => h q.2), up2_at, if_neg (fun q => h q.2)]
theorem fDay_k {d : Nat} {a b : Int32} {k : Nat} (h1 : k ≠ 14) (h2 : k ≠ 15) : fDay F d a b k = F k := by
  unfold fDay
  rw [up2_ne h2, up2_ne h1]
theorem fDay_14 {d : Nat} {a b : Int32} : fDay F d a b 14 d = a := by
  unfold fDay
  rw [up2_ne (by decide), up2_at, if_pos ⟨rfl, rfl⟩]
theorem fDay_15 {d : Nat} {a b : Int32} : fDay F d a b 15 d = b := by
  unfold fDay
  rw [up2_at, if_pos ⟨rfl, rfl⟩]
theorem GF.day {d : Nat} {a b : Int32} (h : GF F n) : GF (fDay F d a b) n := by
  obtain ⟨a1, a2, a3, a4, a5⟩ := h
  exact ⟨(a1.up (by decide)).up (by decide), (a2.up (by decide)).up (by decide), (a3.up (by decide) (by decide)).up (by decide) (by decide), (a4.up (by decide)).up (by decide), (a5.up (by omega)).up (by omega)⟩
theorem kp_change {d : Nat} {a b : Int32} (hD : DR n nd R D) (hd : d < nd) (hK : KP F n nd R D) : KP (fDay F d a b) n nd R D ↔ mins F (R d) ≤ a ∧ sunm F (R d) ≤ b := by
  have em : ∀ l, mins (fDay F d a b) l = mins F l := fun l => mins_film (fun x _ => by rw [fDay_k (by decide) (by decide), fDay_k (by decide) (by decide)]; exact ⟨rfl, rfl⟩) (fDay_k (by decide) (by decide))
  have es : ∀ l, sunm (fDay F d a b) l = sunm F l := fun l => sunm_film (fun x _ => by rw [fDay_k (by decide) (by decide), fDay_k (by decide) (by decide)]; exact ⟨rfl, rfl⟩)
  have eh : ∀ l v, hasL (fDay F d a b) l v = hasL F l v := fun l v => hasL_film (fun x _ => by rw [fDay_k (by decide) (by decide)])
  constructor
  · intro h
    obtain ⟨k1, k2, k3⟩ := h.1 d hd
    rw [em, fDay_14] at k1
    rw [es, fDay_15] at k2
    exact ⟨k1, k2⟩
  · rintro ⟨h1, h2⟩
    refine ⟨fun e he => ?_, fun s hs hsd x hx => ?_⟩
    · obtain ⟨k1, k2, k3⟩ := hK.1 e he
      refine ⟨?_, ?_, fun q1 q2 => ?_⟩
      · rw [em]
        by_cases q : e = d
        · subst q; rw [fDay_14]; exact h1
        · rw [fDay_n q]; exact k1
      · rw [es]
        by_cases q : e = d
        · subst q; rw [fDay_15]; exact h2
        · rw [fDay_n q]; exact k2
      · rw [eh] at q2 ⊢; exact k3 q1 q2
    · have := hK.2 s hs hsd x hx
      unfold ordA at this ⊢
      rw [fDay_k (by decide) (by decide)]
      exact this
theorem CP.chg {d : Nat} {a b : Int32} (h : CP F n nd R f ro rs rw) : CP (fDay F d a b) n nd R (up2 (up2 f 14 d a) 15 d b) ro rs rw := by
  obtain ⟨⟨a1, a2, a3, a4⟩, h1, h2, h3, h4, h5⟩ := h
  refine ⟨⟨a1, a2, (a3.up (by decide) (by decide)).up (by decide) (by decide), (a4.up (by decide)).up (by decide)⟩, by rw [up2_ne (by decide), up2_ne (by decide)]; exact h1, by rw [up2_ne (by decide), up2_ne (by decide)]; exact h2, (h3.up (i := 14) rfl).up (i := 15) rfl, h4, fun e he => (h5 e he).film (fun x hx => ?_) (fDay_k (by decide) (by decide))⟩
  rw [fDay_k (by decide) (by decide), fDay_k (by decide) (by decide), fDay_k (by decide) (by decide), fDay_k (by decide) (by decide), fDay_k (by decide) (by decide)]
  exact ⟨rfl, rfl, rfl, rfl, rfl⟩
theorem upR_nil (hE : R nd = []) : upR R nd [] = R := by
  funext d
  unfold upR
  split
  · rename_i e; rw [e, hE]
  · rfl
theorem JV.day {a b : Int32} (h : JV F n nd R D) (hnd : nd < 8) (ha : ∃ j, 60 ≤ j ∧ j ≤ 900 ∧ a = nI j) (hb : ∃ j, 0 ≤ j ∧ j ≤ 900 ∧ b = nI j) : JV (fDay F nd a b) n (nd + 1) R D := by
  obtain ⟨⟨a1, a6, a7, a8⟩, b1, b2, b3⟩ := h
  have hE := b3 nd (Nat.le_refl _)
  have hD' := a7.day
  rw [upR_nil hE] at hD'
  refine ⟨⟨a1.day, by omega, hD', fun d hd => ?_⟩, (b1.up (by decide)).up (by decide), ?_, fun d hd => b3 d (by omega)⟩
  · by_cases q : d < nd
    · exact a8 d q
    · rw [show d = nd by omega, hE]; exact Nat.zero_le _
  · have hK := b2.film (F' := fDay F nd a b) a7 (fun s hs => by rw [fDay_k (by decide) (by decide), fDay_k (by decide) (by decide), fDay_k (by decide) (by decide), fDay_k (by decide) (by decide)]; exact ⟨rfl, rfl, rfl, rfl⟩) (fDay_k (by decide) (by decide)) (fun d hd => by rw [fDay_n (by omega), fDay_n (by omega)]; exact ⟨rfl, rfl⟩)
    refine ⟨fun d hd => ?_, hK.2⟩
    by_cases q : d < nd
    · obtain ⟨k1, k2, k3⟩ := hK.1 d q
      refine ⟨k1, k2, fun q1 q2 => ?_⟩
      by_cases q3 : d + 1 < nd
      · exact k3 q3 q2
      · rw [show d + 1 = nd by omega, hE]; rfl
    · obtain rfl : d = nd := by omega
      obtain ⟨j, j1, j2, j3⟩ := ha
      obtain ⟨k, k1, k2, k3⟩ := hb
      rw [dayP, hE, fDay_14, fDay_15, j3, k3]
      exact ⟨(nI_leI (by decide) (by omega)).mpr (Nat.zero_le _), (nI_leI (by decide) (by omega)).mpr (Nat.zero_le _), fun q => absurd q (by omega)⟩
theorem CP.day {a b : Int32} (h : CP F n nd R f ro rs rw) (hnd : nd < 8) : CP (fDay F nd a b) n (nd + 1) R (up2 (up2 (up2 f 14 nd a) 15 nd b) 12 4 (nI (nd + 1))) ro rs rw := by
  obtain ⟨⟨a1, a2, a3, a4⟩, h1, h2, h3, h4, h5⟩ := h.chg (d := nd) (a := a) (b := b)
  exact ⟨⟨a1, by omega, a3, a4⟩, by rw [up2_ne (by decide)]; exact h1, by rw [up2_at, if_pos ⟨rfl, rfl⟩], h3.no rfl, h4, h5⟩
theorem GF.spot {p : Nat} {a : Int32} (h : GF F n) (ha : ∃ j, j ≤ 120 ∧ a = nI j) : GF (up2 F 12 p a) n := by
  obtain ⟨a1, a2, a3, a4, a5⟩ := h
  refine ⟨a1.up (by decide), a2.up (by decide), ⟨fun s hs => by rw [up2_ne (by decide)]; exact a3.1 s hs, fun q hq => ?_⟩, a4.up (by decide), a5.up (by omega)⟩
  rw [up2_at]
  split
  · exact ha
  · exact a3.2 q hq
theorem GF.ahead {a b : Nat} (h : GF F n) (hn : n ≤ 20) (ha : a < n) (hb : b < n) (hab : a ≠ b) (hc : btB (clo F n (F 7 a) n) b = false) : GF (fAh F a b) n := by
  obtain ⟨a1, a2, a3, a4, a5⟩ := h
  exact ⟨a1.ahead hn ha hb hab hc, a2.up (by decide), a3.up (by decide) (by decide), a4.up (by decide), a5.up (by omega)⟩
end TOLD
