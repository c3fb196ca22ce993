/-! the class's best order of a day against the reference's -/
def mN (F : Nat → Nat → Int32) (s : Nat) : Nat := (F 2 s).toNatClampNeg
theorem mn_nI {F : Nat → Nat → Int32} (hB : FB F) (hp : PlV F) {l : List Nat} (hl : ∀ i, i < l.length → l.getD i 0 < 20) : ∀ {k : Nat}, k ≤ l.length → mn F l k = nI (((l.take k).map (mN F)).sum + wN F l k) := by
  intro k
  induction k with
  | zero => intro _; rfl
  | succ k ih =>
    intro hk
    obtain ⟨a, ha, ea⟩ := hB.1 _ (hl k (by omega))
    have et : l.take (k + 1) = l.take k ++ [l.getD k 0] := by
      rw [List.take_succ, List.getD_eq_getElem?_getD, List.getElem?_eq_getElem (by omega)]
      rfl
    have em : mN F (l.getD k 0) = a := by rw [mN, ea, nI_clamp (by omega)]
    rw [mn, ih (by omega), et, List.map_append, List.sum_append, wN, ea]
    simp only [List.map_cons, List.map_nil, List.sum_cons, List.sum_nil, Nat.add_zero, em]
    split
    · rw [nI_add, nI_add]; congr 1; omega
    · rw [wy_nI hB hp (hl (k - 1) (by omega)) (hl k (by omega)), nI_add, nI_add]; congr 1; omega
theorem mins_nI {F : Nat → Nat → Int32} (hB : FB F) (hp : PlV F) {l : List Nat} (hl : ∀ i, i < l.length → l.getD i 0 < 20) : mins F l = nI ((l.map (mN F)).sum + wN F l l.length) := by
  rw [mins, mn_nI hB hp hl (Nat.le_refl _), List.take_length]
theorem tr_rel {β γ : Type} {z : Nat} {s1 : List Nat → β → β} {s2 : List Nat → γ → γ} {Rel : β → γ → Prop} (hst : ∀ pre b c, PX z pre → pre.length = z → Rel b c → Rel (s1 pre b) (s2 pre c)) : ∀ (k : Nat) (us : Nat → Bool) (pre : List Nat) (b : β) (c : γ), pre.length + k = z → PX z pre → (∀ i, i < z → (us i = true ↔ i ∈ pre)) → Rel b c → Rel (tr z s1 k us pre b) (tr z s2 k us pre c)
  | 0, us, pre, b, c, hl, hp, hu, hb => hst pre b c hp (by omega) hb
  | k + 1, us, pre, b, c, hl, hp, hu, hb => by
    have go : ∀ q, q ≤ z → Rel (fo (fun i b => if us i = true then b else tr z s1 k (fun j => us j || j == i) (pre ++ [i]) b) b q) (fo (fun i b => if us i = true then b else tr z s2 k (fun j => us j || j == i) (pre ++ [i]) b) c q) := by
      intro q
      induction q with
      | zero => intro _; exact hb
      | succ q ih =>
        intro hq
        show Rel (if us q = true then _ else _) (if us q = true then _ else _)
        split
        · exact ih (by omega)
        · rename_i hn
          have hnm : q ∉ pre := fun h => hn ((hu q (by omega)).mpr h)
          refine tr_rel hst k _ _ _ _ (by rw [List.length_append]; simp; omega) (hp.add (by omega) hnm) (fun i hi => ?_) (ih (by omega))
          rw [Bool.or_eq_true, hu i hi, List.mem_append]
          simp
    exact go z (Nat.le_refl z)
theorem hasL_mem {F : Nat → Nat → Int32} {l l' : List Nat} {v : Int32} (h : ∀ x, x ∈ l ↔ x ∈ l') : hasL F l v = hasL F l' v := by
  rw [Bool.eq_iff_iff, hasL, hasL, List.any_eq_true, List.any_eq_true]
  constructor
  · rintro ⟨x, h1, h2⟩; exact ⟨x, (h x).mp h1, h2⟩
  · rintro ⟨x, h1, h2⟩; exact ⟨x, (h x).mpr h1, h2⟩
noncomputable def trC (F : Nat → Nat → Int32) (L : List Nat) : Option (List Nat) := tr L.length (stC F L.length (fun i => L.getD i 0)) L.length (fun _ => false) [] none
section BEST
variable {F : Nat → Nat → Int32} {n nd : Nat} {R : Nat → List Nat} {D : Nat → Option Nat}
theorem kp_ordr (hF : NA F n) (hm : PM F n) (hB : FB F) (hD : DR n nd R D) (h5 : ∀ d, d < nd → (R d).length ≤ 5) (hK : KP F n nd R D) {d : Nat} (hd : d < nd) : ordr F (R d) :=
  (inT_iff (lt_of_mem (hD.lt hd) hD.1) (hD.2.2.2 d hd)).mp ((kp_iff hF hm hB hD h5).mpr hK d hd).2.2.1
/-- another order of one day -/
theorem kp_swap (hF : NA F n) (hB : FB F) {d : Nat} {l l' : List Nat} (hD : DR n nd (upR R d l) D) (hD' : DR n nd (upR R d l') D) (hd : d < nd) (h5 : l'.length ≤ 5) (hK : KP F n nd (upR R d l) D) (ho : ordr F l') (hmi : mins F l' ≤ F 14 d) : KP F n nd (upR R d l') D := by
  have hmem : ∀ x, x ∈ l ↔ x ∈ l' := by
    intro x
    constructor
    · intro h
      have h1 := hD.2.2.1 x d hd (by rw [upR_s]; exact h)
      have := (hD'.2.1 x d h1.1 h1.2).2
      rwa [upR_s] at this
    · intro h
      have h1 := hD'.2.2.1 x d hd (by rw [upR_s]; exact h)
      have := (hD.2.1 x d h1.1 h1.2).2
      rwa [upR_s] at this
  have hnd := hD.2.2.2 d hd
  have hnd' := hD'.2.2.2 d hd
  rw [upR_s] at hnd hnd'
  have hperm : l.Perm l' := (List.perm_ext_iff_of_nodup hnd hnd').mpr hmem
  have hl : ∀ x, x ∈ l → x < n := fun x hx => (hD.2.2.1 x d hd (by rw [upR_s]; exact hx)).1
  have hl' : ∀ x, x ∈ l' → x < n := fun x hx => hl x ((hmem x).mpr hx)
  have hsun : sunm F l' = sunm F l := by
    rw [sunm_nI hB (lt_of_mem hl hD.1), sunm_nI hB (lt_of_mem hl' hD.1), (hperm.map (sN F)).sum_nat]
  have hrow : ∀ e v, hasL F (upR R d l' e) v = hasL F (upR R d l e) v := by
    intro e v
    by_cases q : e = d
    · subst q; rw [upR_s, upR_s]; exact (hasL_mem hmem).symm
    · rw [upR_n q, upR_n q]
  obtain ⟨h1, h2⟩ := hK
  refine ⟨fun e he => ?_, fun s hs hsd a ha hb da ds hda hds => ?_⟩
  · obtain ⟨k1, k2, k3⟩ := h1 e he
    refine ⟨?_, ?_, fun q1 q2 => ?_⟩
    · by_cases q : e = d
      · subst q; rw [upR_s]; exact hmi
      · rw [upR_n q] at k1 ⊢; exact k1
    · by_cases q : e = d
      · subst q; rw [upR_s] at k2 ⊢; rw [hsun]; exact k2
      · rw [upR_n q] at k2 ⊢; exact k2
    · rw [hrow] at q2 ⊢; exact k3 q1 q2
  · rcases h2 s hs hsd a ha hb da ds hda hds with q | ⟨q1, q2⟩
    · exact Or.inl q
    · subst q1
      refine Or.inr ⟨rfl, ?_⟩
      by_cases q : da = d
      · subst q
        have e1 := (hD'.2.1 s da hs hds).2
        have e2 := (hD'.2.1 a da ha hda).2
        exact (ordr_ixo hF hD' hd (by rw [upR_s]; exact h5)).mp (by rw [upR_s]; exact ho) s a e1 e2 hb
      · rw [upR_n q] at q2 ⊢; exact q2
theorem okp_ordr {z : Nat} {P : Nat → Nat} {pre : List Nat} (hx : PX z pre) (hl : pre.length = z) : okp F z P pre ↔ ordr F (pre.map P) := by
  constructor
  · intro h i j hi hj hb
    rw [List.length_map] at hi hj
    rw [map_getD hi, map_getD hj] at hb
    obtain ⟨i', h1, h2⟩ := h i hi (pre.getD j 0) (hx.2 _ (getD_mem hj)) hb
    have := nodup_getD hx.1 (i := i') (j := j) (by omega) hj h2
    omega
  · intro h i hi j hj hb
    obtain ⟨j', h1, h2⟩ := mem_getD (nd_all hx.1 hx.2 hl j hj)
    refine ⟨j', h i j' (by rw [List.length_map]; exact hi) (by rw [List.length_map]; exact h1) ?_, h2⟩
    rw [map_getD hi, map_getD h1, h2]
    exact hb
theorem okp_ex (hF : NA F n) {z : Nat} {P : Nat → Nat} (hP : ∀ i, i < z → P i < 20) : ∃ q, PX z q ∧ q.length = z ∧ okp F z P q := by
  obtain ⟨rk, hrk⟩ := hF
  let le : Nat → Nat → Bool := fun i j => decide (rk (P i) ≤ rk (P j))
  have hperm := List.mergeSort_perm (List.range z) le
  have hpw := List.pairwise_mergeSort (le := le) (fun a b c h1 h2 => by simp only [le, decide_eq_true_eq] at *; omega) (fun a b => by simp only [le, Bool.or_eq_true, decide_eq_true_eq]; omega) (List.range z)
  generalize (List.range z).mergeSort le = q at hperm hpw
  have hmem : ∀ x, x ∈ q ↔ x < z := fun x => by rw [hperm.mem_iff, List.mem_range]
  refine ⟨q, ⟨hperm.nodup_iff.mpr List.nodup_range, fun i hi => (hmem i).mp hi⟩, by rw [hperm.length_eq, List.length_range], fun i hi j hj hb => ?_⟩
  obtain ⟨j', h1, h2⟩ := mem_getD ((hmem j).mpr hj)
  refine ⟨j', ?_, h2⟩
  have hi2 := (hmem _).mp (getD_mem hi)
  have h3 := (hrk _ _ (hP _ hi2) (by have := hP j hj; omega) hb).2.2
  rcases Nat.lt_trichotomy j' i with e | e | e
  · exact e
  · rw [← e, h2] at h3; omega
  · have := List.pairwise_iff_getElem.mp hpw i j' hi h1 e
    simp only [le, decide_eq_true_eq] at this
    rw [List.getD_eq_getElem?_getD, List.getElem?_eq_getElem hi] at h3
    rw [List.getD_eq_getElem?_getD, List.getElem?_eq_getElem h1] at h2
    simp only [Option.getD_some] at h2 h3
    rw [h2] at this
    omega
theorem trC_some (hF : NA F n) {L : List Nat} (hL : ∀ i, i < L.length → L.getD i 0 < 20) (h5 : L.length ≤ 5) : trC F L ≠ none := by
  obtain ⟨q, h1, h2, h3⟩ := okp_ex (F := F) hF (z := L.length) (P := fun i => L.getD i 0) hL
  refine tr_hit (Pb := fun b => b ≠ none) (q := q) (fun pre b hb => ?_) (fun b => ?_) h1 h2 _ _ [] q none rfl h2 (fun i hi => by simp)
  · unfold stC; split
    · simp
    · exact hb
  · unfold stC; split
    · simp
    · rename_i hn
      cases b with
      | some r => simp
      | none =>
        have := wN_bd F (q.map (fun i => L.getD i 0)) q.length
        exact absurd ⟨dB_t h3, show wN F _ _ < 2147483647 by omega⟩ hn
theorem best_rel (hF : NA F n) (hm : PM F n) (hB : FB F) (hp : PlV F) (hD : DR n nd R D) {d : Nat} (hd : d < nd) (h5 : ∀ d, d < nd → (R d).length ≤ 5) : ∃ r, trC F (Pl n D d) = some r ∧ DR n nd (upR R d r) D ∧ r.length = (R d).length ∧ (dB (KP F n nd (upR R d r) D) = true → bestO F n nd R D d = some r) ∧ (dB (KP F n nd (upR R d r) D) = false → bestO F n nd R D d = none) := by
  have hlen := Pl_len hD hd
  have hX := DX.of hD hd (h5 d hd)
  have hL : ∀ i, i < (Pl n D d).length → (Pl n D d).getD i 0 < 20 := fun i hi => by have := (Pl_mem.mp (getD_mem hi)).1; have := hD.1; omega
  have hsome := trC_some hF hL (by rw [hlen]; exact h5 d hd)
  unfold trC at hsome ⊢
  unfold bestO
  generalize hz : (Pl n D d).length = z at *
  generalize hPP : (fun i => (Pl n D d).getD i 0) = P at *
  have hP20 : ∀ i, i < z → P i < 20 := fun i hi => by rw [← hPP]; exact hL i hi
  have dr : ∀ pre, PX z pre → pre.length = z → DR n nd (upR R d (pre.map P)) D := fun pre h1 h2 => hX.dr h1 h2
  have h5' : ∀ pre : List Nat, pre.length = z → ∀ e, e < nd → (upR R d (pre.map P) e).length ≤ 5 := fun pre h2 e he => by
    by_cases q : e = d
    · subst q; rw [upR_s, List.length_map, h2, hlen]; exact h5 e he
    · rw [upR_n q]; exact h5 e he
  have l20 : ∀ pre, PX z pre → ∀ i, i < (pre.map P).length → (pre.map P).getD i 0 < 20 := fun pre h1 i hi => by
    rw [List.length_map] at hi
    rw [map_getD hi]
    exact hP20 _ (h1.2 _ (getD_mem hi))
  have pm : ∀ pre pre', PX z pre → pre.length = z → PX z pre' → pre'.length = z → ((pre.map P).map (mN F)).sum = ((pre'.map P).map (mN F)).sum := fun pre pre' a1 a2 b1 b2 => by
    have : pre.Perm pre' := (List.perm_ext_iff_of_nodup a1.1 b1.1).mpr (fun x => ⟨fun h => nd_all b1.1 b1.2 b2 x (a1.2 x h), fun h => nd_all a1.1 a1.2 a2 x (b1.2 x h)⟩)
    exact ((this.map P).map (mN F)).sum_nat
  have sbd : ∀ pre, PX z pre → pre.length = z → ((pre.map P).map (mN F)).sum ≤ 300 * z := fun pre h1 h2 => by
    have := sum_bd (g := mN F) (B := 300) (l := pre.map P) (fun x hx => by
      obtain ⟨y, hy, rfl⟩ := List.mem_map.mp hx
      obtain ⟨a, q1, q2⟩ := hB.1 _ (hP20 y (h1.2 y hy))
      rw [mN, q2, nI_clamp (by omega)]
      exact q1)
    rw [List.length_map, h2] at this
    exact this
  have hz5 : z ≤ 5 := by rw [hlen]; exact h5 d hd
  have mi : ∀ pre, PX z pre → mins F (pre.map P) = nI (((pre.map P).map (mN F)).sum + wN F (pre.map P) pre.length) := fun pre h1 => by rw [mins_nI hB hp (l20 pre h1), List.length_map]
  have cmpr : ∀ pre pre', PX z pre → pre.length = z → PX z pre' → pre'.length = z → (mins F (pre.map P) < mins F (pre'.map P) ↔ wN F (pre.map P) pre.length < wN F (pre'.map P) (pre'.map P).length) := fun pre pre' a1 a2 b1 b2 => by
    have w1 := wN_bd F (pre.map P) pre.length
    have w2 := wN_bd F (pre'.map P) pre'.length
    have s1 := sbd pre a1 a2
    have s2 := sbd pre' b1 b2
    have s3 := pm pre pre' a1 a2 b1 b2
    rw [mi pre a1, mi pre' b1, nI_ltI (by omega) (by omega), s3, List.length_map]
    omega
  have m100 : ∀ pre, PX z pre → pre.length = z → mins F (pre.map P) < 100000 := fun pre a1 a2 => by
    have w1 := wN_bd F (pre.map P) pre.length
    have s1 := sbd pre a1 a2
    rw [mi pre a1, e100k, nI_ltI (by omega) (by decide)]
    omega
  have rel := tr_rel (z := z) (s1 := stC F z P) (s2 := stM F n nd R D d P) (Rel := fun b1 b2 => (∀ r, b1 = some r → ∃ pre, PX z pre ∧ pre.length = z ∧ r = pre.map P ∧ ordr F r) ∧ ((b2 = none ∧ ∀ r, b1 = some r → ¬ KP F n nd (upR R d r) D) ∨ ∃ r, b1 = some r ∧ b2 = some r ∧ KP F n nd (upR R d r) D)) (fun pre b1 b2 hx hl hrel => by
    obtain ⟨r1, r2⟩ := hrel
    by_cases ho : ordr F (pre.map P)
    · have hok : dB (okp F z P pre) = true := dB_t ((okp_ordr hx hl).mpr ho)
      cases b1 with
      | none =>
        have hb2 : b2 = none := by
          rcases r2 with q | ⟨r, q, -⟩
          · exact q.1
          · cases q
        subst hb2
        have w1 := wN_bd F (pre.map P) pre.length
        have e1 : stC F z P pre none = some (pre.map P) := by rw [stC, if_pos ⟨hok, show wN F (pre.map P) pre.length < 2147483647 by omega⟩]
        rw [e1]
        refine ⟨fun r hr => by cases hr; exact ⟨pre, hx, hl, rfl, ho⟩, ?_⟩
        by_cases hk : KP F n nd (upR R d (pre.map P)) D
        · refine Or.inr ⟨_, rfl, ?_, hk⟩
          rw [stM, if_pos ⟨m100 pre hx hl, dB_t hk⟩]
        · refine Or.inl ⟨?_, fun r hr => by cases hr; exact hk⟩
          rw [stM, if_neg (fun q => hk (of_dB q.2))]
      | some r =>
        obtain ⟨pr, hx', hl', rfl, ho'⟩ := r1 r rfl
        have c1 := cmpr pre pr hx hl hx' hl'
        by_cases hw : wN F (pre.map P) pre.length < wN F (pr.map P) (pr.map P).length
        · have e1 : stC F z P pre (some (pr.map P)) = some (pre.map P) := by rw [stC, if_pos ⟨hok, hw⟩]
          rw [e1]
          refine ⟨fun r hr => by cases hr; exact ⟨pre, hx, hl, rfl, ho⟩, ?_⟩
          rcases r2 with ⟨q1, q2⟩ | ⟨r, q1, q2, q3⟩
          · subst q1
            by_cases hk : KP F n nd (upR R d (pre.map P)) D
            · exact Or.inr ⟨_, rfl, by rw [stM, if_pos ⟨m100 pre hx hl, dB_t hk⟩], hk⟩
            · exact Or.inl ⟨by rw [stM, if_neg (fun q => hk (of_dB q.2))], fun r hr => by cases hr; exact hk⟩
          · cases q1
            subst q2
            have hlt := c1.mpr hw
            have h14 := (q3.1 d hd).1
            rw [upR_s] at h14
            have hk := kp_swap hF hB (dr pr hx' hl') (dr pre hx hl) hd (by rw [List.length_map, hl]; exact hz5) q3 ho (Int32.le_trans (Int32.le_of_lt hlt) h14)
            exact Or.inr ⟨_, rfl, by rw [stM, if_pos ⟨hlt, dB_t hk⟩], hk⟩
        · have e1 : stC F z P pre (some (pr.map P)) = some (pr.map P) := by rw [stC, if_neg (fun q => hw q.2)]
          rw [e1]
          refine ⟨r1, ?_⟩
          have hge := Int32.not_lt.mp (fun q => hw (c1.mp q))
          rcases r2 with ⟨q1, q2⟩ | ⟨r, q1, q2, q3⟩
          · subst q1
            refine Or.inl ⟨?_, q2⟩
            rw [stM, if_neg]
            rintro ⟨-, q4⟩
            have q4 := of_dB q4
            have h14 := (q4.1 d hd).1
            rw [upR_s] at h14
            exact q2 _ rfl (kp_swap hF hB (dr pre hx hl) (dr pr hx' hl') hd (by rw [List.length_map, hl']; exact hz5) q4 ho' (Int32.le_trans hge h14))
          · cases q1
            subst q2
            refine Or.inr ⟨_, rfl, ?_, q3⟩
            rw [stM, if_neg (fun q => hw (c1.mp q.1))]
    · have e1 : stC F z P pre b1 = b1 := by rw [stC, if_neg (fun q => ho ((okp_ordr hx hl).mp (of_dB q.1)))]
      have e2 : stM F n nd R D d P pre b2 = b2 := by
        rw [stM, if_neg]
        rintro ⟨-, q⟩
        have := kp_ordr hF hm hB (dr pre hx hl) (h5' pre hl) (of_dB q) hd
        rw [upR_s] at this
        exact ho this
      rw [e1, e2]
      exact ⟨r1, r2⟩) z (fun _ => false) [] none none (by simp) ⟨List.nodup_nil, fun i hi => absurd hi List.not_mem_nil⟩ (fun i hi => by simp) ⟨(fun r hr => by cases hr), Or.inl ⟨rfl, (fun r hr => by cases hr)⟩⟩
  generalize tr z (stC F z P) z (fun _ => false) [] none = b1 at hsome rel ⊢
  generalize tr z (stM F n nd R D d P) z (fun _ => false) [] none = b2 at rel ⊢
  cases b1 with
  | none => exact absurd rfl hsome
  | some r =>
    obtain ⟨pre, h1, h2, h3, h4⟩ := rel.1 r rfl
    refine ⟨r, rfl, by rw [h3]; exact dr pre h1 h2, by rw [h3, List.length_map, h2, hlen], fun hk => ?_, fun hk => ?_⟩
    · rcases rel.2 with ⟨q1, q2⟩ | ⟨r', q1, q2, q3⟩
      · exact absurd (of_dB hk) (q2 r rfl)
      · cases q1; exact q2
    · rcases rel.2 with ⟨q1, q2⟩ | ⟨r', q1, q2, q3⟩
      · exact q1
      · cases q1; exact absurd q3 (of_dBf hk)
end BEST
