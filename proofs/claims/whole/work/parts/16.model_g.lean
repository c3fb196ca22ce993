/-! the reference: the search for a day's order -/
def FB (F : Nat → Nat → Int32) : Prop := (∀ s, s < 20 → ∃ a, a ≤ 300 ∧ F 2 s = nI a) ∧ ∀ p, p < 8 → ∃ w, w ≤ 120 ∧ F 12 p = nI w
theorem dst_nI {x y : Nat} (hx : x < 2 ^ 30) (hy : y < 2 ^ 30) : dst (nI x) (nI y) = nI (if y ≤ x then x - y else y - x) := by
  unfold dst
  by_cases h : y ≤ x
  · rw [if_pos (nI_le h (by omega)), if_pos h, pk_sub h]
  · rw [if_neg (fun q => h ((nI_leI (by omega) (by omega)).mp q)), if_neg h, pk_sub (by omega)]
theorem wy_bd {F : Nat → Nat → Int32} (hB : FB F) (hp : PlV F) {a b : Nat} (ha : a < 20) (hb : b < 20) : ∃ w, w ≤ 120 ∧ wy F a b = nI w := by
  obtain ⟨u, hu, eu⟩ := hB.2 _ (hp a ha).2
  obtain ⟨v, hv, ev⟩ := hB.2 _ (hp b hb).2
  refine ⟨_, ?_, by rw [wy, eu, ev, dst_nI (by omega) (by omega)]⟩
  split <;> omega
theorem mn_bd {F : Nat → Nat → Int32} (hB : FB F) (hp : PlV F) {l : List Nat} (hl : ∀ k, k < l.length → l.getD k 0 < 20) : ∀ k, k ≤ l.length → ∃ t, t ≤ 420 * k ∧ mn F l k = nI t
  | 0, _ => ⟨0, by omega, rfl⟩
  | k + 1, hk => by
    obtain ⟨t, ht, et⟩ := mn_bd hB hp hl k (by omega)
    obtain ⟨a, ha, ea⟩ := hB.1 _ (hl k (by omega))
    by_cases e : k = 0
    · refine ⟨t + (a + 0), by omega, ?_⟩
      rw [mn, if_pos e, et, ea, nI_add, nI_add]
    · obtain ⟨w, hw, ew⟩ := wy_bd hB hp (hl (k - 1) (by omega)) (hl k (by omega))
      refine ⟨t + (a + w), by omega, ?_⟩
      rw [mn, if_neg e, et, ea, ew, nI_add, nI_add]
theorem mins_bd {F : Nat → Nat → Int32} (hB : FB F) (hp : PlV F) {l : List Nat} (hz : l.length ≤ 5) (hl : ∀ k, k < l.length → l.getD k 0 < 20) : ∃ t, t ≤ 2100 ∧ mins F l = nI t := by
  obtain ⟨t, ht, et⟩ := mn_bd hB hp hl l.length (Nat.le_refl _)
  exact ⟨t, by omega, et⟩
theorem e100k : (100000 : Int32) = nI 100000 := by decide +kernel
def bm (F : Nat → Nat → Int32) (b : Option (List Nat)) : Int32 := match b with
  | none => 100000
  | some r => mins F r
noncomputable def stM (F : Nat → Nat → Int32) (n nd : Nat) (R : Nat → List Nat) (D : Nat → Option Nat) (d : Nat) (P : Nat → Nat) (pre : List Nat) (b : Option (List Nat)) : Option (List Nat) :=
  if mins F (pre.map P) < bm F b ∧ dB (KP F n nd (upR R d (pre.map P)) D) = true then some (pre.map P) else b
/-- what the days say of the other rows, and of day d's scenes, which are P 0 .. P (z-1) -/
def DX (n nd : Nat) (R : Nat → List Nat) (D : Nat → Option Nat) (d z : Nat) (P : Nat → Nat) : Prop := (n ≤ 20 ∧ d < nd ∧ z ≤ 5) ∧ (∀ s a, s < n → D s = some a → a < nd ∧ (a ≠ d → s ∈ R a)) ∧ (∀ s a, a < nd → a ≠ d → s ∈ R a → s < n ∧ D s = some a) ∧ (∀ a, a < nd → a ≠ d → (R a).Nodup) ∧ (∀ i, i < z → P i < n ∧ D (P i) = some d) ∧ (∀ s, s < n → D s = some d → ∃ i, i < z ∧ P i = s) ∧ ∀ i j, i < z → j < z → P i = P j → i = j
/-- pre: places below z, each once -/
def PX (z : Nat) (pre : List Nat) : Prop := pre.Nodup ∧ ∀ i, i ∈ pre → i < z
theorem PX.add {z : Nat} {pre : List Nat} {i : Nat} (h : PX z pre) (hi : i < z) (hn : i ∉ pre) : PX z (pre ++ [i]) := by
  refine ⟨?_, fun j hj => ?_⟩
  · rw [List.nodup_append]
    exact ⟨h.1, by simp, fun a ha b hb => by simp at hb; subst hb; exact fun e => hn (by rw [← e]; exact ha)⟩
  · rcases List.mem_append.mp hj with q | q
    · exact h.2 j q
    · simp at q; rw [q]; exact hi
theorem map_getD {P : Nat → Nat} {l : List Nat} {i : Nat} (h : i < l.length) : (l.map P).getD i 0 = P (l.getD i 0) := by
  rw [List.getD_eq_getElem?_getD, List.getD_eq_getElem?_getD, List.getElem?_map, List.getElem?_eq_getElem h]; rfl
theorem nodup_map {P : Nat → Nat} : ∀ {l : List Nat}, l.Nodup → (∀ i j, i ∈ l → j ∈ l → P i = P j → i = j) → (l.map P).Nodup
  | [], _, _ => List.nodup_nil
  | a :: l, hn, hi => by
    obtain ⟨h1, h2⟩ := List.nodup_cons.mp hn
    rw [List.map_cons, List.nodup_cons]
    refine ⟨fun hm => ?_, nodup_map h2 (fun i j h3 h4 => hi i j (List.mem_cons_of_mem _ h3) (List.mem_cons_of_mem _ h4))⟩
    obtain ⟨b, hb, e⟩ := List.mem_map.mp hm
    exact h1 (by rw [← hi b a (List.mem_cons_of_mem _ hb) List.mem_cons_self e]; exact hb)
theorem DX.dr {n nd : Nat} {R : Nat → List Nat} {D : Nat → Option Nat} {d z : Nat} {P : Nat → Nat} {pre : List Nat} (h : DX n nd R D d z P) (hp : PX z pre) (hl : pre.length = z) : DR n nd (upR R d (pre.map P)) D := by
  obtain ⟨⟨hn, hdn, hz⟩, d1, d2, d3, d4, d5, d6⟩ := h
  have hall := nd_all hp.1 hp.2 hl
  refine ⟨hn, fun s a hs ha => ?_, fun s a ha hm => ?_, fun a ha => ?_⟩
  · obtain ⟨q1, q2⟩ := d1 s a hs ha
    refine ⟨q1, ?_⟩
    by_cases e : a = d
    · subst e
      rw [upR_s]
      obtain ⟨i, hi, rfl⟩ := d5 s hs ha
      exact List.mem_map.mpr ⟨i, hall i hi, rfl⟩
    · rw [upR_n e]; exact q2 e
  · by_cases e : a = d
    · subst e
      rw [upR_s] at hm
      obtain ⟨i, hi, rfl⟩ := List.mem_map.mp hm
      exact d4 i (hp.2 i hi)
    · rw [upR_n e] at hm; exact d2 s a ha e hm
  · by_cases e : a = d
    · subst e
      rw [upR_s]
      exact nodup_map hp.1 (fun i j hi hj => d6 i j (hp.2 i hi) (hp.2 j hj))
    · rw [upR_n e]; exact d3 a ha e
def BR (F : Nat → Nat → Int32) (z : Nat) (m : Nat → Nat → Int32) (b : Option (List Nat)) : Prop := m 20 0 = bm F b ∧ ∀ r, b = some r → r.length = z ∧ ∀ i, i < z → m 19 i = nI (r.getD i 0) ∧ r.getD i 0 < 20
/-- what the search stands on: the reference but for row d's order -/
def TX (F : Nat → Nat → Int32) (n nd : Nat) (R : Nat → List Nat) (D : Nat → Option Nat) (d z : Nat) (P : Nat → Nat) (m : Nat → Nat → Int32) : Prop := nd ≤ 8 ∧ m 13 0 = nI nd ∧ (∀ k, isF k = true → m k = F k) ∧ PlV F ∧ (∀ a, a < nd → a ≠ d → rowM m a (R a)) ∧ MD8 n D m ∧ m 16 d = nI z ∧ ∀ i, i < z → m 18 i = nI (P i)
theorem TX.sm {F : Nat → Nat → Int32} {n nd : Nat} {R : Nat → List Nat} {D : Nat → Option Nat} {d z a : Nat} {P : Nat → Nat} {m m' : Nat → Nat → Int32} (h : TX F n nd R D d z P m) (hS : Sm [17, 19, 20] m m') (h17 : ∀ j, (j < 5 * d + a ∨ 5 * d + 5 ≤ j) → m' 17 j = m 17 j) : TX F n nd R D d z P m' := by
  obtain ⟨t1, t2, t3, t4, t5, t6, t7, t8⟩ := h
  refine ⟨t1, (congrFun (hS 13 (by decide)) 0).trans t2, film_congr hS (isF_no (by decide)) t3, t4, fun e he hne => rowM_congr (congrFun (hS 16 (by decide)) e) (fun k hk => h17 _ (by omega)) (t5 e he hne), ⟨(congrFun (hS 1 (by decide)) 0).trans t6.1, fun s hs => (congrFun (hS 8 (by decide)) s).trans (t6.2 s hs)⟩, (congrFun (hS 16 (by decide)) d).trans t7, fun i hi => (congrFun (hS 18 (by decide)) i).trans (t8 i hi)⟩
section MODEL
variable {f ro rs : Nat → Nat → Int32} {rw rb : Nat → Nat} {dp : Nat} {F : Nat → Nat → Int32} {n nd : Nat} {R : Nat → List Nat} {D : Nat → Option Nat} {d z : Nat} {P : Nat → Nat}
theorem t_tries (hX : DX n nd R D d z P) : ∀ (k : Nat) (m : Nat → Nat → Int32) (us : Nat → Bool) (uI : Int32) (pre : List Nat) (a : Nat) (b : Option (List Nat)), a = pre.length → a + k = z → PX z pre → (∀ i, i < z → (us i = true ↔ i ∈ pre)) → (∀ i, i < z → btB uI i = us i) → TX F n nd R D d z P m → (∀ i, i < a → m 17 (5 * d + i) = nI (P (pre.getD i 0))) → BR F z m b →
    Mt (dp + k + 5) 0 0 mX7_tries [.ref 45, .int (nI d), .int (nI a), .int uI] (HH f ro rs rw rb m) (fun r h' => ∃ m', r = none ∧ h' = HH f ro rs rw rb m' ∧ Sm [17, 19, 20] m m' ∧ (∀ j, (j < 5 * d + a ∨ 5 * d + 5 ≤ j) → m' 17 j = m 17 j) ∧ BR F z m' (tr z (stM F n nd R D d P) k us pre b)) := by
  obtain ⟨⟨hn, hdn, hz⟩, d1, d2, d3, d4, d5, d6⟩ := id hX
  intro k
  induction k with
  | zero =>
    intro m us uI pre a b ha hak hpx hus hub hT hpre hB
    refine Mt.of rfl rfl (Nat.le_of_ble_eq_true rfl) rfl ?_
    obtain ⟨t1, t2, t3, t4, t5, t6, t7, t8⟩ := id hT
    obtain rfl : a = z := by omega
    have hlen : (pre.map P).length = a := by rw [List.length_map]; exact ha.symm
    have hrow : rowM m d (pre.map P) := by
      refine ⟨by rw [hlen]; exact t7, by omega, fun i hi => ?_⟩
      rw [hlen] at hi
      rw [map_getD (by omega)]
      refine ⟨hpre i hi, ?_⟩
      have := (d4 _ (hpx.2 _ (getD_mem (l := pre) (k := i) (by omega)))).1
      omega
    have hMV : MV F nd (upR R d (pre.map P)) m := ⟨t1, t2, t3, t4, fun e he => by
      by_cases q : e = d
      · subst q; rw [upR_s]; exact hrow
      · rw [upR_n q]; exact t5 e he q⟩
    have hDR := hX.dr hpx ha.symm
    generalize hQ : (fun (r : Option Value) (h' : List AC) => ∃ m', r = none ∧ h' = HH f ro rs rw rb m' ∧ Sm [17, 19, 20] m m' ∧ (∀ j, (j < 5 * d + a ∨ 5 * d + 5 ≤ j) → m' 17 j = m 17 j) ∧ BR F a m' (tr a (stM F n nd R D d P) 0 us pre b)) = Q
    have stay : ¬ (mins F (pre.map P) < bm F b ∧ dB (KP F n nd (upR R d (pre.map P)) D) = true) → Q none (HH f ro rs rw rb m) := by
      intro hno
      rw [← hQ]
      refine ⟨m, rfl, rfl, Sm.rf, fun _ _ => rfl, ?_⟩
      show BR F a m (stM F n nd R D d P pre b)
      rw [stM, if_neg hno]
      exact hB
    have loop : (mins F (pre.map P) < bm F b ∧ dB (KP F n nd (upR R d (pre.map P)) D) = true) → ∀ (j i : Nat) (m' : Nat → Nat → Int32), a - i = j → i ≤ a → Sm [17, 19, 20] m m' → m' 17 = m 17 → m' 20 0 = mins F (pre.map P) → (∀ q, q < i → m' 19 q = nI ((pre.map P).getD q 0)) → V mX7_tries (dp + 0 + 5) 0 0 42 [some (.ref 45), some (.int (nI d)), some (.int (nI a)), some (.int uI), some (.int (mins F (pre.map P))), some (.int (nI i))] [] (HH f ro rs rw rb m') Q := by
      intro hyes j
      induction j using Nat.strongRecOn with
      | _ j ih =>
        intro i m' hj hi hS h17 h20 h19
        refine V.iload dX7_tries_42 rfl ?_
        refine V.ildn 2 dX7_tries_44 rfl rfl ?_
        first | refine V.icmp_geN 72 dX7_tries_45 (by decide) (by omega) (by omega) (fun c45 => ?_) (fun c45 => ?_) | refine V.icmp_ge 72 dX7_tries_45 (by decide) (fun c45 => ?_) (fun c45 => ?_)
        · exact V.vreturn dX7_tries_72 rfl (by rw [← hQ]; refine ⟨m', rfl, rfl, hS, fun j _ => congrFun h17 j, ?_⟩; show BR F a m' (stM F n nd R D d P pre b); rw [stM, if_pos hyes]; exact ⟨h20, fun r hr => by cases hr; exact ⟨hlen, fun q hq => ⟨h19 q (by omega), (hrow.2.2 q (by omega)).2⟩⟩⟩)
        · refine V.aldn 0 dX7_tries_48 rfl rfl ?_
          refine V.gf7_19 dX7_tries_49 f_X7_59 ?_
          refine V.iload dX7_tries_52 rfl ?_
          refine V.aldn 0 dX7_tries_54 rfl rfl ?_
          refine V.gf7_17 dX7_tries_55 f_X7_53 ?_
          refine V.iconst (nI 5) dX7_tries_58 (by decide +kernel) ?_
          refine V.ildn 1 dX7_tries_59 rfl rfl ?_
          first | refine V.imulN dX7_tries_60 ?_ | refine V.imul dX7_tries_60 ?_
          refine V.iload dX7_tries_61 rfl ?_
          first | refine V.iaddN dX7_tries_63 ?_ | refine V.iadd dX7_tries_63 ?_
          refine V.ald_60 dX7_tries_64 (ix_nI (by omega) (by decide)) ?_
          refine V.top ((congrFun h17 _).trans (hrow.2.2 i (by omega)).1) ?_
          refine V.ast_62 dX7_tries_65 (ix_nI (by omega) (by decide)) ?_
          first | refine V.iincN dX7_tries_66 rfl ?_ | refine V.iinc dX7_tries_66 rfl rfl ?_
          refine V.goto 42 dX7_tries_69 (by decide) ?_
          refine ih _ (by omega) (i + 1) _ rfl (by omega) (hS.up (by decide)) (by rw [up2_ne (by decide)]; exact h17) (by rw [up2_at, if_neg (by omega)]; exact h20) (fun q hq => ?_)
          rw [up2_at]
          split
          · rename_i e; rw [e.2]
          · rename_i e; exact h19 q (by omega)
    refine V.ildn 2 dX7_tries_0 rfl rfl ?_
    refine V.aldn 0 dX7_tries_1 rfl rfl ?_
    refine V.gf7_16 dX7_tries_2 f_X7_50 ?_
    refine V.ildn 1 dX7_tries_5 rfl rfl ?_
    refine V.ald_59 dX7_tries_6 (ix_nI (by omega) (by decide)) ?_
    refine V.top t7 ?_
    first | refine V.icmp_neN 73 dX7_tries_7 (by decide) (by omega) (by omega) (fun c7 => ?_) (fun c7 => ?_) | refine V.icmp_ne 73 dX7_tries_7 (by decide) (fun c7 => ?_) (fun c7 => ?_)
    · exact absurd rfl c7
    · refine V.aldn 0 dX7_tries_10 rfl rfl ?_
      refine V.ildn 1 dX7_tries_11 rfl rfl ?_
      refine V.cVi ((t_minutesOf ⟨t3 2 rfl, t3 3 rfl, t3 12 rfl⟩ t4 (by omega) hrow : Mt (dp + 2 + 2) 0 0 _ _ _ _)) dX7_tries_12 k_X7_117 rfl rfl rfl (Nat.le_of_ble_eq_true rfl) rfl ?_
      refine V.istore dX7_tries_15 (Nat.le_of_ble_eq_true rfl) ?_
      refine V.iload dX7_tries_17 rfl ?_
      refine V.aldn 0 dX7_tries_19 rfl rfl ?_
      refine V.gf7_20 dX7_tries_20 f_X7_129 ?_
      refine V.top hB.1 ?_
      refine V.icmp_ge 72 dX7_tries_23 (by decide) (fun c23 => ?_) (fun c23 => ?_)
      · exact V.vreturn dX7_tries_72 rfl (stay (fun q => Int32.not_le.mpr q.1 c23))
      · refine V.aldn 0 dX7_tries_26 rfl rfl ?_
        refine V.cVi ((t_keeps hMV hDR t6 : Mt (dp + 1 + 3) 0 0 _ _ _ _)) dX7_tries_27 k_X7_94 rfl rfl rfl (Nat.le_of_ble_eq_true rfl) rfl ?_
        first | refine V.if_eqB 72 dX7_tries_30 (by decide) (fun c30 => ?_) (fun c30 => ?_) | refine V.if_eqN 72 dX7_tries_30 (by decide) (by omega) (fun c30 => ?_) (fun c30 => ?_) | refine V.if_eq 72 dX7_tries_30 (by decide) (fun c30 => ?_) (fun c30 => ?_)
        · exact V.vreturn dX7_tries_72 rfl (stay (fun q => by rw [c30] at q; cases q.2))
        · refine V.aldn 0 dX7_tries_33 rfl rfl ?_
          refine V.iload dX7_tries_34 rfl ?_
          refine V.pf7_20 dX7_tries_36 (fp_X7_129 rfl) ?_
          refine V.iconst (nI 0) dX7_tries_39 (by decide +kernel) ?_
          refine V.istore dX7_tries_40 (Nat.le_of_ble_eq_true rfl) ?_
          exact loop ⟨Int32.not_le.mp c23, c30⟩ _ 0 _ rfl (Nat.zero_le _) (Sm.rf.up (by decide)) (up2_ne (by decide)) (by rw [up2_at, if_pos ⟨rfl, rfl⟩]) (fun q hq => absurd hq (Nat.not_lt_zero q))
  | succ k IH =>
    intro m us uI pre a b ha hak hpx hus hub hT hpre hB
    refine Mt.of rfl rfl (Nat.le_of_ble_eq_true rfl) rfl ?_
    obtain ⟨t1, t2, t3, t4, t5, t6, t7, t8⟩ := id hT
    generalize hst : (fun (i : Nat) (b : Option (List Nat)) => if us i = true then b else tr z (stM F n nd R D d P) k (fun j => us j || j == i) (pre ++ [i]) b) = g
    have hres : tr z (stM F n nd R D d P) (k + 1) us pre b = fo g b z := by rw [tr, hst]
    rw [hres]
    have hg : ∀ i b, g i b = if us i = true then b else tr z (stM F n nd R D d P) k (fun j => us j || j == i) (pre ++ [i]) b := fun i b => by rw [← hst]
    generalize hQ : (fun (r : Option Value) (h' : List AC) => ∃ m', r = none ∧ h' = HH f ro rs rw rb m' ∧ Sm [17, 19, 20] m m' ∧ (∀ j, (j < 5 * d + a ∨ 5 * d + 5 ≤ j) → m' 17 j = m 17 j) ∧ BR F z m' (fo g b z)) = Q
    have g1 : ∀ i, i ∉ pre → i < z → ∀ j, j < z → ((us j || j == i) = true ↔ j ∈ pre ++ [i]) := by
      intro i hnm hiz j hj
      rw [Bool.or_eq_true, hus j hj, List.mem_append]
      simp
    have g2 : ∀ i, i < z → ∀ j, j < z → btB (uI ||| (nI 1 <<< (nI i &&& 31))) j = (us j || j == i) := by
      intro i hi j hj
      rw [btB_set (by omega) (by omega), hub j hj]
    have g3 : ∀ m' i, TX F n nd R D d z P m' → TX F n nd R D d z P (up2 m' 17 (5 * d + a) (nI (P i))) := by
      intro m' i h
      exact h.sm (a := a) (Sm.rf.up (by decide)) (fun j hj => by rw [up2_at, if_neg (by omega)])
    have g4 : ∀ m' i, (∀ j, (j < 5 * d + a ∨ 5 * d + 5 ≤ j) → m' 17 j = m 17 j) → ∀ q, q < a + 1 → up2 m' 17 (5 * d + a) (nI (P i)) 17 (5 * d + q) = nI (P ((pre ++ [i]).getD q 0)) := by
      intro m' i h q hq
      rw [up2_at]
      by_cases e : q = a
      · subst e
        rw [if_pos ⟨rfl, rfl⟩]
        congr 2
        rw [List.getD_eq_getElem?_getD, List.getElem?_append_right (by omega), ha]
        simp
      · rw [if_neg (by omega), h _ (by omega), hpre q (by omega)]
        congr 2
        rw [List.getD_eq_getElem?_getD, List.getD_eq_getElem?_getD, List.getElem?_append_left (by omega)]
    have g5 : ∀ m' i, BR F z m' (fo g b i) → BR F z (up2 m' 17 (5 * d + a) (nI (P i))) (fo g b i) := by
      intro m' i h
      refine ⟨by rw [up2_at, if_neg (by omega)]; exact h.1, fun r hr => ⟨(h.2 r hr).1, fun q hq => by rw [up2_at, if_neg (by omega)]; exact (h.2 r hr).2 q hq⟩⟩
    have loop : ∀ (j i : Nat) (m' : Nat → Nat → Int32) (o5 : Option Value), z - i = j → i ≤ z → Sm [17, 19, 20] m m' → (∀ j, (j < 5 * d + a ∨ 5 * d + 5 ≤ j) → m' 17 j = m 17 j) → BR F z m' (fo g b i) → V mX7_tries (dp + (k + 1) + 5) 0 0 76 [some (.ref 45), some (.int (nI d)), some (.int (nI a)), some (.int uI), some (.int (nI i)), o5] [] (HH f ro rs rw rb m') Q := by
      intro j
      induction j using Nat.strongRecOn with
      | _ j ih =>
        intro i m' o5 hj hi hS h17 hB'
        have hT' := hT.sm hS h17
        obtain ⟨u1, u2, u3, u4, u5, u6, u7, u8⟩ := id hT'
        refine V.iload dX7_tries_76 rfl ?_
        refine V.aldn 0 dX7_tries_78 rfl rfl ?_
        refine V.gf7_16 dX7_tries_79 f_X7_50 ?_
        refine V.ildn 1 dX7_tries_82 rfl rfl ?_
        refine V.ald_59 dX7_tries_83 (ix_nI (by omega) (by decide)) ?_
        refine V.top u7 ?_
        first | refine V.icmp_geN 137 dX7_tries_84 (by decide) (by omega) (by omega) (fun c84 => ?_) (fun c84 => ?_) | refine V.icmp_ge 137 dX7_tries_84 (by decide) (fun c84 => ?_) (fun c84 => ?_)
        · exact V.vreturn dX7_tries_137 rfl (by rw [← hQ]; obtain rfl : i = z := (by omega); exact ⟨m', rfl, rfl, hS, h17, hB'⟩)
        · refine V.ildn 3 dX7_tries_87 rfl rfl ?_
          refine V.iload dX7_tries_88 rfl ?_
          refine V.ishr dX7_tries_90 ?_
          refine V.iconst (nI 1) dX7_tries_91 (by decide +kernel) ?_
          refine V.iand dX7_tries_92 ?_
          refine V.iconst (nI 1) dX7_tries_93 (by decide +kernel) ?_
          refine V.icmp_ne 100 dX7_tries_94 (by decide) (fun c94 => ?_) (fun c94 => ?_)
          · have hui : ¬ us i = true := fun q => c94 (of_decide_eq_true (by rw [← hub i (by omega)] at q; exact q))
            have hnm : i ∉ pre := fun q => hui ((hus i (by omega)).mpr q)
            refine V.aldn 0 dX7_tries_100 rfl rfl ?_
            refine V.gf7_17 dX7_tries_101 f_X7_53 ?_
            refine V.iconst (nI 5) dX7_tries_104 (by decide +kernel) ?_
            refine V.ildn 1 dX7_tries_105 rfl rfl ?_
            first | refine V.imulN dX7_tries_106 ?_ | refine V.imul dX7_tries_106 ?_
            refine V.ildn 2 dX7_tries_107 rfl rfl ?_
            first | refine V.iaddN dX7_tries_108 ?_ | refine V.iadd dX7_tries_108 ?_
            refine V.aldn 0 dX7_tries_109 rfl rfl ?_
            refine V.gf7_18 dX7_tries_110 f_X7_56 ?_
            refine V.iload dX7_tries_113 rfl ?_
            refine V.ald_61 dX7_tries_115 (ix_nI (by omega) (by decide)) ?_
            refine V.top (u8 i (by omega)) ?_
            refine V.ast_60 dX7_tries_116 (ix_nI (by omega) (by decide)) ?_
            refine V.aldn 0 dX7_tries_117 rfl rfl ?_
            refine V.ildn 1 dX7_tries_118 rfl rfl ?_
            refine V.ildn 2 dX7_tries_119 rfl rfl ?_
            refine V.iconst (nI 1) dX7_tries_120 (by decide +kernel) ?_
            first | refine V.iaddN dX7_tries_121 ?_ | refine V.iadd dX7_tries_121 ?_
            refine V.ildn 3 dX7_tries_122 rfl rfl ?_
            refine V.iconst (nI 1) dX7_tries_123 (by decide +kernel) ?_
            refine V.iload dX7_tries_124 rfl ?_
            refine V.ishl dX7_tries_126 ?_
            refine V.ior dX7_tries_127 ?_
            refine V.cVe (IH (up2 m' 17 (5 * d + a) (nI (P i))) (fun j => us j || j == i) _ (pre ++ [i]) (a + 1) (fo g b i) (by rw [List.length_append]; simp; exact ha) (by omega) (hpx.add (by omega) hnm) (g1 i hnm (by omega)) (g2 i (by omega)) (g3 m' i hT') (g4 m' i h17) (g5 m' i hB')) dX7_tries_128 k_X7_132 rfl rfl rfl (Nat.le_of_ble_eq_true rfl) rfl ?_
            rintro _ _ ⟨m2, rfl, rfl, hS2, h172, hB2⟩
            refine V.eqs (st' := []) rfl ?_
            refine V.iincN dX7_tries_131 rfl ?_
            refine V.goto 76 dX7_tries_134 (by decide) ?_
            refine ih _ (by omega) (i + 1) m2 _ rfl (by omega) ((hS.up (by decide)).tr hS2) (fun j hj => by rw [h172 j (by omega), up2_at, if_neg (by omega)]; exact h17 j hj) ?_
            show BR F z m2 (g i (fo g b i))
            rw [hg, if_neg hui]
            exact hB2
          · have hui : us i = true := by rw [← hub i (by omega)]; exact decide_eq_true c94
            refine V.goto 131 dX7_tries_97 (by decide) ?_
            refine V.iincN dX7_tries_131 rfl ?_
            refine V.goto 76 dX7_tries_134 (by decide) ?_
            refine ih _ (by omega) (i + 1) m' _ rfl (by omega) hS h17 ?_
            show BR F z m' (g i (fo g b i))
            rw [hg, if_pos hui]
            exact hB'
    refine V.ildn 2 dX7_tries_0 rfl rfl ?_
    refine V.aldn 0 dX7_tries_1 rfl rfl ?_
    refine V.gf7_16 dX7_tries_2 f_X7_50 ?_
    refine V.ildn 1 dX7_tries_5 rfl rfl ?_
    refine V.ald_59 dX7_tries_6 (ix_nI (by omega) (by decide)) ?_
    refine V.top t7 ?_
    first | refine V.icmp_neN 73 dX7_tries_7 (by decide) (by omega) (by omega) (fun c7 => ?_) (fun c7 => ?_) | refine V.icmp_ne 73 dX7_tries_7 (by decide) (fun c7 => ?_) (fun c7 => ?_)
    · refine V.iconst (nI 0) dX7_tries_73 (by decide +kernel) ?_
      refine V.istore dX7_tries_74 (Nat.le_of_ble_eq_true rfl) ?_
      exact loop _ 0 m _ rfl (Nat.zero_le _) Sm.rf (fun _ _ => rfl) hB
    · exact absurd c7 (by omega)
end MODEL
