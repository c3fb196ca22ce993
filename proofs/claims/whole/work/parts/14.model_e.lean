/-! the reference: rows kept and brought back, taken, traded -/
theorem up2_at (g : Nat → Nat → Int32) (i j : Nat) (v : Int32) (a b : Nat) : up2 g i j v a b = if a = i ∧ b = j then v else g a b := by
  unfold up2 upd
  by_cases h1 : a = i
  · subst h1
    by_cases h2 : b = j
    · simp [h2]
    · simp [h2]
  · simp [h1]
def Sm (ks : List Nat) (m m' : Nat → Nat → Int32) : Prop := ∀ k, k ∉ ks → m' k = m k
theorem Sm.rf {ks : List Nat} {m : Nat → Nat → Int32} : Sm ks m m := fun _ _ => rfl
theorem Sm.up {ks : List Nat} {m m' : Nat → Nat → Int32} {i j : Nat} {v : Int32} (h : Sm ks m m') (hi : i ∈ ks) : Sm ks m (up2 m' i j v) := by
  intro k hk
  rw [up2_ne (fun e => hk (by rw [e]; exact hi))]
  exact h k hk
theorem Sm.tr {ks : List Nat} {m m' m'' : Nat → Nat → Int32} (h : Sm ks m m') (h' : Sm ks m' m'') : Sm ks m m'' := fun k hk => (h' k hk).trans (h k hk)
theorem Sm.wk {ks ks' : List Nat} {m m' : Nat → Nat → Int32} (h : Sm ks m m') (hs : ∀ k, k ∈ ks → k ∈ ks') : Sm ks' m m' := fun k hk => h k (fun q => hk (hs k q))
def MS (F : Nat → Nat → Int32) (n nd : Nat) (R : Nat → List Nat) (D : Nat → Option Nat) (m : Nat → Nat → Int32) : Prop := MV F nd R m ∧ DR n nd R D ∧ MD8 n D m
theorem rowM_congr {m m' : Nat → Nat → Int32} {d : Nat} {l : List Nat} (h1 : m' 16 d = m 16 d) (h2 : ∀ k, k < 5 → m' 17 (5 * d + k) = m 17 (5 * d + k)) (h : rowM m d l) : rowM m' d l :=
  ⟨h1.trans h.1, h.2.1, fun k hk => ⟨(h2 k (by have := h.2.1; omega)).trans (h.2.2 k hk).1, (h.2.2 k hk).2⟩⟩
theorem film_congr {F m m' : Nat → Nat → Int32} {ks : List Nat} (hs : Sm ks m m') (hk : ∀ k, isF k = true → k ∉ ks) (h : ∀ k, isF k = true → m k = F k) : ∀ k, isF k = true → m' k = F k := fun k q => (hs k (hk k q)).trans (h k q)
theorem isF_no {ks : List Nat} (h : ks.all (fun k => !isF k) = true) : ∀ k, isF k = true → k ∉ ks := by
  intro k hk hm
  have := List.all_eq_true.mp h k hm
  rw [hk] at this
  cases this
def upR (R : Nat → List Nat) (d : Nat) (l : List Nat) : Nat → List Nat := fun a => if a = d then l else R a
theorem upR_s (R : Nat → List Nat) (d : Nat) (l : List Nat) : upR R d l d = l := if_pos rfl
theorem upR_n {R : Nat → List Nat} {d a : Nat} {l : List Nat} (h : a ≠ d) : upR R d l a = R a := if_neg h
def upD (D : Nat → Option Nat) (s : Nat) (o : Option Nat) : Nat → Option Nat := fun a => if a = s then o else D a
theorem upD_s (D : Nat → Option Nat) (s : Nat) (o : Option Nat) : upD D s o s = o := if_pos rfl
theorem upD_n {D : Nat → Option Nat} {s a : Nat} {o : Option Nat} (h : a ≠ s) : upD D s o a = D a := if_neg h
theorem getD_erase {l : List Nat} {s i : Nat} (hm : s ∈ l) : (l.erase s).getD i 0 = if i < l.idxOf s then l.getD i 0 else l.getD (i + 1) 0 := by
  rw [List.erase_eq_eraseIdx_of_idxOf (i := l.idxOf s) rfl]
  simp only [List.getD_eq_getElem?_getD, List.getElem?_eraseIdx]
  split <;> rfl
section MODEL
variable {f ro rs : Nat → Nat → Int32} {rw rb : Nat → Nat} {m : Nat → Nat → Int32} {dp : Nat} {F : Nat → Nat → Int32} {n nd : Nat} {R : Nat → List Nat} {D : Nat → Option Nat}
theorem t_keepAll : Mt (dp + 1) 0 0 mX7_keepAll [.ref 45] (HH f ro rs rw rb m) (fun r h' => ∃ m', r = none ∧ h' = HH f ro rs rw rb m' ∧ Sm [22, 23, 24] m m' ∧ (∀ j, j < 40 → m' 22 j = m 17 j) ∧ (∀ j, j < 8 → m' 23 j = m 16 j) ∧ (∀ j, j < 20 → m' 24 j = m 8 j)) := by
  refine Mt.of rfl rfl (Nat.le_of_ble_eq_true rfl) rfl ?_
  generalize hQ : (fun (r : Option Value) (h' : List AC) => ∃ m', r = none ∧ h' = HH f ro rs rw rb m' ∧ Sm [22, 23, 24] m m' ∧ (∀ j, j < 40 → m' 22 j = m 17 j) ∧ (∀ j, j < 8 → m' 23 j = m 16 j) ∧ (∀ j, j < 20 → m' 24 j = m 8 j)) = Q
  have loop3 : ∀ (j k : Nat) (m' : Nat → Nat → Int32), 20 - k = j → k ≤ 20 → Sm [22, 23, 24] m m' → (∀ j, j < 40 → m' 22 j = m 17 j) → (∀ j, j < 8 → m' 23 j = m 16 j) → (∀ j, j < k → m' 24 j = m 8 j) → V mX7_keepAll (dp + 1) 0 0 54 [some (.ref 45), some (.int (nI k))] [] (HH f ro rs rw rb m') Q := by
    intro j
    induction j using Nat.strongRecOn with
    | _ j ih =>
      intro k m' hj hk hS a1 a2 a3
      refine V.ildn 1 dX7_keepAll_54 rfl rfl ?_
      refine V.bipush (nI 20) dX7_keepAll_55 (by decide +kernel) ?_
      first | refine V.icmp_geN 78 dX7_keepAll_57 (by decide) (by omega) (by omega) (fun c57 => ?_) (fun c57 => ?_) | refine V.icmp_ge 78 dX7_keepAll_57 (by decide) (fun c57 => ?_) (fun c57 => ?_)
      · exact V.vreturn dX7_keepAll_78 rfl (by rw [← hQ]; exact ⟨m', rfl, rfl, hS, a1, a2, fun j hj => a3 j (by omega)⟩)
      · refine V.aldn 0 dX7_keepAll_60 rfl rfl ?_
        refine V.gf7_24 dX7_keepAll_61 f_X7_71 ?_
        refine V.ildn 1 dX7_keepAll_64 rfl rfl ?_
        refine V.aldn 0 dX7_keepAll_65 rfl rfl ?_
        refine V.gf7_8 dX7_keepAll_66 f_X7_29 ?_
        refine V.ildn 1 dX7_keepAll_69 rfl rfl ?_
        refine V.ald_52 dX7_keepAll_70 (ix_nI (by omega) (by decide)) ?_
        refine V.ast_66 dX7_keepAll_71 (ix_nI (by omega) (by decide)) ?_
        first | refine V.iincN dX7_keepAll_72 rfl ?_ | refine V.iinc dX7_keepAll_72 rfl rfl ?_
        refine V.goto 54 dX7_keepAll_75 (by decide) ?_
        refine ih _ (by omega) (k + 1) _ rfl (by omega) (hS.up (by decide)) (fun j hj => by rw [up2_at, if_neg (by omega)]; exact a1 j hj) (fun j hj => by rw [up2_at, if_neg (by omega)]; exact a2 j hj) (fun j hj => ?_)
        rw [up2_at]
        split
        · rename_i q; rw [q.2, hS 8 (by decide)]
        · exact a3 j (by omega)
  have loop2 : ∀ (j k : Nat) (m' : Nat → Nat → Int32), 8 - k = j → k ≤ 8 → Sm [22, 23, 24] m m' → (∀ j, j < 40 → m' 22 j = m 17 j) → (∀ j, j < k → m' 23 j = m 16 j) → V mX7_keepAll (dp + 1) 0 0 28 [some (.ref 45), some (.int (nI k))] [] (HH f ro rs rw rb m') Q := by
    intro j
    induction j using Nat.strongRecOn with
    | _ j ih =>
      intro k m' hj hk hS a1 a2
      refine V.ildn 1 dX7_keepAll_28 rfl rfl ?_
      refine V.bipush (nI 8) dX7_keepAll_29 (by decide +kernel) ?_
      first | refine V.icmp_geN 52 dX7_keepAll_31 (by decide) (by omega) (by omega) (fun c31 => ?_) (fun c31 => ?_) | refine V.icmp_ge 52 dX7_keepAll_31 (by decide) (fun c31 => ?_) (fun c31 => ?_)
      · refine V.iconst (nI 0) dX7_keepAll_52 (by decide +kernel) ?_
        refine V.istn 1 dX7_keepAll_53 rfl (Nat.le_of_ble_eq_true rfl) ?_
        exact loop3 20 0 m' (by omega) (by omega) hS a1 (fun j hj => a2 j (by omega)) (fun j hj => absurd hj (Nat.not_lt_zero j))
      · refine V.aldn 0 dX7_keepAll_34 rfl rfl ?_
        refine V.gf7_23 dX7_keepAll_35 f_X7_68 ?_
        refine V.ildn 1 dX7_keepAll_38 rfl rfl ?_
        refine V.aldn 0 dX7_keepAll_39 rfl rfl ?_
        refine V.gf7_16 dX7_keepAll_40 f_X7_50 ?_
        refine V.ildn 1 dX7_keepAll_43 rfl rfl ?_
        refine V.ald_59 dX7_keepAll_44 (ix_nI (by omega) (by decide)) ?_
        refine V.ast_65 dX7_keepAll_45 (ix_nI (by omega) (by decide)) ?_
        first | refine V.iincN dX7_keepAll_46 rfl ?_ | refine V.iinc dX7_keepAll_46 rfl rfl ?_
        refine V.goto 28 dX7_keepAll_49 (by decide) ?_
        refine ih _ (by omega) (k + 1) _ rfl (by omega) (hS.up (by decide)) (fun j hj => by rw [up2_at, if_neg (by omega)]; exact a1 j hj) (fun j hj => ?_)
        rw [up2_at]
        split
        · rename_i q; rw [q.2, hS 16 (by decide)]
        · exact a2 j (by omega)
  have loop1 : ∀ (j k : Nat) (m' : Nat → Nat → Int32), 40 - k = j → k ≤ 40 → Sm [22, 23, 24] m m' → (∀ j, j < k → m' 22 j = m 17 j) → V mX7_keepAll (dp + 1) 0 0 2 [some (.ref 45), some (.int (nI k))] [] (HH f ro rs rw rb m') Q := by
    intro j
    induction j using Nat.strongRecOn with
    | _ j ih =>
      intro k m' hj hk hS a1
      refine V.ildn 1 dX7_keepAll_2 rfl rfl ?_
      refine V.bipush (nI 40) dX7_keepAll_3 (by decide +kernel) ?_
      first | refine V.icmp_geN 26 dX7_keepAll_5 (by decide) (by omega) (by omega) (fun c5 => ?_) (fun c5 => ?_) | refine V.icmp_ge 26 dX7_keepAll_5 (by decide) (fun c5 => ?_) (fun c5 => ?_)
      · refine V.iconst (nI 0) dX7_keepAll_26 (by decide +kernel) ?_
        refine V.istn 1 dX7_keepAll_27 rfl (Nat.le_of_ble_eq_true rfl) ?_
        exact loop2 8 0 m' (by omega) (by omega) hS (fun j hj => a1 j (by omega)) (fun j hj => absurd hj (Nat.not_lt_zero j))
      · refine V.aldn 0 dX7_keepAll_8 rfl rfl ?_
        refine V.gf7_22 dX7_keepAll_9 f_X7_65 ?_
        refine V.ildn 1 dX7_keepAll_12 rfl rfl ?_
        refine V.aldn 0 dX7_keepAll_13 rfl rfl ?_
        refine V.gf7_17 dX7_keepAll_14 f_X7_53 ?_
        refine V.ildn 1 dX7_keepAll_17 rfl rfl ?_
        refine V.ald_60 dX7_keepAll_18 (ix_nI (by omega) (by decide)) ?_
        refine V.ast_64 dX7_keepAll_19 (ix_nI (by omega) (by decide)) ?_
        first | refine V.iincN dX7_keepAll_20 rfl ?_ | refine V.iinc dX7_keepAll_20 rfl rfl ?_
        refine V.goto 2 dX7_keepAll_23 (by decide) ?_
        refine ih _ (by omega) (k + 1) _ rfl (by omega) (hS.up (by decide)) (fun j hj => ?_)
        rw [up2_at]
        split
        · rename_i q; rw [q.2, hS 17 (by decide)]
        · exact a1 j (by omega)
  refine V.iconst (nI 0) dX7_keepAll_0 (by decide +kernel) ?_
  refine V.istn 1 dX7_keepAll_1 rfl (Nat.le_of_ble_eq_true rfl) ?_
  exact loop1 40 0 m (by omega) (by omega) Sm.rf (fun j hj => absurd hj (Nat.not_lt_zero j))
theorem t_backAll : Mt (dp + 1) 0 0 mX7_backAll [.ref 45] (HH f ro rs rw rb m) (fun r h' => ∃ m', r = none ∧ h' = HH f ro rs rw rb m' ∧ Sm [17, 16, 8] m m' ∧ (∀ j, j < 40 → m' 17 j = m 22 j) ∧ (∀ j, j < 8 → m' 16 j = m 23 j) ∧ (∀ j, j < 20 → m' 8 j = m 24 j)) := by
  refine Mt.of rfl rfl (Nat.le_of_ble_eq_true rfl) rfl ?_
  generalize hQ : (fun (r : Option Value) (h' : List AC) => ∃ m', r = none ∧ h' = HH f ro rs rw rb m' ∧ Sm [17, 16, 8] m m' ∧ (∀ j, j < 40 → m' 17 j = m 22 j) ∧ (∀ j, j < 8 → m' 16 j = m 23 j) ∧ (∀ j, j < 20 → m' 8 j = m 24 j)) = Q
  have loop3 : ∀ (j k : Nat) (m' : Nat → Nat → Int32), 20 - k = j → k ≤ 20 → Sm [17, 16, 8] m m' → (∀ j, j < 40 → m' 17 j = m 22 j) → (∀ j, j < 8 → m' 16 j = m 23 j) → (∀ j, j < k → m' 8 j = m 24 j) → V mX7_backAll (dp + 1) 0 0 54 [some (.ref 45), some (.int (nI k))] [] (HH f ro rs rw rb m') Q := by
    intro j
    induction j using Nat.strongRecOn with
    | _ j ih =>
      intro k m' hj hk hS a1 a2 a3
      refine V.ildn 1 dX7_backAll_54 rfl rfl ?_
      refine V.bipush (nI 20) dX7_backAll_55 (by decide +kernel) ?_
      first | refine V.icmp_geN 78 dX7_backAll_57 (by decide) (by omega) (by omega) (fun c57 => ?_) (fun c57 => ?_) | refine V.icmp_ge 78 dX7_backAll_57 (by decide) (fun c57 => ?_) (fun c57 => ?_)
      · exact V.vreturn dX7_backAll_78 rfl (by rw [← hQ]; exact ⟨m', rfl, rfl, hS, a1, a2, fun j hj => a3 j (by omega)⟩)
      · refine V.aldn 0 dX7_backAll_60 rfl rfl ?_
        refine V.gf7_8 dX7_backAll_61 f_X7_29 ?_
        refine V.ildn 1 dX7_backAll_64 rfl rfl ?_
        refine V.aldn 0 dX7_backAll_65 rfl rfl ?_
        refine V.gf7_24 dX7_backAll_66 f_X7_71 ?_
        refine V.ildn 1 dX7_backAll_69 rfl rfl ?_
        refine V.ald_66 dX7_backAll_70 (ix_nI (by omega) (by decide)) ?_
        refine V.ast_52 dX7_backAll_71 (ix_nI (by omega) (by decide)) ?_
        first | refine V.iincN dX7_backAll_72 rfl ?_ | refine V.iinc dX7_backAll_72 rfl rfl ?_
        refine V.goto 54 dX7_backAll_75 (by decide) ?_
        refine ih _ (by omega) (k + 1) _ rfl (by omega) (hS.up (by decide)) (fun j hj => by rw [up2_at, if_neg (by omega)]; exact a1 j hj) (fun j hj => by rw [up2_at, if_neg (by omega)]; exact a2 j hj) (fun j hj => ?_)
        rw [up2_at]
        split
        · rename_i q; rw [q.2, hS 24 (by decide)]
        · exact a3 j (by omega)
  have loop2 : ∀ (j k : Nat) (m' : Nat → Nat → Int32), 8 - k = j → k ≤ 8 → Sm [17, 16, 8] m m' → (∀ j, j < 40 → m' 17 j = m 22 j) → (∀ j, j < k → m' 16 j = m 23 j) → V mX7_backAll (dp + 1) 0 0 28 [some (.ref 45), some (.int (nI k))] [] (HH f ro rs rw rb m') Q := by
    intro j
    induction j using Nat.strongRecOn with
    | _ j ih =>
      intro k m' hj hk hS a1 a2
      refine V.ildn 1 dX7_backAll_28 rfl rfl ?_
      refine V.bipush (nI 8) dX7_backAll_29 (by decide +kernel) ?_
      first | refine V.icmp_geN 52 dX7_backAll_31 (by decide) (by omega) (by omega) (fun c31 => ?_) (fun c31 => ?_) | refine V.icmp_ge 52 dX7_backAll_31 (by decide) (fun c31 => ?_) (fun c31 => ?_)
      · refine V.iconst (nI 0) dX7_backAll_52 (by decide +kernel) ?_
        refine V.istn 1 dX7_backAll_53 rfl (Nat.le_of_ble_eq_true rfl) ?_
        exact loop3 20 0 m' (by omega) (by omega) hS a1 (fun j hj => a2 j (by omega)) (fun j hj => absurd hj (Nat.not_lt_zero j))
      · refine V.aldn 0 dX7_backAll_34 rfl rfl ?_
        refine V.gf7_16 dX7_backAll_35 f_X7_50 ?_
        refine V.ildn 1 dX7_backAll_38 rfl rfl ?_
        refine V.aldn 0 dX7_backAll_39 rfl rfl ?_
        refine V.gf7_23 dX7_backAll_40 f_X7_68 ?_
        refine V.ildn 1 dX7_backAll_43 rfl rfl ?_
        refine V.ald_65 dX7_backAll_44 (ix_nI (by omega) (by decide)) ?_
        refine V.ast_59 dX7_backAll_45 (ix_nI (by omega) (by decide)) ?_
        first | refine V.iincN dX7_backAll_46 rfl ?_ | refine V.iinc dX7_backAll_46 rfl rfl ?_
        refine V.goto 28 dX7_backAll_49 (by decide) ?_
        refine ih _ (by omega) (k + 1) _ rfl (by omega) (hS.up (by decide)) (fun j hj => by rw [up2_at, if_neg (by omega)]; exact a1 j hj) (fun j hj => ?_)
        rw [up2_at]
        split
        · rename_i q; rw [q.2, hS 23 (by decide)]
        · exact a2 j (by omega)
  have loop1 : ∀ (j k : Nat) (m' : Nat → Nat → Int32), 40 - k = j → k ≤ 40 → Sm [17, 16, 8] m m' → (∀ j, j < k → m' 17 j = m 22 j) → V mX7_backAll (dp + 1) 0 0 2 [some (.ref 45), some (.int (nI k))] [] (HH f ro rs rw rb m') Q := by
    intro j
    induction j using Nat.strongRecOn with
    | _ j ih =>
      intro k m' hj hk hS a1
      refine V.ildn 1 dX7_backAll_2 rfl rfl ?_
      refine V.bipush (nI 40) dX7_backAll_3 (by decide +kernel) ?_
      first | refine V.icmp_geN 26 dX7_backAll_5 (by decide) (by omega) (by omega) (fun c5 => ?_) (fun c5 => ?_) | refine V.icmp_ge 26 dX7_backAll_5 (by decide) (fun c5 => ?_) (fun c5 => ?_)
      · refine V.iconst (nI 0) dX7_backAll_26 (by decide +kernel) ?_
        refine V.istn 1 dX7_backAll_27 rfl (Nat.le_of_ble_eq_true rfl) ?_
        exact loop2 8 0 m' (by omega) (by omega) hS (fun j hj => a1 j (by omega)) (fun j hj => absurd hj (Nat.not_lt_zero j))
      · refine V.aldn 0 dX7_backAll_8 rfl rfl ?_
        refine V.gf7_17 dX7_backAll_9 f_X7_53 ?_
        refine V.ildn 1 dX7_backAll_12 rfl rfl ?_
        refine V.aldn 0 dX7_backAll_13 rfl rfl ?_
        refine V.gf7_22 dX7_backAll_14 f_X7_65 ?_
        refine V.ildn 1 dX7_backAll_17 rfl rfl ?_
        refine V.ald_64 dX7_backAll_18 (ix_nI (by omega) (by decide)) ?_
        refine V.ast_60 dX7_backAll_19 (ix_nI (by omega) (by decide)) ?_
        first | refine V.iincN dX7_backAll_20 rfl ?_ | refine V.iinc dX7_backAll_20 rfl rfl ?_
        refine V.goto 2 dX7_backAll_23 (by decide) ?_
        refine ih _ (by omega) (k + 1) _ rfl (by omega) (hS.up (by decide)) (fun j hj => ?_)
        rw [up2_at]
        split
        · rename_i q; rw [q.2, hS 22 (by decide)]
        · exact a1 j (by omega)
  refine V.iconst (nI 0) dX7_backAll_0 (by decide +kernel) ?_
  refine V.istn 1 dX7_backAll_1 rfl (Nat.le_of_ble_eq_true rfl) ?_
  exact loop1 40 0 m (by omega) (by omega) Sm.rf (fun j hj => absurd hj (Nat.not_lt_zero j))
theorem DR.take {s d : Nat} (h : DR n nd R D) (hs : s < n) (hd : D s = some d) : DR n nd (upR R d ((R d).erase s)) (upD D s none) := by
  obtain ⟨hn, d1, d2, d3⟩ := h
  obtain ⟨hdn, hsm⟩ := d1 s d hs hd
  refine ⟨hn, fun a da ha hda => ?_, fun a da hda hm => ?_, fun a ha => ?_⟩
  · by_cases e : a = s
    · subst e; rw [upD_s] at hda; cases hda
    · rw [upD_n e] at hda
      obtain ⟨q1, q2⟩ := d1 a da ha hda
      refine ⟨q1, ?_⟩
      by_cases e2 : da = d
      · subst e2; rw [upR_s]; exact (List.mem_erase_of_ne e).mpr q2
      · rw [upR_n e2]; exact q2
  · by_cases e2 : da = d
    · subst e2
      rw [upR_s] at hm
      have e : a ≠ s := fun q => by subst q; exact (List.Nodup.not_mem_erase (d3 da hdn)) hm
      rw [upD_n e]
      exact d2 a da hda (List.mem_of_mem_erase hm)
    · rw [upR_n e2] at hm
      have q := d2 a da hda hm
      have e : a ≠ s := fun z => by subst z; rw [hd] at q; exact e2 (Option.some.inj q.2).symm
      rw [upD_n e]
      exact q
  · by_cases e2 : a = d
    · subst e2; rw [upR_s]; exact (d3 a ha).erase s
    · rw [upR_n e2]; exact d3 a ha
theorem t_takes (hM : MS F n nd R D m) {s d : Nat} (hs : s < n) (hd : D s = some d) : Mt (dp + 2) 0 0 mX7_takes [.ref 45, .int (nI s)] (HH f ro rs rw rb m) (fun r h' => ∃ m', r = none ∧ h' = HH f ro rs rw rb m' ∧ Sm [8, 16, 17] m m' ∧ MS F n nd (upR R d ((R d).erase s)) (upD D s none) m') := by
  refine Mt.of rfl rfl (Nat.le_of_ble_eq_true rfl) rfl ?_
  obtain ⟨⟨hnd, h13, hF, hp, hR⟩, hD, h1, h8⟩ := hM
  have hDR := hD
  obtain ⟨hn20, d1, d2, d3⟩ := hD
  obtain ⟨hdn, hsm⟩ := d1 s d hs hd
  obtain ⟨hz, hz5, hr⟩ := hR d hdn
  have hat : (R d).idxOf s < (R d).length := List.idxOf_lt_length_of_mem hsm
  have hix : ixo (R d) s = nI ((R d).idxOf s) := by rw [ixo, if_pos hsm]
  have hle : ((R d).erase s).length = (R d).length - 1 := List.length_erase_of_mem hsm
  generalize hQ : (fun (r : Option Value) (h' : List AC) => ∃ m', r = none ∧ h' = HH f ro rs rw rb m' ∧ Sm [8, 16, 17] m m' ∧ MS F n nd (upR R d ((R d).erase s)) (upD D s none) m') = Q
  generalize hb : (R d).idxOf s = b at hat hix
  have tk_end : ∀ (k : Nat) (m' : Nat → Nat → Int32), k = (R d).length - 1 → Sm [16, 17] m m' → (∀ a, m' 16 a = if a = d then nI ((R d).length - 1) else m 16 a) → (∀ i, (i < 5 * d + b ∨ 5 * d + k ≤ i) → m' 17 i = m 17 i) → (∀ i, b ≤ i → i < k → m' 17 (5 * d + i) = m 17 (5 * d + i + 1)) → MS F n nd (upR R d ((R d).erase s)) (upD D s none) (up2 m' 8 s (-1)) := by
    intro k m' hk hS a16 a17 a17'
    have hS8 : Sm [8, 16, 17] m (up2 m' 8 s (-1)) := (hS.wk (by decide)).up (by decide)
    refine ⟨⟨hnd, (congrFun (hS8 13 (by decide)) 0).trans h13, film_congr hS8 (isF_no (by decide)) hF, hp, fun a ha => ?_⟩, DR.take hDR hs hd, (congrFun (hS8 1 (by decide)) 0).trans h1, fun a ha => ?_⟩
    · by_cases e : a = d
      · subst e
        rw [upR_s]
        refine ⟨?_, by omega, fun i hi => ?_⟩
        · rw [up2_at, if_neg (by omega), a16, if_pos rfl, hle]
        · rw [hle] at hi
          rw [up2_at, if_neg (by omega), getD_erase hsm, hb]
          split
          · rename_i q
            rw [a17 _ (by omega)]
            exact hr i (by omega)
          · rename_i q
            rw [a17' i (by omega) (by omega)]
            have := hr (i + 1) (by omega)
            rw [← Nat.add_assoc] at this
            exact this
      · rw [upR_n e]
        refine rowM_congr ?_ (fun i hi => ?_) (hR a ha)
        · rw [up2_at, if_neg (by omega), a16, if_neg e]
        · rw [up2_at, if_neg (by omega)]
          exact a17 _ (by omega)
    · rw [up2_at]
      by_cases e : a = s
      · subst e
        rw [if_pos ⟨rfl, rfl⟩, upD_s]; rfl
      · rw [if_neg (fun q => e q.2), upD_n e, hS 8 (by decide)]
        exact h8 a ha
  have loop : ∀ (j k : Nat) (m' : Nat → Nat → Int32), (R d).length - 1 - k = j → b ≤ k → k ≤ (R d).length - 1 → Sm [16, 17] m m' → (∀ a, m' 16 a = if a = d then nI ((R d).length - 1) else m 16 a) → (∀ i, (i < 5 * d + b ∨ 5 * d + k ≤ i) → m' 17 i = m 17 i) → (∀ i, b ≤ i → i < k → m' 17 (5 * d + i) = m 17 (5 * d + i + 1)) → V mX7_takes (dp + 2) 0 0 26 [some (.ref 45), some (.int (nI s)), some (.int (nI d)), some (.int (nI b)), some (.int (nI k))] [] (HH f ro rs rw rb m') Q := by
    intro j
    induction j using Nat.strongRecOn with
    | _ j ih =>
      intro k m' hj hbk hk hS a16 a17 a17'
      refine V.iload dX7_takes_26 rfl ?_
      refine V.aldn 0 dX7_takes_28 rfl rfl ?_
      refine V.gf7_16 dX7_takes_29 f_X7_50 ?_
      refine V.ildn 2 dX7_takes_32 rfl rfl ?_
      refine V.ald_59 dX7_takes_33 (ix_nI (by omega) (by decide)) ?_
      refine V.top (y := nI ((R d).length - 1)) (by rw [a16, if_pos rfl]) ?_
      first | refine V.icmp_geN 67 dX7_takes_34 (by decide) (by omega) (by omega) (fun c34 => ?_) (fun c34 => ?_) | refine V.icmp_ge 67 dX7_takes_34 (by decide) (fun c34 => ?_) (fun c34 => ?_)
      · refine V.aldn 0 dX7_takes_67 rfl rfl ?_
        refine V.gf7_8 dX7_takes_68 f_X7_29 ?_
        refine V.ildn 1 dX7_takes_71 rfl rfl ?_
        refine V.iconst (-1) dX7_takes_72 (by decide +kernel) ?_
        refine V.ast_52 dX7_takes_73 (ix_nI (by omega) (by decide)) ?_
        exact V.vreturn dX7_takes_74 rfl (by rw [← hQ]; exact ⟨_, rfl, rfl, (hS.wk (by decide)).up (by decide), tk_end k m' (by omega) hS a16 a17 a17'⟩)
      · refine V.aldn 0 dX7_takes_37 rfl rfl ?_
        refine V.gf7_17 dX7_takes_38 f_X7_53 ?_
        refine V.iconst (nI 5) dX7_takes_41 (by decide +kernel) ?_
        refine V.ildn 2 dX7_takes_42 rfl rfl ?_
        first | refine V.imulN dX7_takes_43 ?_ | refine V.imul dX7_takes_43 ?_
        refine V.iload dX7_takes_44 rfl ?_
        first | refine V.iaddN dX7_takes_46 ?_ | refine V.iadd dX7_takes_46 ?_
        refine V.aldn 0 dX7_takes_47 rfl rfl ?_
        refine V.gf7_17 dX7_takes_48 f_X7_53 ?_
        refine V.iconst (nI 5) dX7_takes_51 (by decide +kernel) ?_
        refine V.ildn 2 dX7_takes_52 rfl rfl ?_
        first | refine V.imulN dX7_takes_53 ?_ | refine V.imul dX7_takes_53 ?_
        refine V.iload dX7_takes_54 rfl ?_
        first | refine V.iaddN dX7_takes_56 ?_ | refine V.iadd dX7_takes_56 ?_
        refine V.iconst (nI 1) dX7_takes_57 (by decide +kernel) ?_
        first | refine V.iaddN dX7_takes_58 ?_ | refine V.iadd dX7_takes_58 ?_
        refine V.ald_60 dX7_takes_59 (ix_nI (by omega) (by decide)) ?_
        refine V.ast_60 dX7_takes_60 (ix_nI (by omega) (by decide)) ?_
        first | refine V.iincN dX7_takes_61 rfl ?_ | refine V.iinc dX7_takes_61 rfl rfl ?_
        refine V.goto 26 dX7_takes_64 (by decide) ?_
        refine ih _ (by omega) (k + 1) _ rfl (by omega) (by omega) (hS.up (by decide)) (fun a => by rw [up2_at, if_neg (by omega)]; exact a16 a) (fun i hi => by rw [up2_at, if_neg (by omega)]; exact a17 i (by omega)) (fun i h1 h2 => ?_)
        rw [up2_at]
        split
        · rename_i q; rw [show i = k by omega]; exact a17 _ (by omega)
        · rename_i q; exact a17' i h1 (by omega)
  refine V.aldn 0 dX7_takes_0 rfl rfl ?_
  refine V.gf7_8 dX7_takes_1 f_X7_29 ?_
  refine V.ildn 1 dX7_takes_4 rfl rfl ?_
  refine V.ald_52 dX7_takes_5 (ix_nI (by omega) (by decide)) ?_
  refine V.top (y := nI d) (by rw [h8 s hs, hd]; rfl) ?_
  refine V.istn 2 dX7_takes_6 rfl (Nat.le_of_ble_eq_true rfl) ?_
  refine V.aldn 0 dX7_takes_7 rfl rfl ?_
  refine V.ildn 1 dX7_takes_8 rfl rfl ?_
  refine V.cVi (t_placeIn (by omega) (h8 s hs) (fun d' hd' => by rw [hd] at hd'; cases hd'; exact ⟨by omega, hR d hdn⟩) (fun hn => by rw [hd] at hn; cases hn)) dX7_takes_9 k_X7_113 rfl rfl rfl (Nat.le_of_ble_eq_true rfl) rfl ?_
  refine V.top hix ?_
  refine V.istn 3 dX7_takes_12 rfl (Nat.le_of_ble_eq_true rfl) ?_
  refine V.aldn 0 dX7_takes_13 rfl rfl ?_
  refine V.gf7_16 dX7_takes_14 f_X7_50 ?_
  refine V.ildn 2 dX7_takes_17 rfl rfl ?_
  refine V.dup2 dX7_takes_18 ?_
  refine V.ald_59 dX7_takes_19 (ix_nI (by omega) (by decide)) ?_
  refine V.top hz ?_
  refine V.iconst (nI 1) dX7_takes_20 (by decide +kernel) ?_
  first | refine V.isubN dX7_takes_21 (by omega) ?_ | refine V.isub dX7_takes_21 ?_
  refine V.ast_59 dX7_takes_22 (ix_nI (by omega) (by decide)) ?_
  refine V.ildn 3 dX7_takes_23 rfl rfl ?_
  refine V.istore dX7_takes_24 (Nat.le_of_ble_eq_true rfl) ?_
  refine loop _ b _ rfl (Nat.le_refl _) (by omega) (Sm.rf.up (by decide)) (fun a => ?_) (fun i _ => by rw [up2_at, if_neg (by omega)]) (fun i h1 h2 => by omega)
  rw [up2_at]
  by_cases e : a = d
  · rw [if_pos ⟨rfl, e⟩, if_pos e]
  · rw [if_neg (fun q => e q.2), if_neg e]
end MODEL
