/-! the reference: days of a player, what is paid, rents, over -/
def eg (pb : Nat → Bool) (last : Bool) : Nat → Option Nat
  | 0 => none
  | d + 1 => if pb d = true ∧ (last = true ∨ eg pb last d = none) then some d else eg pb last d
def cnt (pb : Nat → Bool) : Nat → Nat
  | 0 => 0
  | d + 1 => cnt pb d + (if pb d = true then 1 else 0)
/-- paid and idle days, day by day -/
def pdS (pb : Nat → Bool) (gap : Int32) : Nat → Nat × Nat
  | 0 => (0, 0)
  | d + 1 => if pb d = true then ((pdS pb gap d).1 + (if 0 < (pdS pb gap d).1 ∧ ¬ (0 < gap ∧ gap ≤ nI (pdS pb gap d).2) then (pdS pb gap d).2 else 0) + 1, 0) else ((pdS pb gap d).1, (pdS pb gap d).2 + 1)
def sm (g : Nat → Int32) : Nat → Int32
  | 0 => nI 0
  | k + 1 => sm g k + g k
theorem sm_congr {g g' : Nat → Int32} : ∀ {n : Nat}, (∀ k, k < n → g k = g' k) → sm g n = sm g' n
  | 0, _ => rfl
  | n + 1, h => by
    show sm g n + g n = sm g' n + g' n
    rw [sm_congr (fun k hk => h k (Nat.lt_succ_of_lt hk)), h n (Nat.lt_succ_self n)]
def ovr (x : Int32) : Int32 := if nI 480 < x then (x - nI 480 + nI 29) / nI 30 else nI 0
theorem eg_lt {pb : Nat → Bool} {last : Bool} : ∀ {n d : Nat}, eg pb last n = some d → d < n ∧ pb d = true
  | 0, d, h => by cases h
  | n + 1, d, h => by
    rw [eg] at h
    split at h
    · cases h
      rename_i q
      exact ⟨Nat.lt_succ_self _, q.1⟩
    · have := eg_lt h
      exact ⟨by omega, this.2⟩
theorem eg_first {pb : Nat → Bool} : ∀ {n d : Nat}, eg pb false n = some d → ∀ i, i < d → pb i = false
  | 0, d, h => by cases h
  | n + 1, d, h => by
    rw [eg] at h
    split at h
    · rename_i q
      cases h
      intro i hi
      have hn : eg pb false n = none := by
        rcases q.2 with q2 | q2
        · cases q2
        · exact q2
      exact eg_none hn i hi
    · exact eg_first h
where
  eg_none {pb : Nat → Bool} {last : Bool} : ∀ {n : Nat}, eg pb last n = none → ∀ i, i < n → pb i = false
    | 0, _, i, hi => absurd hi (Nat.not_lt_zero i)
    | n + 1, h, i, hi => by
      rw [eg] at h
      split at h
      · cases h
      · rename_i q
        have h0 := eg_none h
        rcases Nat.lt_succ_iff_lt_or_eq.mp hi with g | g
        · exact h0 i g
        · subst g
          cases hp : pb i with
          | false => rfl
          | true => exact absurd ⟨hp, Or.inr h⟩ q
theorem eg_none {pb : Nat → Bool} {last : Bool} : ∀ {n : Nat}, eg pb last n = none → ∀ i, i < n → pb i = false := eg_first.eg_none
theorem eg_last {pb : Nat → Bool} : ∀ {n d : Nat}, eg pb true n = some d → ∀ i, d < i → i < n → pb i = false
  | 0, d, h => by cases h
  | n + 1, d, h => by
    rw [eg] at h
    split at h
    · cases h
      intro i h1 h2
      omega
    · rename_i q
      intro i h1 h2
      rcases Nat.lt_succ_iff_lt_or_eq.mp h2 with g | g
      · exact eg_last h i h1 g
      · subst g
        cases hp : pb i with
        | false => rfl
        | true => exact absurd ⟨hp, Or.inl rfl⟩ q
theorem eg_both {pb : Nat → Bool} {n : Nat} : eg pb true n = none → eg pb false n = none := by
  intro h
  cases h2 : eg pb false n with
  | none => rfl
  | some d =>
    have := eg_lt h2
    rw [eg_none h d this.1] at this
    cases this.2
theorem pdS_zero {pb : Nat → Bool} {gap : Int32} : ∀ {n : Nat}, (∀ i, i < n → pb i = false) → (pdS pb gap n).1 = 0
  | 0, _ => rfl
  | n + 1, h => by
    rw [pdS, if_neg (by rw [h n (Nat.lt_succ_self n)]; decide)]
    exact pdS_zero (fun i hi => h i (by omega))
theorem pdS_stay {pb : Nat → Bool} {gap : Int32} {a : Nat} : ∀ {n : Nat}, a ≤ n → (∀ i, a ≤ i → i < n → pb i = false) → (pdS pb gap n).1 = (pdS pb gap a).1
  | 0, h, _ => by rw [show a = 0 by omega]
  | n + 1, h, hp => by
    rcases Nat.lt_or_eq_of_le h with q | q
    · rw [pdS, if_neg (by rw [hp n (by omega) (Nat.lt_succ_self n)]; decide)]
      exact pdS_stay (by omega) (fun i h1 h2 => hp i h1 (by omega))
    · rw [q]
theorem pdS_bd {pb : Nat → Bool} {gap : Int32} : ∀ (n : Nat), (pdS pb gap n).1 + (pdS pb gap n).2 ≤ n
  | 0 => Nat.le_refl _
  | n + 1 => by
    have := pdS_bd (pb := pb) (gap := gap) n
    rw [pdS]
    split
    · show _ + _ + 1 + 0 ≤ n + 1
      split <;> omega
    · show _ + (_ + 1) ≤ n + 1
      omega
section MODEL
variable {f ro rs : Nat → Nat → Int32} {rw rb : Nat → Nat} {m : Nat → Nat → Int32} {dp : Nat}
theorem t_edge {F : Nat → Nat → Int32} (f6 : m 6 = F 6) {nd : Nat} (hnd : nd ≤ 8) (h13 : m 13 0 = nI nd) {R : Nat → List Nat} (hR : ∀ d, d < nd → rowM m d (R d)) (p : Nat) (last : Bool) : Mt (dp + 2) 0 0 mX7_edge [.ref 45, .int (nI p), .int (bI last)] (HH f ro rs rw rb m) (RI (dI (eg (fun d => plB F (R d) p) last nd)) (HH f ro rs rw rb m)) := by
  refine Mt.of rfl rfl (Nat.le_of_ble_eq_true rfl) rfl ?_
  generalize hpb : (fun d => plB F (R d) p) = pb
  have hpb : ∀ d, plB F (R d) p = pb d := fun d => congrFun hpb d
  have loop : ∀ (j k : Nat), nd - k = j → k ≤ nd → V mX7_edge (dp + 2) 0 0 5 [some (.ref 45), some (.int (nI p)), some (.int (bI last)), some (.int (dI (eg pb last k))), some (.int (nI k))] [] (HH f ro rs rw rb m) (RI (dI (eg pb last nd)) (HH f ro rs rw rb m)) := by
    intro j
    induction j using Nat.strongRecOn with
    | _ j ih =>
      intro k hj hk
      have no : ¬ (pb k = true ∧ (last = true ∨ eg pb last k = none)) → k < nd → V mX7_edge (dp + 2) 0 0 36 [some (.ref 45), some (.int (nI p)), some (.int (bI last)), some (.int (dI (eg pb last k))), some (.int (nI k))] [] (HH f ro rs rw rb m) (RI (dI (eg pb last nd)) (HH f ro rs rw rb m)) := by
        intro hq hlt
        have e : eg pb last k = eg pb last (k + 1) := by rw [eg, if_neg hq]
        rw [e]
        first | refine V.iincN dX7_edge_36 rfl ?_ | refine V.iinc dX7_edge_36 rfl rfl ?_
        refine V.goto 5 dX7_edge_39 (by decide) ?_
        exact ih _ (by omega) (k + 1) rfl (by omega)
      have yes : (pb k = true ∧ (last = true ∨ eg pb last k = none)) → k < nd → V mX7_edge (dp + 2) 0 0 33 [some (.ref 45), some (.int (nI p)), some (.int (bI last)), some (.int (dI (eg pb last k))), some (.int (nI k))] [] (HH f ro rs rw rb m) (RI (dI (eg pb last nd)) (HH f ro rs rw rb m)) := by
        intro hq hlt
        have e : nI k = dI (eg pb last (k + 1)) := by rw [eg, if_pos hq]; rfl
        refine V.iload dX7_edge_33 rfl ?_
        refine V.top e ?_
        refine V.istn 3 dX7_edge_35 rfl (Nat.le_of_ble_eq_true rfl) ?_
        first | refine V.iincN dX7_edge_36 rfl ?_ | refine V.iinc dX7_edge_36 rfl rfl ?_
        refine V.goto 5 dX7_edge_39 (by decide) ?_
        exact ih _ (by omega) (k + 1) rfl (by omega)
      refine V.iload dX7_edge_5 rfl ?_
      refine V.aldn 0 dX7_edge_7 rfl rfl ?_
      refine V.gf7_13 dX7_edge_8 f_X7_91 ?_
      refine V.top h13 ?_
      first | refine V.icmp_geN 42 dX7_edge_11 (by decide) (by omega) (by omega) (fun c11 => ?_) (fun c11 => ?_) | refine V.icmp_ge 42 dX7_edge_11 (by decide) (fun c11 => ?_) (fun c11 => ?_)
      · obtain rfl : k = nd := by omega
        refine V.ildn 3 dX7_edge_42 rfl rfl ?_
        exact V.ireturn dX7_edge_43 rfl (by first | rfl | decide +kernel) (⟨rfl, rfl⟩)
      · refine V.aldn 0 dX7_edge_14 rfl rfl ?_
        refine V.ildn 1 dX7_edge_15 rfl rfl ?_
        refine V.iload dX7_edge_16 rfl ?_
        refine V.cVi (t_plays f6 (by omega) (hR k c11) p) dX7_edge_18 k_X7_164 rfl rfl rfl (Nat.le_of_ble_eq_true rfl) rfl ?_
        first | refine V.if_eqB 36 dX7_edge_21 (by decide) (fun c21 => ?_) (fun c21 => ?_) | refine V.if_eqN 36 dX7_edge_21 (by decide) (by omega) (fun c21 => ?_) (fun c21 => ?_) | refine V.if_eq 36 dX7_edge_21 (by decide) (fun c21 => ?_) (fun c21 => ?_)
        · rw [hpb] at c21
          exact no (fun q => by rw [c21] at q; cases q.1) c11
        · rw [hpb] at c21
          refine V.ildn 2 dX7_edge_24 rfl rfl ?_
          first | refine V.if_neB 33 dX7_edge_25 (by decide) (fun c25 => ?_) (fun c25 => ?_) | refine V.if_neN 33 dX7_edge_25 (by decide) (by omega) (fun c25 => ?_) (fun c25 => ?_) | refine V.if_ne 33 dX7_edge_25 (by decide) (fun c25 => ?_) (fun c25 => ?_)
          · exact yes ⟨c21, Or.inl c25⟩ c11
          · refine V.ildn 3 dX7_edge_28 rfl rfl ?_
            refine V.iconst (-1) dX7_edge_29 (by decide +kernel) ?_
            refine V.icmp_ne 36 dX7_edge_30 (by decide) (fun c30 => ?_) (fun c30 => ?_)
            · refine no (fun q => c30 ?_) c11
              rcases q.2 with q | q
              · rw [c25] at q; cases q
              · rw [q]; rfl
            · refine yes ⟨c21, Or.inr ?_⟩ c11
              cases he : eg pb last k with
              | none => rfl
              | some d => rw [he] at c30; exact absurd c30 (nI_m1 (by have := eg_lt he; omega))
  refine V.iconst (-1) dX7_edge_0 (by decide +kernel) ?_
  refine V.istn 3 dX7_edge_1 rfl (Nat.le_of_ble_eq_true rfl) ?_
  refine V.iconst (nI 0) dX7_edge_2 (by decide +kernel) ?_
  refine V.istore dX7_edge_3 (Nat.le_of_ble_eq_true rfl) ?_
  exact loop nd 0 (by omega) (by omega)
theorem t_daysOf {F : Nat → Nat → Int32} (f6 : m 6 = F 6) {nd : Nat} (hnd : nd ≤ 8) (h13 : m 13 0 = nI nd) {R : Nat → List Nat} (hR : ∀ d, d < nd → rowM m d (R d)) (p : Nat) : Mt (dp + 2) 0 0 mX7_daysOf [.ref 45, .int (nI p)] (HH f ro rs rw rb m) (RI (nI (cnt (fun d => plB F (R d) p) nd)) (HH f ro rs rw rb m)) := by
  refine Mt.of rfl rfl (Nat.le_of_ble_eq_true rfl) rfl ?_
  generalize hpb : (fun d => plB F (R d) p) = pb
  have hpb : ∀ d, plB F (R d) p = pb d := fun d => congrFun hpb d
  have loop : ∀ (j k : Nat), nd - k = j → k ≤ nd → V mX7_daysOf (dp + 2) 0 0 4 [some (.ref 45), some (.int (nI p)), some (.int (nI (cnt pb k))), some (.int (nI k))] [] (HH f ro rs rw rb m) (RI (nI (cnt pb nd)) (HH f ro rs rw rb m)) := by
    intro j
    induction j using Nat.strongRecOn with
    | _ j ih =>
      intro k hj hk
      refine V.ildn 3 dX7_daysOf_4 rfl rfl ?_
      refine V.aldn 0 dX7_daysOf_5 rfl rfl ?_
      refine V.gf7_13 dX7_daysOf_6 f_X7_91 ?_
      refine V.top h13 ?_
      first | refine V.icmp_geN 35 dX7_daysOf_9 (by decide) (by omega) (by omega) (fun c9 => ?_) (fun c9 => ?_) | refine V.icmp_ge 35 dX7_daysOf_9 (by decide) (fun c9 => ?_) (fun c9 => ?_)
      · obtain rfl : k = nd := by omega
        refine V.ildn 2 dX7_daysOf_35 rfl rfl ?_
        exact V.ireturn dX7_daysOf_36 rfl (by first | rfl | decide +kernel) (⟨rfl, rfl⟩)
      · refine V.ildn 2 dX7_daysOf_12 rfl rfl ?_
        refine V.aldn 0 dX7_daysOf_13 rfl rfl ?_
        refine V.ildn 1 dX7_daysOf_14 rfl rfl ?_
        refine V.ildn 3 dX7_daysOf_15 rfl rfl ?_
        refine V.cVi (t_plays f6 (by omega) (hR k c9) p) dX7_daysOf_16 k_X7_164 rfl rfl rfl (Nat.le_of_ble_eq_true rfl) rfl ?_
        first | refine V.if_eqB 26 dX7_daysOf_19 (by decide) (fun c19 => ?_) (fun c19 => ?_) | refine V.if_eqN 26 dX7_daysOf_19 (by decide) (by omega) (fun c19 => ?_) (fun c19 => ?_) | refine V.if_eq 26 dX7_daysOf_19 (by decide) (fun c19 => ?_) (fun c19 => ?_)
        · rw [hpb] at c19
          refine V.iconst (nI 0) dX7_daysOf_26 (by decide +kernel) ?_
          first | refine V.iaddN dX7_daysOf_27 ?_ | refine V.iadd dX7_daysOf_27 ?_
          refine V.top (y := nI (cnt pb (k + 1))) (by rw [cnt, if_neg (by rw [c19]; decide)]) ?_
          refine V.istn 2 dX7_daysOf_28 rfl (Nat.le_of_ble_eq_true rfl) ?_
          first | refine V.iincN dX7_daysOf_29 rfl ?_ | refine V.iinc dX7_daysOf_29 rfl rfl ?_
          refine V.goto 4 dX7_daysOf_32 (by decide) ?_
          exact ih _ (by omega) (k + 1) rfl (by omega)
        · rw [hpb] at c19
          refine V.iconst (nI 1) dX7_daysOf_22 (by decide +kernel) ?_
          refine V.goto 27 dX7_daysOf_23 (by decide) ?_
          first | refine V.iaddN dX7_daysOf_27 ?_ | refine V.iadd dX7_daysOf_27 ?_
          refine V.top (y := nI (cnt pb (k + 1))) (by rw [cnt, if_pos c19]) ?_
          refine V.istn 2 dX7_daysOf_28 rfl (Nat.le_of_ble_eq_true rfl) ?_
          first | refine V.iincN dX7_daysOf_29 rfl ?_ | refine V.iinc dX7_daysOf_29 rfl rfl ?_
          refine V.goto 4 dX7_daysOf_32 (by decide) ?_
          exact ih _ (by omega) (k + 1) rfl (by omega)
  refine V.iconst (nI 0) dX7_daysOf_0 (by decide +kernel) ?_
  refine V.istn 2 dX7_daysOf_1 rfl (Nat.le_of_ble_eq_true rfl) ?_
  refine V.iconst (nI 0) dX7_daysOf_2 (by decide +kernel) ?_
  refine V.istn 3 dX7_daysOf_3 rfl (Nat.le_of_ble_eq_true rfl) ?_
  exact loop nd 0 (by omega) (by omega)
theorem t_paid {F : Nat → Nat → Int32} (f6 : m 6 = F 6) (f10 : m 10 = F 10) {nd : Nat} (hnd : nd ≤ 8) (h13 : m 13 0 = nI nd) {R : Nat → List Nat} (hR : ∀ d, d < nd → rowM m d (R d)) {p : Nat} (hp : p < 8) : Mt (dp + 3) 0 0 mX7_paid [.ref 45, .int (nI p)] (HH f ro rs rw rb m) (RI (nI (pdS (fun d => plB F (R d) p) (F 10 p) nd).1) (HH f ro rs rw rb m)) := by
  refine Mt.of rfl rfl (Nat.le_of_ble_eq_true rfl) rfl ?_
  have hedge := fun (last : Bool) => t_edge (f := f) (ro := ro) (rs := rs) (rw := rw) (rb := rb) (dp := dp) f6 hnd h13 hR p last
  generalize hpb : (fun d => plB F (R d) p) = pb at hedge ⊢
  have hpb : ∀ d, plB F (R d) p = pb d := fun d => congrFun hpb d
  cases hl : eg pb true nd with
  | none =>
    have hf := eg_both hl
    have hz : (pdS pb (F 10 p) nd).1 = 0 := pdS_zero (eg_none hl)
    refine V.iconst (nI 0) dX7_paid_0 (by decide +kernel) ?_
    refine V.istn 2 dX7_paid_1 rfl (Nat.le_of_ble_eq_true rfl) ?_
    refine V.iconst (nI 0) dX7_paid_2 (by decide +kernel) ?_
    refine V.istn 3 dX7_paid_3 rfl (Nat.le_of_ble_eq_true rfl) ?_
    refine V.aldn 0 dX7_paid_4 rfl rfl ?_
    refine V.ildn 1 dX7_paid_5 rfl rfl ?_
    refine V.iconst (nI 0) dX7_paid_6 (by decide +kernel) ?_
    refine V.cVi (hedge false) dX7_paid_7 k_X7_167 rfl rfl rfl (Nat.le_of_ble_eq_true rfl) rfl ?_
    rw [hf]
    refine V.top (y := -1) rfl ?_
    refine V.istore dX7_paid_10 (Nat.le_of_ble_eq_true rfl) ?_
    refine V.iload dX7_paid_12 rfl ?_
    refine V.istore dX7_paid_14 (Nat.le_of_ble_eq_true rfl) ?_
    refine V.iload dX7_paid_16 rfl ?_
    refine V.iconst (-1) dX7_paid_18 (by decide +kernel) ?_
    refine V.icmp_eq 86 dX7_paid_19 (by decide) (fun c19 => ?_) (fun c19 => ?_)
    · refine V.ildn 2 dX7_paid_86 rfl rfl ?_
      exact V.ireturn dX7_paid_87 rfl (by first | rfl | decide +kernel) (⟨by rw [hz], rfl⟩)
    · exact absurd rfl c19
  | some e =>
    obtain ⟨he1, he2⟩ := eg_lt hl
    cases hf : eg pb false nd with
    | none => rw [eg_none hf e he1] at he2; cases he2
    | some a =>
      obtain ⟨ha1, ha2⟩ := eg_lt hf
      have ha3 := eg_first hf
      have hae : a ≤ e := by
        rcases Nat.lt_or_ge e a with q | q
        · rw [ha3 e q] at he2; cases he2
        · exact q
      have h2 := eg_last hl
      have loop : ∀ (j k i : Nat), e + 1 - k = j → a ≤ k → k ≤ e + 1 → ((k = a ∧ i = 0) ∨ (a < k ∧ i = (pdS pb (F 10 p) k).2 ∧ 0 < (pdS pb (F 10 p) k).1)) → V mX7_paid (dp + 3) 0 0 16 [some (.ref 45), some (.int (nI p)), some (.int (nI (pdS pb (F 10 p) k).1)), some (.int (nI i)), some (.int (nI a)), some (.int (nI k))] [] (HH f ro rs rw rb m) (RI (nI (pdS pb (F 10 p) nd).1) (HH f ro rs rw rb m)) := by
        intro j
        induction j using Nat.strongRecOn with
        | _ j ih =>
          intro k i hj hak hk hst
          have hbd := pdS_bd (pb := pb) (gap := F 10 p) k
          have hi8 : i ≤ k := by omega
          have go : ∀ z : Nat, z = (if 0 < F 10 p ∧ F 10 p ≤ nI i then 0 else i) → pb k = true → k ≤ e → V mX7_paid (dp + 3) 0 0 75 [some (.ref 45), some (.int (nI p)), some (.int (nI (pdS pb (F 10 p) k).1)), some (.int (nI i)), some (.int (nI a)), some (.int (nI k))] [.int (nI z), .int (nI 1), .int (nI (pdS pb (F 10 p) k).1)] (HH f ro rs rw rb m) (RI (nI (pdS pb (F 10 p) nd).1) (HH f ro rs rw rb m)) := by
            intro z hz hpk hke
            have e1 : (pdS pb (F 10 p) k).1 + (1 + z) = (pdS pb (F 10 p) (k + 1)).1 := by
              rw [pdS, if_pos hpk]
              show _ = _ + _ + 1
              rcases hst with ⟨q1, q2⟩ | ⟨q1, q2, q3⟩
              · subst q1
                have h0 : (pdS pb (F 10 p) k).1 = 0 := pdS_zero ha3
                rw [if_neg (by omega)]
                rw [hz, q2]
                split <;> omega
              · rw [hz, q2]
                by_cases hg : 0 < F 10 p ∧ F 10 p ≤ nI (pdS pb (F 10 p) k).2
                · rw [if_pos hg, if_neg (fun q => q.2 hg)]
                · rw [if_neg hg, if_pos ⟨q3, hg⟩]; omega
            have e2 : (pdS pb (F 10 p) (k + 1)).2 = 0 := by rw [pdS, if_pos hpk]
            first | refine V.iaddN dX7_paid_75 ?_ | refine V.iadd dX7_paid_75 ?_
            first | refine V.iaddN dX7_paid_76 ?_ | refine V.iadd dX7_paid_76 ?_
            rw [e1]
            refine V.istn 2 dX7_paid_77 rfl (Nat.le_of_ble_eq_true rfl) ?_
            refine V.iconst (nI 0) dX7_paid_78 (by decide +kernel) ?_
            refine V.istn 3 dX7_paid_79 rfl (Nat.le_of_ble_eq_true rfl) ?_
            first | refine V.iincN dX7_paid_80 rfl ?_ | refine V.iinc dX7_paid_80 rfl rfl ?_
            refine V.goto 16 dX7_paid_83 (by decide) ?_
            exact ih _ (by omega) (k + 1) 0 rfl (by omega) (by omega) (Or.inr ⟨by omega, e2.symm, by omega⟩)
          refine V.iload dX7_paid_16 rfl ?_
          refine V.iconst (-1) dX7_paid_18 (by decide +kernel) ?_
          refine V.icmp_eq 86 dX7_paid_19 (by decide) (fun c19 => ?_) (fun c19 => ?_)
          · exact absurd c19 (nI_m1 (by omega))
          · refine V.iload dX7_paid_22 rfl ?_
            refine V.aldn 0 dX7_paid_24 rfl rfl ?_
            refine V.ildn 1 dX7_paid_25 rfl rfl ?_
            refine V.iconst (nI 1) dX7_paid_26 (by decide +kernel) ?_
            refine V.cVi (hedge true) dX7_paid_27 k_X7_167 rfl rfl rfl (Nat.le_of_ble_eq_true rfl) rfl ?_
            rw [hl]
            refine V.top (y := nI e) rfl ?_
            first | refine V.icmp_gtN 86 dX7_paid_30 (by decide) (by omega) (by omega) (fun c30 => ?_) (fun c30 => ?_) | refine V.icmp_gt 86 dX7_paid_30 (by decide) (fun c30 => ?_) (fun c30 => ?_)
            · have e9 : (pdS pb (F 10 p) nd).1 = (pdS pb (F 10 p) k).1 := pdS_stay (by omega) (fun i h1 h3 => h2 i (by omega) h3)
              refine V.ildn 2 dX7_paid_86 rfl rfl ?_
              exact V.ireturn dX7_paid_87 rfl (by first | rfl | decide +kernel) (⟨by rw [e9], rfl⟩)
            · refine V.aldn 0 dX7_paid_33 rfl rfl ?_
              refine V.ildn 1 dX7_paid_34 rfl rfl ?_
              refine V.iload dX7_paid_35 rfl ?_
              refine V.cVi (t_plays f6 (by omega) (hR k (by omega)) p) dX7_paid_37 k_X7_164 rfl rfl rfl (Nat.le_of_ble_eq_true rfl) rfl ?_
              first | refine V.if_neB 49 dX7_paid_40 (by decide) (fun c40 => ?_) (fun c40 => ?_) | refine V.if_neN 49 dX7_paid_40 (by decide) (by omega) (fun c40 => ?_) (fun c40 => ?_) | refine V.if_ne 49 dX7_paid_40 (by decide) (fun c40 => ?_) (fun c40 => ?_)
              · rw [hpb] at c40
                refine V.ildn 2 dX7_paid_49 rfl rfl ?_
                refine V.iconst (nI 1) dX7_paid_50 (by decide +kernel) ?_
                refine V.aldn 0 dX7_paid_51 rfl rfl ?_
                refine V.gf7_10 dX7_paid_52 f_X7_35 ?_
                refine V.ildn 1 dX7_paid_55 rfl rfl ?_
                refine V.ald_54 dX7_paid_56 (ix_nI (by omega) (by decide)) ?_
                refine V.top (congrFun f10 _) ?_
                refine V.if_le 74 dX7_paid_57 (by decide) (fun c57 => ?_) (fun c57 => ?_)
                · exact V.ildn 3 dX7_paid_74 rfl rfl (go i (by rw [if_neg (fun q => absurd q.1 (Int32.not_lt.mpr c57))]) c40 (by omega))
                · refine V.ildn 3 dX7_paid_60 rfl rfl ?_
                  refine V.aldn 0 dX7_paid_61 rfl rfl ?_
                  refine V.gf7_10 dX7_paid_62 f_X7_35 ?_
                  refine V.ildn 1 dX7_paid_65 rfl rfl ?_
                  refine V.ald_54 dX7_paid_66 (ix_nI (by omega) (by decide)) ?_
                  refine V.top (congrFun f10 _) ?_
                  refine V.icmp_lt 74 dX7_paid_67 (by decide) (fun c67 => ?_) (fun c67 => ?_)
                  · exact V.ildn 3 dX7_paid_74 rfl rfl (go i (by rw [if_neg (fun q => absurd q.2 (Int32.not_le.mpr c67))]) c40 (by omega))
                  · refine V.iconst (nI 0) dX7_paid_70 (by decide +kernel) ?_
                    refine V.goto 75 dX7_paid_71 (by decide) ?_
                    exact go 0 (by rw [if_pos ⟨Int32.not_le.mp c57, Int32.not_lt.mp c67⟩]) c40 (by omega)
              · rw [hpb] at c40
                have e3 : pdS pb (F 10 p) (k + 1) = ((pdS pb (F 10 p) k).1, (pdS pb (F 10 p) k).2 + 1) := by rw [pdS, if_neg (by rw [c40]; decide)]
                first | refine V.iincN dX7_paid_43 rfl ?_ | refine V.iinc dX7_paid_43 rfl rfl ?_
                refine V.goto 80 dX7_paid_46 (by decide) ?_
                refine V.iincN dX7_paid_80 rfl ?_
                refine V.goto 16 dX7_paid_83 (by decide) ?_
                have := ih _ (by omega) (k + 1) (i + 1) rfl (by omega) (by omega) (by rw [e3]; rcases hst with ⟨q1, q2⟩ | ⟨q1, q2, q3⟩; exact absurd c40 (by rw [q1, ha2]; decide); exact Or.inr ⟨by omega, by rw [q2], q3⟩)
                rw [e3] at this
                exact this
      have hz : (pdS pb (F 10 p) a).1 = 0 := pdS_zero ha3
      have l0 := loop _ a 0 rfl (Nat.le_refl _) (by omega) (Or.inl ⟨rfl, rfl⟩)
      rw [hz] at l0
      refine V.iconst (nI 0) dX7_paid_0 (by decide +kernel) ?_
      refine V.istn 2 dX7_paid_1 rfl (Nat.le_of_ble_eq_true rfl) ?_
      refine V.iconst (nI 0) dX7_paid_2 (by decide +kernel) ?_
      refine V.istn 3 dX7_paid_3 rfl (Nat.le_of_ble_eq_true rfl) ?_
      refine V.aldn 0 dX7_paid_4 rfl rfl ?_
      refine V.ildn 1 dX7_paid_5 rfl rfl ?_
      refine V.iconst (nI 0) dX7_paid_6 (by decide +kernel) ?_
      refine V.cVi (hedge false) dX7_paid_7 k_X7_167 rfl rfl rfl (Nat.le_of_ble_eq_true rfl) rfl ?_
      rw [hf]
      refine V.top (y := nI a) rfl ?_
      refine V.istore dX7_paid_10 (Nat.le_of_ble_eq_true rfl) ?_
      refine V.iload dX7_paid_12 rfl ?_
      refine V.istore dX7_paid_14 (Nat.le_of_ble_eq_true rfl) ?_
      exact l0
end MODEL
