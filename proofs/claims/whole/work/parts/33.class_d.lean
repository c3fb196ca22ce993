/-! the class: looks over the days; told things -/
section CLASS
variable {f ro rs : Nat → Nat → Int32} {rw rb : Nat → Nat} {m : Nat → Nat → Int32} {dp : Nat} {F : Nat → Nat → Int32} {n nd : Nat} {R : Nat → List Nat} {D : Nat → Option Nat}
theorem eg_at {pb : Nat → Bool} {i : Nat} : ∀ {n : Nat}, i < n → pb i = true → (∀ k, k < i → pb k = false) → eg pb false n = some i := by
  intro n hi h1 h2
  cases h : eg pb false n with
  | none => have := eg_none h i hi; rw [h1] at this; cases this
  | some d =>
    have := eg_lt h
    have q := eg_first h
    rcases Nat.lt_trichotomy d i with z | z | z
    · have := h2 d z; rw [(eg_lt h).2] at this; cases this
    · rw [z]
    · have := q i z; rw [h1] at this; cases this
theorem eg_no {pb : Nat → Bool} {last : Bool} {n : Nat} (h : ∀ k, k < n → pb k = false) : eg pb last n = none := by
  cases q : eg pb last n with
  | none => rfl
  | some d => have := eg_lt q; rw [h d this.1] at this; cases this.2
theorem eg_at2 {pb : Nat → Bool} {i : Nat} : ∀ {n : Nat}, i < n → pb i = true → (∀ k, i < k → k < n → pb k = false) → eg pb true n = some i := by
  intro n hi h1 h2
  cases h : eg pb true n with
  | none => have := eg_none h i hi; rw [h1] at this; cases this
  | some d =>
    have q := eg_last h
    rcases Nat.lt_trichotomy d i with z | z | z
    · have := q i z hi; rw [h1] at this; cases this
    · rw [z]
    · have := h2 d z (eg_lt h).1; rw [(eg_lt h).2] at this; cases this
theorem c_firstDayOf (hP : CP F n nd R f ro rs rw) {p : Nat} (hp : p < 8) : Mt (dp + 3) 0 0 mX3_firstDayOf [.ref 12, .int (nI p)] (HH f ro rs rw rb m) (RI (dI (eg (fun d => plB F (R d) p) false nd)) (HH f ro rs rw rb m)) := by
  refine Mt.of rfl rfl (Nat.le_of_ble_eq_true rfl) rfl ?_
  have pw := fun {d} hd => c_plays (dp := dp) (rb := rb) (m := m) hP hp (d := d) hd
  obtain ⟨⟨hn, hnd, hB, hpl⟩, h1, h12, hC, hw, hR⟩ := hP
  generalize hv : dI (eg (fun d => plB F (R d) p) false nd) = v
  have loop : ∀ (j i : Nat), nd - i = j → i ≤ nd → (∀ d, d < i → plB F (R d) p = false) → V mX3_firstDayOf (dp + 3) 0 0 2 [some (.ref 12), some (.int (nI p)), some (.int (nI i))] [] (HH f ro rs rw rb m) (RI v (HH f ro rs rw rb m)) := by
    intro j
    induction j using Nat.strongRecOn with
    | _ j ih =>
      intro i hj hi hno
      refine V.ildn 2 dX3_firstDayOf_2 rfl rfl ?_
      refine V.aldn 0 dX3_firstDayOf_3 rfl rfl ?_
      refine V.gf3_4 dX3_firstDayOf_4 f_X3_29 ?_
      refine V.top h12 ?_
      first | refine V.icmp_geN 27 dX3_firstDayOf_7 (by decide) (by omega) (by omega) (fun c7 => ?_) (fun c7 => ?_) | refine V.icmp_ge 27 dX3_firstDayOf_7 (by decide) (fun c7 => ?_) (fun c7 => ?_)
      · refine V.iconst (-1) dX3_firstDayOf_27 (by decide +kernel) ?_
        exact V.ireturn dX3_firstDayOf_28 rfl (by first | rfl | decide +kernel) (⟨by rw [← hv, eg_no (fun k hk => hno k (by omega))]; rfl, rfl⟩)
      · refine V.aldn 0 dX3_firstDayOf_10 rfl rfl ?_
        refine V.ildn 1 dX3_firstDayOf_11 rfl rfl ?_
        refine V.ildn 2 dX3_firstDayOf_12 rfl rfl ?_
        refine V.cVi (pw (by omega)) dX3_firstDayOf_13 k_X3_74 rfl rfl rfl (Nat.le_of_ble_eq_true rfl) rfl ?_
        first | refine V.if_eqB 21 dX3_firstDayOf_16 (by decide) (fun c16 => ?_) (fun c16 => ?_) | refine V.if_eqN 21 dX3_firstDayOf_16 (by decide) (by omega) (fun c16 => ?_) (fun c16 => ?_) | refine V.if_eq 21 dX3_firstDayOf_16 (by decide) (fun c16 => ?_) (fun c16 => ?_)
        · first | refine V.iincN dX3_firstDayOf_21 rfl ?_ | refine V.iinc dX3_firstDayOf_21 rfl rfl ?_
          refine V.goto 2 dX3_firstDayOf_24 (by decide) ?_
          exact ih _ (by omega) (i + 1) rfl (by omega) (fun k hk => by rcases Nat.lt_succ_iff_lt_or_eq.mp hk with z | z; exact hno k z; rw [z]; exact c16)
        · refine V.ildn 2 dX3_firstDayOf_19 rfl rfl ?_
          exact V.ireturn dX3_firstDayOf_20 rfl (by first | rfl | decide +kernel) (⟨by rw [← hv, eg_at c7 c16 hno]; rfl, rfl⟩)
  refine V.iconst (nI 0) dX3_firstDayOf_0 (by decide +kernel) ?_
  refine V.istn 2 dX3_firstDayOf_1 rfl (Nat.le_of_ble_eq_true rfl) ?_
  exact loop _ 0 rfl (Nat.zero_le _) (fun d hd => absurd hd (Nat.not_lt_zero d))
theorem c_lastDayOf (hP : CP F n nd R f ro rs rw) {p : Nat} (hp : p < 8) : Mt (dp + 3) 0 0 mX3_lastDayOf [.ref 12, .int (nI p)] (HH f ro rs rw rb m) (RI (dI (eg (fun d => plB F (R d) p) true nd)) (HH f ro rs rw rb m)) := by
  refine Mt.of rfl rfl (Nat.le_of_ble_eq_true rfl) rfl ?_
  have pw := fun {d} hd => c_plays (dp := dp) (rb := rb) (m := m) hP hp (d := d) hd
  obtain ⟨⟨hn, hnd, hB, hpl⟩, h1, h12, hC, hw, hR⟩ := hP
  generalize hv : dI (eg (fun d => plB F (R d) p) true nd) = v
  have loop : ∀ (i : Nat), i ≤ nd → (∀ d, i ≤ d → d < nd → plB F (R d) p = false) → V mX3_lastDayOf (dp + 3) 0 0 7 [some (.ref 12), some (.int (nI p)), some (.int (pm i))] [] (HH f ro rs rw rb m) (RI v (HH f ro rs rw rb m)) := by
    intro i
    induction i with
    | zero =>
      intro hi hno
      refine V.ildn 2 dX3_lastDayOf_7 rfl rfl ?_
      refine V.if_lt 28 dX3_lastDayOf_8 (by decide) (fun c8 => ?_) (fun c8 => ?_)
      · refine V.iconst (-1) dX3_lastDayOf_28 (by decide +kernel) ?_
        exact V.ireturn dX3_lastDayOf_29 rfl (by first | rfl | decide +kernel) (⟨by rw [← hv, eg_no (fun k hk => hno k (by omega) hk)]; rfl, rfl⟩)
      · exact absurd (show pm 0 < 0 by decide +kernel) c8
    | succ j ih =>
      intro hi hno
      refine V.eql (ls' := [some (.ref 12), some (.int (nI p)), some (.int (nI j))]) rfl ?_
      refine V.ildn 2 dX3_lastDayOf_7 rfl rfl ?_
      refine V.if_ltN 28 dX3_lastDayOf_8 (by decide) (by omega) ?_
      refine V.aldn 0 dX3_lastDayOf_11 rfl rfl ?_
      refine V.ildn 1 dX3_lastDayOf_12 rfl rfl ?_
      refine V.ildn 2 dX3_lastDayOf_13 rfl rfl ?_
      refine V.cVi (pw (by omega)) dX3_lastDayOf_14 k_X3_74 rfl rfl rfl (Nat.le_of_ble_eq_true rfl) rfl ?_
      first | refine V.if_eqB 22 dX3_lastDayOf_17 (by decide) (fun c17 => ?_) (fun c17 => ?_) | refine V.if_eqN 22 dX3_lastDayOf_17 (by decide) (by omega) (fun c17 => ?_) (fun c17 => ?_) | refine V.if_eq 22 dX3_lastDayOf_17 (by decide) (fun c17 => ?_) (fun c17 => ?_)
      · refine V.iinc dX3_lastDayOf_22 rfl (pm_dec j) ?_
        refine V.goto 7 dX3_lastDayOf_25 (by decide) ?_
        exact ih (by omega) (fun k h1 h2 => by rcases Nat.eq_or_lt_of_le h1 with z | z; rw [← z]; exact c17; exact hno k z h2)
      · refine V.ildn 2 dX3_lastDayOf_20 rfl rfl ?_
        exact V.ireturn dX3_lastDayOf_21 rfl (by first | rfl | decide +kernel) (⟨by rw [← hv, eg_at2 hi c17 hno]; rfl, rfl⟩)
  refine V.aldn 0 dX3_lastDayOf_0 rfl rfl ?_
  refine V.gf3_4 dX3_lastDayOf_1 f_X3_29 ?_
  refine V.top h12 ?_
  refine V.iconst (nI 1) dX3_lastDayOf_4 (by decide +kernel) ?_
  refine V.isub dX3_lastDayOf_5 (V.top (pm_sub nd) ?_)
  refine V.istn 2 dX3_lastDayOf_6 rfl (Nat.le_of_ble_eq_true rfl) ?_
  exact loop nd (Nat.le_refl _) (fun d h1 h2 => absurd h2 (by omega))
theorem c_daysWith (hP : CP F n nd R f ro rs rw) {p : Nat} (hp : p < 8) : Mt (dp + 3) 0 0 mX3_daysWith [.ref 12, .int (nI p)] (HH f ro rs rw rb m) (RI (nI (cnt (fun d => plB F (R d) p) nd)) (HH f ro rs rw rb m)) := by
  refine Mt.of rfl rfl (Nat.le_of_ble_eq_true rfl) rfl ?_
  have pw := fun {d} hd => c_plays (dp := dp) (rb := rb) (m := m) hP hp (d := d) hd
  obtain ⟨⟨hn, hnd, hB, hpl⟩, h1, h12, hC, hw, hR⟩ := hP
  generalize hv : nI (cnt (fun d => plB F (R d) p) nd) = v
  have loop : ∀ (j i : Nat), nd - i = j → i ≤ nd → V mX3_daysWith (dp + 3) 0 0 4 [some (.ref 12), some (.int (nI p)), some (.int (nI (cnt (fun d => plB F (R d) p) i))), some (.int (nI i))] [] (HH f ro rs rw rb m) (RI v (HH f ro rs rw rb m)) := by
    intro j
    induction j using Nat.strongRecOn with
    | _ j ih =>
      intro i hj hi
      refine V.ildn 3 dX3_daysWith_4 rfl rfl ?_
      refine V.aldn 0 dX3_daysWith_5 rfl rfl ?_
      refine V.gf3_4 dX3_daysWith_6 f_X3_29 ?_
      refine V.top h12 ?_
      first | refine V.icmp_geN 30 dX3_daysWith_9 (by decide) (by omega) (by omega) (fun c9 => ?_) (fun c9 => ?_) | refine V.icmp_ge 30 dX3_daysWith_9 (by decide) (fun c9 => ?_) (fun c9 => ?_)
      · obtain rfl : i = nd := by omega
        refine V.ildn 2 dX3_daysWith_30 rfl rfl ?_
        exact V.ireturn dX3_daysWith_31 rfl (by first | rfl | decide +kernel) (⟨by rw [← hv], rfl⟩)
      · refine V.aldn 0 dX3_daysWith_12 rfl rfl ?_
        refine V.ildn 1 dX3_daysWith_13 rfl rfl ?_
        refine V.ildn 3 dX3_daysWith_14 rfl rfl ?_
        refine V.cVi (pw (by omega)) dX3_daysWith_15 k_X3_74 rfl rfl rfl (Nat.le_of_ble_eq_true rfl) rfl ?_
        first | refine V.if_eqB 24 dX3_daysWith_18 (by decide) (fun c18 => ?_) (fun c18 => ?_) | refine V.if_eqN 24 dX3_daysWith_18 (by decide) (by omega) (fun c18 => ?_) (fun c18 => ?_) | refine V.if_eq 24 dX3_daysWith_18 (by decide) (fun c18 => ?_) (fun c18 => ?_)
        · have e : cnt (fun d => plB F (R d) p) i = cnt (fun d => plB F (R d) p) (i + 1) := by rw [cnt, if_neg (by rw [c18]; decide)]; rfl
          rw [e]
          refine V.iincN dX3_daysWith_24 rfl ?_
          refine V.goto 4 dX3_daysWith_27 (by decide) ?_
          exact ih _ (by omega) (i + 1) rfl (by omega)
        · first | refine V.iincN dX3_daysWith_21 rfl ?_ | refine V.iinc dX3_daysWith_21 rfl rfl ?_
          have e : cnt (fun d => plB F (R d) p) (i + 1) = cnt (fun d => plB F (R d) p) i + 1 := by rw [cnt, if_pos c18]
          rw [← e]
          first | refine V.iincN dX3_daysWith_24 rfl ?_ | refine V.iinc dX3_daysWith_24 rfl rfl ?_
          refine V.goto 4 dX3_daysWith_27 (by decide) ?_
          exact ih _ (by omega) (i + 1) rfl (by omega)
  refine V.iconst (nI 0) dX3_daysWith_0 (by decide +kernel) ?_
  refine V.istn 2 dX3_daysWith_1 rfl (Nat.le_of_ble_eq_true rfl) ?_
  refine V.iconst (nI 0) dX3_daysWith_2 (by decide +kernel) ?_
  refine V.istn 3 dX3_daysWith_3 rfl (Nat.le_of_ble_eq_true rfl) ?_
  exact loop _ 0 rfl (Nat.zero_le _)
theorem V.mmax {M : MD} {d rc rs pc : Nat} {ls : List (Option Value)} {st : List Value} {h : List AC} {Q : Option Value → List AC → Prop} {idx : Nat} {x y : Int32} (hd : decode M.2.1 pc = .ok (.invokestatic idx, 3)) (w1 : Cond.methodLink M.2.2.2.2 idx Lib.Math.max.name ∈ lwg) (w2 : Cond.static Lib.Math.max.name ∈ lwg) (w3 : Cond.initialized "java/lang/Math" ∈ lwg) (w4 : Cond.code Lib.Math.max.name Lib.Math.max.code 2 (some .int) ∈ lwg) (hdp : 1 ≤ d) (hs : (st.map fun v => v.category).sum ≤ 8) (kk : V M d rc rs (pc + 3) ls (.int (if x < y then y else x) :: st) h Q) : V M d rc rs pc ls (.int y :: .int x :: st) h Q := by
  intro p l e R s m args below meth c b G H locs cells slots arr hC hW hL h1 h2
  have hts := hC.2.2.2.2.2.1
  obtain ⟨hfr, hlo⟩ := hC.2.2.2.2.2.2.2.2.2.2
  refine va_mmax hC.1 hC.2.1 (by rw [hC.2.2.2.1]; exact hL.1.symm) hC.2.2.2.2.1 (hts _ (List.mem_cons_of_mem _ w1)) (hts _ (List.mem_cons_of_mem _ w2)) (hts _ (List.mem_cons_of_mem _ w3)) (hts _ (List.mem_cons_of_mem _ w4)) (by omega) (by rw [cv_sum]; omega) (by omega) (by omega) hd ?_
  exact kk p l e R s m args below meth c b G H locs cells slots arr hC hW hL h1 h2
set_option maxRecDepth 100000 in
theorem jm1 : Cond.methodLink RX3 77 Lib.Math.max.name ∈ lwg := in_lwg 501 rfl rfl
set_option maxRecDepth 100000 in
theorem jm2 : Cond.static Lib.Math.max.name ∈ lwg := in_lwg 502 rfl rfl
set_option maxRecDepth 100000 in
theorem jm3 : Cond.initialized "java/lang/Math" ∈ lwg := in_lwg 55 rfl rfl
set_option maxRecDepth 100000 in
theorem jm4 : Cond.code Lib.Math.max.name Lib.Math.max.code 2 (some .int) ∈ lwg := in_lwg 503 rfl rfl
theorem c_greatestMost (hC : CF F f) (h12 : f 12 4 = nI nd) (hnd : nd ≤ 8) : Mt (dp + 2) 0 0 mX3_greatestMost [.ref 12] (HH f ro rs rw rb m) (RI (grt F nd) (HH f ro rs rw rb m)) := by
  refine Mt.of rfl rfl (Nat.le_of_ble_eq_true rfl) rfl ?_
  have loop : ∀ (j i : Nat), nd - i = j → i ≤ nd → V mX3_greatestMost (dp + 2) 0 0 4 [some (.ref 12), some (.int (grt F i)), some (.int (nI i))] [] (HH f ro rs rw rb m) (RI (grt F nd) (HH f ro rs rw rb m)) := by
    intro j
    induction j using Nat.strongRecOn with
    | _ j ih =>
      intro i hj hi
      refine V.ildn 2 dX3_greatestMost_4 rfl rfl ?_
      refine V.aldn 0 dX3_greatestMost_5 rfl rfl ?_
      refine V.gf3_4 dX3_greatestMost_6 f_X3_29 ?_
      refine V.top h12 ?_
      first | refine V.icmp_geN 29 dX3_greatestMost_9 (by decide) (by omega) (by omega) (fun c9 => ?_) (fun c9 => ?_) | refine V.icmp_ge 29 dX3_greatestMost_9 (by decide) (fun c9 => ?_) (fun c9 => ?_)
      · obtain rfl : i = nd := by omega
        refine V.ildn 1 dX3_greatestMost_29 rfl rfl ?_
        exact V.ireturn dX3_greatestMost_30 rfl (by first | rfl | decide +kernel) (⟨rfl, rfl⟩)
      · refine V.ildn 1 dX3_greatestMost_12 rfl rfl ?_
        refine V.aldn 0 dX3_greatestMost_13 rfl rfl ?_
        refine V.gf3_2 dX3_greatestMost_14 f_X3_17 ?_
        refine V.ildn 2 dX3_greatestMost_17 rfl rfl ?_
        refine V.ald_14 dX3_greatestMost_18 (ix_nI (by omega) (by decide)) ?_
        refine V.top (y := F 14 i) (congrFun (hC 14 rfl) i) ?_
        refine V.mmax dX3_greatestMost_19 jm1 jm2 jm3 jm4 (Nat.le_of_ble_eq_true rfl) (Nat.le_of_ble_eq_true rfl) (V.top (y := grt F (i + 1)) (by rw [grt]; split <;> rename_i q; rw [if_neg (Int32.not_le.mpr q)]; rw [if_pos (Int32.not_lt.mp q)]) ?_)
        refine V.istn 1 dX3_greatestMost_22 rfl (Nat.le_of_ble_eq_true rfl) ?_
        first | refine V.iincN dX3_greatestMost_23 rfl ?_ | refine V.iinc dX3_greatestMost_23 rfl rfl ?_
        refine V.goto 4 dX3_greatestMost_26 (by decide) ?_
        exact ih _ (by omega) (i + 1) rfl (by omega)
  refine V.iconst (nI 0) dX3_greatestMost_0 (by decide +kernel) ?_
  refine V.istn 1 dX3_greatestMost_1 rfl (Nat.le_of_ble_eq_true rfl) ?_
  refine V.iconst (nI 0) dX3_greatestMost_2 (by decide +kernel) ?_
  refine V.istn 2 dX3_greatestMost_3 rfl (Nat.le_of_ble_eq_true rfl) ?_
  exact loop _ 0 rfl (Nat.zero_le _)
theorem c_addDay_full (h12 : f 12 4 = nI 8) (a b : Int32) : Mt (dp + 1) 0 0 mX3_addDay [.ref 12, .int a, .int b] (HH f ro rs rw rb m) (RI (-4) (HH f ro rs rw rb m)) := by
  refine Mt.of rfl rfl (Nat.le_of_ble_eq_true rfl) rfl ?_
  refine V.aldn 0 dX3_addDay_0 rfl rfl ?_
  refine V.gf3_4 dX3_addDay_1 f_X3_29 ?_
  refine V.top h12 ?_
  refine V.istn 3 dX3_addDay_4 rfl (Nat.le_of_ble_eq_true rfl) ?_
  refine V.ildn 3 dX3_addDay_5 rfl rfl ?_
  refine V.bipush (nI 8) dX3_addDay_6 (by decide +kernel) ?_
  first | refine V.icmp_ltN 14 dX3_addDay_8 (by decide) (by omega) (by omega) (fun c8 => ?_) (fun c8 => ?_) | refine V.icmp_lt 14 dX3_addDay_8 (by decide) (fun c8 => ?_) (fun c8 => ?_)
  · exact absurd c8 (by omega)
  · refine V.bipush (-4) dX3_addDay_11 (by decide +kernel) ?_
    exact V.ireturn dX3_addDay_13 rfl (by first | rfl | decide +kernel) (⟨rfl, rfl⟩)
theorem c_addDay (h12 : f 12 4 = nI nd) (h8 : nd < 8) (a b : Int32) : Mt (dp + 1) 0 0 mX3_addDay [.ref 12, .int a, .int b] (HH f ro rs rw rb m) (RI (nI nd) (HH (up2 (up2 (up2 f 14 nd a) 15 nd b) 12 4 (nI (nd + 1))) ro rs rw rb m)) := by
  refine Mt.of rfl rfl (Nat.le_of_ble_eq_true rfl) rfl ?_
  refine V.aldn 0 dX3_addDay_0 rfl rfl ?_
  refine V.gf3_4 dX3_addDay_1 f_X3_29 ?_
  refine V.top h12 ?_
  refine V.istn 3 dX3_addDay_4 rfl (Nat.le_of_ble_eq_true rfl) ?_
  refine V.ildn 3 dX3_addDay_5 rfl rfl ?_
  refine V.bipush (nI 8) dX3_addDay_6 (by decide +kernel) ?_
  first | refine V.icmp_ltN 14 dX3_addDay_8 (by decide) (by omega) (by omega) (fun c8 => ?_) (fun c8 => ?_) | refine V.icmp_lt 14 dX3_addDay_8 (by decide) (fun c8 => ?_) (fun c8 => ?_)
  · refine V.aldn 0 dX3_addDay_14 rfl rfl ?_
    refine V.gf3_2 dX3_addDay_15 f_X3_17 ?_
    refine V.ildn 3 dX3_addDay_18 rfl rfl ?_
    refine V.ildn 1 dX3_addDay_19 rfl rfl ?_
    refine V.ast_14 dX3_addDay_20 (ix_nI (by omega) (by decide)) ?_
    refine V.aldn 0 dX3_addDay_21 rfl rfl ?_
    refine V.gf3_3 dX3_addDay_22 f_X3_21 ?_
    refine V.ildn 3 dX3_addDay_25 rfl rfl ?_
    refine V.ildn 2 dX3_addDay_26 rfl rfl ?_
    refine V.ast_15 dX3_addDay_27 (ix_nI (by omega) (by decide)) ?_
    refine V.aldn 0 dX3_addDay_28 rfl rfl ?_
    refine V.dupr dX3_addDay_29 ?_
    refine V.gf3_4 dX3_addDay_30 f_X3_29 ?_
    refine V.top (y := nI nd) h12 ?_
    refine V.iconst (nI 1) dX3_addDay_33 (by decide +kernel) ?_
    first | refine V.iaddN dX3_addDay_34 ?_ | refine V.iadd dX3_addDay_34 ?_
    refine V.pf3_4 dX3_addDay_35 (fp_X3_29 rfl) ?_
    refine V.ildn 3 dX3_addDay_38 rfl rfl ?_
    exact V.ireturn dX3_addDay_39 rfl (by first | rfl | decide +kernel) (⟨rfl, rfl⟩)
  · exact absurd c8 (by omega)
theorem c_addScene_full (h1 : f 1 10 = nI 20) (a b c o w : Int32) : Mt (dp + 1) 0 0 mX2_addScene [.ref 1, .int a, .int b, .int c, .int o, .int w] (HH f ro rs rw rb m) (RI (-4) (HH f ro rs rw rb m)) := by
  refine Mt.of rfl rfl (Nat.le_of_ble_eq_true rfl) rfl ?_
  refine V.aldn 0 dX2_addScene_0 rfl rfl ?_
  refine V.gf2_10 dX2_addScene_1 f_X2_42 ?_
  refine V.top h1 ?_
  refine V.istore dX2_addScene_4 (Nat.le_of_ble_eq_true rfl) ?_
  refine V.iload dX2_addScene_6 rfl ?_
  refine V.bipush (nI 20) dX2_addScene_8 (by decide +kernel) ?_
  first | refine V.icmp_ltN 16 dX2_addScene_10 (by decide) (by omega) (by omega) (fun c10 => ?_) (fun c10 => ?_) | refine V.icmp_lt 16 dX2_addScene_10 (by decide) (fun c10 => ?_) (fun c10 => ?_)
  · exact absurd c10 (by omega)
  · refine V.bipush (-4) dX2_addScene_13 (by decide +kernel) ?_
    exact V.ireturn dX2_addScene_15 rfl (by first | rfl | decide +kernel) (⟨rfl, rfl⟩)
theorem c_addScene (h1 : f 1 10 = nI n) (h20 : n < 20) (a b c o w : Int32) : Mt (dp + 1) 0 0 mX2_addScene [.ref 1, .int a, .int b, .int c, .int o, .int w] (HH f ro rs rw rb m) (RI (nI n) (HH (up2 (fScene f n a b c o w) 1 10 (nI (n + 1))) ro rs rw rb m)) := by
  refine Mt.of rfl rfl (Nat.le_of_ble_eq_true rfl) rfl ?_
  refine V.aldn 0 dX2_addScene_0 rfl rfl ?_
  refine V.gf2_10 dX2_addScene_1 f_X2_42 ?_
  refine V.top h1 ?_
  refine V.istore dX2_addScene_4 (Nat.le_of_ble_eq_true rfl) ?_
  refine V.iload dX2_addScene_6 rfl ?_
  refine V.bipush (nI 20) dX2_addScene_8 (by decide +kernel) ?_
  first | refine V.icmp_ltN 16 dX2_addScene_10 (by decide) (by omega) (by omega) (fun c10 => ?_) (fun c10 => ?_) | refine V.icmp_lt 16 dX2_addScene_10 (by decide) (fun c10 => ?_) (fun c10 => ?_)
  · refine V.aldn 0 dX2_addScene_16 rfl rfl ?_
    refine V.gf2_0 dX2_addScene_17 f_X2_9 ?_
    refine V.iload dX2_addScene_20 rfl ?_
    refine V.ildn 1 dX2_addScene_22 rfl rfl ?_
    refine V.ast_2 dX2_addScene_23 (ix_nI (by omega) (by decide)) ?_
    refine V.aldn 0 dX2_addScene_24 rfl rfl ?_
    refine V.gf2_1 dX2_addScene_25 f_X2_15 ?_
    refine V.iload dX2_addScene_28 rfl ?_
    refine V.ildn 2 dX2_addScene_30 rfl rfl ?_
    refine V.ast_3 dX2_addScene_31 (ix_nI (by omega) (by decide)) ?_
    refine V.aldn 0 dX2_addScene_32 rfl rfl ?_
    refine V.gf2_2 dX2_addScene_33 f_X2_18 ?_
    refine V.iload dX2_addScene_36 rfl ?_
    refine V.ildn 3 dX2_addScene_38 rfl rfl ?_
    refine V.ast_4 dX2_addScene_39 (ix_nI (by omega) (by decide)) ?_
    refine V.aldn 0 dX2_addScene_40 rfl rfl ?_
    refine V.gf2_3 dX2_addScene_41 f_X2_21 ?_
    refine V.iload dX2_addScene_44 rfl ?_
    refine V.iload dX2_addScene_46 rfl ?_
    refine V.ast_5 dX2_addScene_48 (ix_nI (by omega) (by decide)) ?_
    refine V.aldn 0 dX2_addScene_49 rfl rfl ?_
    refine V.gf2_4 dX2_addScene_50 f_X2_24 ?_
    refine V.iload dX2_addScene_53 rfl ?_
    refine V.iload dX2_addScene_55 rfl ?_
    refine V.ast_6 dX2_addScene_57 (ix_nI (by omega) (by decide)) ?_
    refine V.aldn 0 dX2_addScene_58 rfl rfl ?_
    refine V.dupr dX2_addScene_59 ?_
    refine V.gf2_10 dX2_addScene_60 f_X2_42 ?_
    refine V.top (y := nI n) h1 ?_
    refine V.iconst (nI 1) dX2_addScene_63 (by decide +kernel) ?_
    first | refine V.iaddN dX2_addScene_64 ?_ | refine V.iadd dX2_addScene_64 ?_
    refine V.pf2_10 dX2_addScene_65 (fp_X2_42 rfl) ?_
    refine V.iload dX2_addScene_68 rfl ?_
    exact V.ireturn dX2_addScene_70 rfl (by first | rfl | decide +kernel) (⟨rfl, rfl⟩)
  · exact absurd c10 (by omega)
end CLASS
