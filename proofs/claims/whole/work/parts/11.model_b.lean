/-! the reference: lights, places, players -/
def sn (F : Nat → Nat → Int32) (l : List Nat) : Nat → Int32
  | 0 => nI 0
  | i + 1 => sn F l i + (if F 4 (l.getD i 0) = nI 1 then F 2 (l.getD i 0) else nI 0)
def sunm (F : Nat → Nat → Int32) (l : List Nat) : Int32 := sn F l l.length
theorem any_at {l : List Nat} {p : Nat → Bool} {k : Nat} (hk : k < l.length) (h : p (l.getD k 0) = true) : l.any p = true := by
  rw [List.any_eq_true]
  refine ⟨l.getD k 0, ?_, h⟩
  rw [List.getD_eq_getElem?_getD, List.getElem?_eq_getElem hk]
  exact List.getElem_mem hk
theorem any_no {l : List Nat} {p : Nat → Bool} (h : ∀ k, k < l.length → p (l.getD k 0) = false) : l.any p = false := by
  rw [List.any_eq_false]
  intro x hx
  obtain ⟨k, hk, rfl⟩ := List.getElem_of_mem hx
  have := h k hk
  rw [List.getD_eq_getElem?_getD, List.getElem?_eq_getElem hk] at this
  simpa using this
theorem getD_mem {l : List Nat} {k : Nat} (hk : k < l.length) : l.getD k 0 ∈ l := by
  rw [List.getD_eq_getElem?_getD, List.getElem?_eq_getElem hk]
  exact List.getElem_mem hk
theorem mem_getD {l : List Nat} {x : Nat} (h : x ∈ l) : ∃ k, k < l.length ∧ l.getD k 0 = x := by
  obtain ⟨k, hk, rfl⟩ := List.getElem_of_mem h
  exact ⟨k, hk, by rw [List.getD_eq_getElem?_getD, List.getElem?_eq_getElem hk]; rfl⟩
def hasL (F : Nat → Nat → Int32) (l : List Nat) (v : Int32) : Bool := l.any (fun s => decide (F 4 s = v))
def ixo (l : List Nat) (s : Nat) : Int32 := if s ∈ l then nI (l.idxOf s) else -1
theorem ixo_at {l : List Nat} {s k : Nat} (hk : k < l.length) (h : l.getD k 0 = s) (hn : ∀ i, i < k → l.getD i 0 ≠ s) : ixo l s = nI k := by
  have hm : s ∈ l := by rw [← h]; exact getD_mem hk
  rw [ixo, if_pos hm]
  congr 1
  have h1 : l.idxOf s < l.length := List.idxOf_lt_length_of_mem hm
  have h2 : l.getD (l.idxOf s) 0 = s := by
    rw [List.getD_eq_getElem?_getD, List.getElem?_eq_getElem h1]
    exact List.getElem_idxOf h1
  rcases Nat.lt_trichotomy (l.idxOf s) k with q | q | q
  · exact absurd h2 (hn _ q)
  · exact q
  · exfalso
    have := List.not_of_lt_findIdx (xs := l) (p := (· == s)) (i := k) q
    rw [List.getD_eq_getElem?_getD, List.getElem?_eq_getElem hk] at h
    simp at this
    exact this h
theorem ixo_no {l : List Nat} {s : Nat} (h : ∀ k, k < l.length → l.getD k 0 ≠ s) : ixo l s = -1 := by
  rw [ixo, if_neg]
  intro hm
  obtain ⟨k, hk, e⟩ := mem_getD hm
  exact h k hk e
def btB (x : Int32) (p : Nat) : Bool := decide ((x >>> (nI p &&& 31) &&& nI 1) = nI 1)
def plB (F : Nat → Nat → Int32) (l : List Nat) (p : Nat) : Bool := l.any (fun s => btB (F 6 s) p)
def usB (F : Nat → Nat → Int32) (l : List Nat) (p : Nat) : Bool := l.any (fun s => decide (F 3 s = nI p))
def dI (o : Option Nat) : Int32 := match o with
  | none => -1
  | some d => nI d
section MODEL
variable {f ro rs : Nat → Nat → Int32} {rw rb : Nat → Nat} {m : Nat → Nat → Int32} {dp : Nat}
theorem t_lightOf {F : Nat → Nat → Int32} (hF : m 2 = F 2 ∧ m 4 = F 4) {l : List Nat} {d : Nat} (hd : d < 8) (hl : rowM m d l) : Mt (dp + 1) 0 0 mX7_lightOf [.ref 45, .int (nI d)] (HH f ro rs rw rb m) (RI (sunm F l) (HH f ro rs rw rb m)) := by
  refine Mt.of rfl rfl (Nat.le_of_ble_eq_true rfl) rfl ?_
  obtain ⟨hz, hz5, hr⟩ := hl
  obtain ⟨f2, f4⟩ := hF
  have loop : ∀ (j k : Nat), l.length - k = j → k ≤ l.length → V mX7_lightOf (dp + 1) 0 0 4 [some (.ref 45), some (.int (nI d)), some (.int (sn F l k)), some (.int (nI k))] [] (HH f ro rs rw rb m) (RI (sunm F l) (HH f ro rs rw rb m)) := by
    intro j
    induction j using Nat.strongRecOn with
    | _ j ih =>
      intro k hj hk
      refine V.ildn 3 dX7_lightOf_4 rfl rfl ?_
      refine V.aldn 0 dX7_lightOf_5 rfl rfl ?_
      refine V.gf7_16 dX7_lightOf_6 f_X7_50 ?_
      refine V.ildn 1 dX7_lightOf_9 rfl rfl ?_
      refine V.ald_59 dX7_lightOf_10 (ix_nI (by omega) (by decide)) ?_
      refine V.top hz ?_
      first | refine V.icmp_geN 61 dX7_lightOf_11 (by decide) (by omega) (by omega) (fun c11 => ?_) (fun c11 => ?_) | refine V.icmp_ge 61 dX7_lightOf_11 (by decide) (fun c11 => ?_) (fun c11 => ?_)
      · obtain rfl : k = l.length := by omega
        refine V.ildn 2 dX7_lightOf_61 rfl rfl ?_
        exact V.ireturn dX7_lightOf_62 rfl (by first | rfl | decide +kernel) (⟨rfl, rfl⟩)
      · have hs := (hr k c11).2
        refine V.ildn 2 dX7_lightOf_14 rfl rfl ?_
        refine V.aldn 0 dX7_lightOf_15 rfl rfl ?_
        refine V.gf7_4 dX7_lightOf_16 f_X7_16 ?_
        refine V.aldn 0 dX7_lightOf_19 rfl rfl ?_
        refine V.gf7_17 dX7_lightOf_20 f_X7_53 ?_
        refine V.iconst (nI 5) dX7_lightOf_23 (by decide +kernel) ?_
        refine V.ildn 1 dX7_lightOf_24 rfl rfl ?_
        first | refine V.imulN dX7_lightOf_25 ?_ | refine V.imul dX7_lightOf_25 ?_
        refine V.ildn 3 dX7_lightOf_26 rfl rfl ?_
        first | refine V.iaddN dX7_lightOf_27 ?_ | refine V.iadd dX7_lightOf_27 ?_
        refine V.ald_60 dX7_lightOf_28 (ix_nI (by omega) (by decide)) ?_
        refine V.top (hr k c11).1 ?_
        refine V.ald_48 dX7_lightOf_29 (ix_nI (by omega) (by decide)) ?_
        refine V.top (congrFun f4 _) ?_
        refine V.iconst (nI 1) dX7_lightOf_30 (by decide +kernel) ?_
        refine V.icmp_ne 52 dX7_lightOf_31 (by decide) (fun c31 => ?_) (fun c31 => ?_)
        · refine V.iconst (nI 0) dX7_lightOf_52 (by decide +kernel) ?_
          refine V.iadd dX7_lightOf_53 ?_
          refine V.top (y := sn F l (k + 1)) (by rw [sn, if_neg c31]) ?_
          refine V.istn 2 dX7_lightOf_54 rfl (Nat.le_of_ble_eq_true rfl) ?_
          first | refine V.iincN dX7_lightOf_55 rfl ?_ | refine V.iinc dX7_lightOf_55 rfl rfl ?_
          refine V.goto 4 dX7_lightOf_58 (by decide) ?_
          exact ih _ (by omega) (k + 1) rfl (by omega)
        · refine V.aldn 0 dX7_lightOf_34 rfl rfl ?_
          refine V.gf7_2 dX7_lightOf_35 f_X7_7 ?_
          refine V.aldn 0 dX7_lightOf_38 rfl rfl ?_
          refine V.gf7_17 dX7_lightOf_39 f_X7_53 ?_
          refine V.iconst (nI 5) dX7_lightOf_42 (by decide +kernel) ?_
          refine V.ildn 1 dX7_lightOf_43 rfl rfl ?_
          first | refine V.imulN dX7_lightOf_44 ?_ | refine V.imul dX7_lightOf_44 ?_
          refine V.ildn 3 dX7_lightOf_45 rfl rfl ?_
          first | refine V.iaddN dX7_lightOf_46 ?_ | refine V.iadd dX7_lightOf_46 ?_
          refine V.ald_60 dX7_lightOf_47 (ix_nI (by omega) (by decide)) ?_
          refine V.top (hr k c11).1 ?_
          refine V.ald_46 dX7_lightOf_48 (ix_nI (by omega) (by decide)) ?_
          refine V.top (congrFun f2 _) ?_
          refine V.goto 53 dX7_lightOf_49 (by decide) ?_
          refine V.iadd dX7_lightOf_53 ?_
          refine V.top (y := sn F l (k + 1)) (by rw [sn, if_pos c31]) ?_
          refine V.istn 2 dX7_lightOf_54 rfl (Nat.le_of_ble_eq_true rfl) ?_
          first | refine V.iincN dX7_lightOf_55 rfl ?_ | refine V.iinc dX7_lightOf_55 rfl rfl ?_
          refine V.goto 4 dX7_lightOf_58 (by decide) ?_
          exact ih _ (by omega) (k + 1) rfl (by omega)
  refine V.iconst (nI 0) dX7_lightOf_0 (by decide +kernel) ?_
  refine V.istn 2 dX7_lightOf_1 rfl (Nat.le_of_ble_eq_true rfl) ?_
  refine V.iconst (nI 0) dX7_lightOf_2 (by decide +kernel) ?_
  refine V.istn 3 dX7_lightOf_3 rfl (Nat.le_of_ble_eq_true rfl) ?_
  exact loop l.length 0 (by omega) (by omega)
theorem t_has {F : Nat → Nat → Int32} (f4 : m 4 = F 4) {l : List Nat} {d : Nat} (hd : d < 8) (hl : rowM m d l) (v : Int32) : Mt (dp + 1) 0 0 mX7_has [.ref 45, .int (nI d), .int v] (HH f ro rs rw rb m) (RI (bI (hasL F l v)) (HH f ro rs rw rb m)) := by
  refine Mt.of rfl rfl (Nat.le_of_ble_eq_true rfl) rfl ?_
  obtain ⟨hz, hz5, hr⟩ := hl
  have loop : ∀ (j k : Nat), l.length - k = j → k ≤ l.length → (∀ i, i < k → ¬ F 4 (l.getD i 0) = v) → V mX7_has (dp + 1) 0 0 2 [some (.ref 45), some (.int (nI d)), some (.int v), some (.int (nI k))] [] (HH f ro rs rw rb m) (RI (bI (hasL F l v)) (HH f ro rs rw rb m)) := by
    intro j
    induction j using Nat.strongRecOn with
    | _ j ih =>
      intro k hj hk hno
      refine V.ildn 3 dX7_has_2 rfl rfl ?_
      refine V.aldn 0 dX7_has_3 rfl rfl ?_
      refine V.gf7_16 dX7_has_4 f_X7_50 ?_
      refine V.ildn 1 dX7_has_7 rfl rfl ?_
      refine V.ald_59 dX7_has_8 (ix_nI (by omega) (by decide)) ?_
      refine V.top hz ?_
      first | refine V.icmp_geN 39 dX7_has_9 (by decide) (by omega) (by omega) (fun c9 => ?_) (fun c9 => ?_) | refine V.icmp_ge 39 dX7_has_9 (by decide) (fun c9 => ?_) (fun c9 => ?_)
      · refine V.iconst (nI 0) dX7_has_39 (by decide +kernel) ?_
        exact V.ireturn dX7_has_40 rfl (by first | rfl | decide +kernel) (⟨congrArg (fun x => some (Value.int x)) (bI_f (any_no (fun i hi => by simpa using hno i (by omega)))), rfl⟩)
      · have hs := (hr k c9).2
        refine V.aldn 0 dX7_has_12 rfl rfl ?_
        refine V.gf7_4 dX7_has_13 f_X7_16 ?_
        refine V.aldn 0 dX7_has_16 rfl rfl ?_
        refine V.gf7_17 dX7_has_17 f_X7_53 ?_
        refine V.iconst (nI 5) dX7_has_20 (by decide +kernel) ?_
        refine V.ildn 1 dX7_has_21 rfl rfl ?_
        first | refine V.imulN dX7_has_22 ?_ | refine V.imul dX7_has_22 ?_
        refine V.ildn 3 dX7_has_23 rfl rfl ?_
        first | refine V.iaddN dX7_has_24 ?_ | refine V.iadd dX7_has_24 ?_
        refine V.ald_60 dX7_has_25 (ix_nI (by omega) (by decide)) ?_
        refine V.top (hr k c9).1 ?_
        refine V.ald_48 dX7_has_26 (ix_nI (by omega) (by decide)) ?_
        refine V.top (congrFun f4 _) ?_
        refine V.ildn 2 dX7_has_27 rfl rfl ?_
        refine V.icmp_ne 33 dX7_has_28 (by decide) (fun c28 => ?_) (fun c28 => ?_)
        · first | refine V.iincN dX7_has_33 rfl ?_ | refine V.iinc dX7_has_33 rfl rfl ?_
          refine V.goto 2 dX7_has_36 (by decide) ?_
          exact ih _ (by omega) (k + 1) rfl (by omega) (fun i hi => by rcases Nat.lt_succ_iff_lt_or_eq.mp hi with q | q; exact hno i q; rw [q]; exact c28)
        · refine V.iconst (nI 1) dX7_has_31 (by decide +kernel) ?_
          exact V.ireturn dX7_has_32 rfl (by first | rfl | decide +kernel) (⟨congrArg (fun x => some (Value.int x)) (bI_t (any_at c9 (by simpa using c28))), rfl⟩)
  refine V.iconst (nI 0) dX7_has_0 (by decide +kernel) ?_
  refine V.istn 3 dX7_has_1 rfl (Nat.le_of_ble_eq_true rfl) ?_
  exact loop l.length 0 (by omega) (by omega) (fun i hi => absurd hi (Nat.not_lt_zero i))
theorem t_plays {F : Nat → Nat → Int32} (f6 : m 6 = F 6) {l : List Nat} {d : Nat} (hd : d < 8) (hl : rowM m d l) (p : Nat) : Mt (dp + 1) 0 0 mX7_plays [.ref 45, .int (nI p), .int (nI d)] (HH f ro rs rw rb m) (RI (bI (plB F l p)) (HH f ro rs rw rb m)) := by
  refine Mt.of rfl rfl (Nat.le_of_ble_eq_true rfl) rfl ?_
  obtain ⟨hz, hz5, hr⟩ := hl
  have loop : ∀ (j k : Nat), l.length - k = j → k ≤ l.length → (∀ i, i < k → btB (F 6 (l.getD i 0)) p = false) → V mX7_plays (dp + 1) 0 0 2 [some (.ref 45), some (.int (nI p)), some (.int (nI d)), some (.int (nI k))] [] (HH f ro rs rw rb m) (RI (bI (plB F l p)) (HH f ro rs rw rb m)) := by
    intro j
    induction j using Nat.strongRecOn with
    | _ j ih =>
      intro k hj hk hno
      refine V.ildn 3 dX7_plays_2 rfl rfl ?_
      refine V.aldn 0 dX7_plays_3 rfl rfl ?_
      refine V.gf7_16 dX7_plays_4 f_X7_50 ?_
      refine V.ildn 2 dX7_plays_7 rfl rfl ?_
      refine V.ald_59 dX7_plays_8 (ix_nI (by omega) (by decide)) ?_
      refine V.top hz ?_
      first | refine V.icmp_geN 43 dX7_plays_9 (by decide) (by omega) (by omega) (fun c9 => ?_) (fun c9 => ?_) | refine V.icmp_ge 43 dX7_plays_9 (by decide) (fun c9 => ?_) (fun c9 => ?_)
      · refine V.iconst (nI 0) dX7_plays_43 (by decide +kernel) ?_
        exact V.ireturn dX7_plays_44 rfl (by first | rfl | decide +kernel) (⟨congrArg (fun x => some (Value.int x)) (bI_f (any_no (fun i hi => hno i (by omega)))), rfl⟩)
      · have hs := (hr k c9).2
        refine V.aldn 0 dX7_plays_12 rfl rfl ?_
        refine V.gf7_6 dX7_plays_13 f_X7_23 ?_
        refine V.aldn 0 dX7_plays_16 rfl rfl ?_
        refine V.gf7_17 dX7_plays_17 f_X7_53 ?_
        refine V.iconst (nI 5) dX7_plays_20 (by decide +kernel) ?_
        refine V.ildn 2 dX7_plays_21 rfl rfl ?_
        first | refine V.imulN dX7_plays_22 ?_ | refine V.imul dX7_plays_22 ?_
        refine V.ildn 3 dX7_plays_23 rfl rfl ?_
        first | refine V.iaddN dX7_plays_24 ?_ | refine V.iadd dX7_plays_24 ?_
        refine V.ald_60 dX7_plays_25 (ix_nI (by omega) (by decide)) ?_
        refine V.top (hr k c9).1 ?_
        refine V.ald_50 dX7_plays_26 (ix_nI (by omega) (by decide)) ?_
        refine V.top (congrFun f6 _) ?_
        refine V.ildn 1 dX7_plays_27 rfl rfl ?_
        refine V.ishr dX7_plays_28 ?_
        refine V.iconst (nI 1) dX7_plays_29 (by decide +kernel) ?_
        refine V.iand dX7_plays_30 ?_
        refine V.iconst (nI 1) dX7_plays_31 (by decide +kernel) ?_
        refine V.icmp_ne 37 dX7_plays_32 (by decide) (fun c32 => ?_) (fun c32 => ?_)
        · first | refine V.iincN dX7_plays_37 rfl ?_ | refine V.iinc dX7_plays_37 rfl rfl ?_
          refine V.goto 2 dX7_plays_40 (by decide) ?_
          exact ih _ (by omega) (k + 1) rfl (by omega) (fun i hi => by rcases Nat.lt_succ_iff_lt_or_eq.mp hi with q | q; exact hno i q; rw [q]; exact decide_eq_false c32)
        · refine V.iconst (nI 1) dX7_plays_35 (by decide +kernel) ?_
          exact V.ireturn dX7_plays_36 rfl (by first | rfl | decide +kernel) (⟨congrArg (fun x => some (Value.int x)) (bI_t (any_at c9 (decide_eq_true c32))), rfl⟩)
  refine V.iconst (nI 0) dX7_plays_0 (by decide +kernel) ?_
  refine V.istn 3 dX7_plays_1 rfl (Nat.le_of_ble_eq_true rfl) ?_
  exact loop l.length 0 (by omega) (by omega) (fun i hi => absurd hi (Nat.not_lt_zero i))
theorem t_uses {F : Nat → Nat → Int32} (f3 : m 3 = F 3) {l : List Nat} {d : Nat} (hd : d < 8) (hl : rowM m d l) (p : Nat) : Mt (dp + 1) 0 0 mX7_uses [.ref 45, .int (nI d), .int (nI p)] (HH f ro rs rw rb m) (RI (bI (usB F l p)) (HH f ro rs rw rb m)) := by
  refine Mt.of rfl rfl (Nat.le_of_ble_eq_true rfl) rfl ?_
  obtain ⟨hz, hz5, hr⟩ := hl
  have loop : ∀ (j k : Nat), l.length - k = j → k ≤ l.length → (∀ i, i < k → ¬ F 3 (l.getD i 0) = nI p) → V mX7_uses (dp + 1) 0 0 2 [some (.ref 45), some (.int (nI d)), some (.int (nI p)), some (.int (nI k))] [] (HH f ro rs rw rb m) (RI (bI (usB F l p)) (HH f ro rs rw rb m)) := by
    intro j
    induction j using Nat.strongRecOn with
    | _ j ih =>
      intro k hj hk hno
      refine V.ildn 3 dX7_uses_2 rfl rfl ?_
      refine V.aldn 0 dX7_uses_3 rfl rfl ?_
      refine V.gf7_16 dX7_uses_4 f_X7_50 ?_
      refine V.ildn 1 dX7_uses_7 rfl rfl ?_
      refine V.ald_59 dX7_uses_8 (ix_nI (by omega) (by decide)) ?_
      refine V.top hz ?_
      first | refine V.icmp_geN 39 dX7_uses_9 (by decide) (by omega) (by omega) (fun c9 => ?_) (fun c9 => ?_) | refine V.icmp_ge 39 dX7_uses_9 (by decide) (fun c9 => ?_) (fun c9 => ?_)
      · refine V.iconst (nI 0) dX7_uses_39 (by decide +kernel) ?_
        exact V.ireturn dX7_uses_40 rfl (by first | rfl | decide +kernel) (⟨congrArg (fun x => some (Value.int x)) (bI_f (any_no (fun i hi => by simpa using hno i (by omega)))), rfl⟩)
      · have hs := (hr k c9).2
        refine V.aldn 0 dX7_uses_12 rfl rfl ?_
        refine V.gf7_3 dX7_uses_13 f_X7_13 ?_
        refine V.aldn 0 dX7_uses_16 rfl rfl ?_
        refine V.gf7_17 dX7_uses_17 f_X7_53 ?_
        refine V.iconst (nI 5) dX7_uses_20 (by decide +kernel) ?_
        refine V.ildn 1 dX7_uses_21 rfl rfl ?_
        first | refine V.imulN dX7_uses_22 ?_ | refine V.imul dX7_uses_22 ?_
        refine V.ildn 3 dX7_uses_23 rfl rfl ?_
        first | refine V.iaddN dX7_uses_24 ?_ | refine V.iadd dX7_uses_24 ?_
        refine V.ald_60 dX7_uses_25 (ix_nI (by omega) (by decide)) ?_
        refine V.top (hr k c9).1 ?_
        refine V.ald_47 dX7_uses_26 (ix_nI (by omega) (by decide)) ?_
        refine V.top (congrFun f3 _) ?_
        refine V.ildn 2 dX7_uses_27 rfl rfl ?_
        refine V.icmp_ne 33 dX7_uses_28 (by decide) (fun c28 => ?_) (fun c28 => ?_)
        · first | refine V.iincN dX7_uses_33 rfl ?_ | refine V.iinc dX7_uses_33 rfl rfl ?_
          refine V.goto 2 dX7_uses_36 (by decide) ?_
          exact ih _ (by omega) (k + 1) rfl (by omega) (fun i hi => by rcases Nat.lt_succ_iff_lt_or_eq.mp hi with q | q; exact hno i q; rw [q]; exact c28)
        · refine V.iconst (nI 1) dX7_uses_31 (by decide +kernel) ?_
          exact V.ireturn dX7_uses_32 rfl (by first | rfl | decide +kernel) (⟨congrArg (fun x => some (Value.int x)) (bI_t (any_at c9 (by simpa using c28))), rfl⟩)
  refine V.iconst (nI 0) dX7_uses_0 (by decide +kernel) ?_
  refine V.istn 3 dX7_uses_1 rfl (Nat.le_of_ble_eq_true rfl) ?_
  exact loop l.length 0 (by omega) (by omega) (fun i hi => absurd hi (Nat.not_lt_zero i))
theorem t_placeIn {s : Nat} (hs : s < 20) {o : Option Nat} (ho : m 8 s = dI o) {l : List Nat} (hd : ∀ d, o = some d → d < 8 ∧ rowM m d l) (hn : o = none → l = []) : Mt (dp + 1) 0 0 mX7_placeIn [.ref 45, .int (nI s)] (HH f ro rs rw rb m) (RI (ixo l s) (HH f ro rs rw rb m)) := by
  refine Mt.of rfl rfl (Nat.le_of_ble_eq_true rfl) rfl ?_
  cases o with
  | none =>
    have hn := hn rfl
    subst hn
    refine V.aldn 0 dX7_placeIn_0 rfl rfl ?_
    refine V.gf7_8 dX7_placeIn_1 f_X7_29 ?_
    refine V.ildn 1 dX7_placeIn_4 rfl rfl ?_
    refine V.ald_52 dX7_placeIn_5 (ix_nI (by omega) (by decide)) ?_
    refine V.top ho ?_
    refine V.istn 2 dX7_placeIn_6 rfl (Nat.le_of_ble_eq_true rfl) ?_
    refine V.iconst (nI 0) dX7_placeIn_7 (by decide +kernel) ?_
    refine V.istn 3 dX7_placeIn_8 rfl (Nat.le_of_ble_eq_true rfl) ?_
    refine V.ildn 2 dX7_placeIn_9 rfl rfl ?_
    refine V.iconst (-1) dX7_placeIn_10 (by decide +kernel) ?_
    refine V.icmp_eq 46 dX7_placeIn_11 (by decide) (fun c11 => ?_) (fun c11 => ?_)
    · refine V.iconst (-1) dX7_placeIn_46 (by decide +kernel) ?_
      exact V.ireturn dX7_placeIn_47 rfl (by first | rfl | decide +kernel) (⟨rfl, rfl⟩)
    · exact absurd rfl c11
  | some d =>
    obtain ⟨hd, hz, hz5, hr⟩ := hd d rfl
    have loop : ∀ (j k : Nat), l.length - k = j → k ≤ l.length → (∀ i, i < k → l.getD i 0 ≠ s) → V mX7_placeIn (dp + 1) 0 0 9 [some (.ref 45), some (.int (nI s)), some (.int (nI d)), some (.int (nI k))] [] (HH f ro rs rw rb m) (RI (ixo l s) (HH f ro rs rw rb m)) := by
      intro j
      induction j using Nat.strongRecOn with
      | _ j ih =>
        intro k hj hk hno
        refine V.ildn 2 dX7_placeIn_9 rfl rfl ?_
        refine V.iconst (-1) dX7_placeIn_10 (by decide +kernel) ?_
        refine V.icmp_eq 46 dX7_placeIn_11 (by decide) (fun c11 => ?_) (fun c11 => ?_)
        · exact absurd c11 (nI_m1 (by omega))
        · refine V.ildn 3 dX7_placeIn_14 rfl rfl ?_
          refine V.aldn 0 dX7_placeIn_15 rfl rfl ?_
          refine V.gf7_16 dX7_placeIn_16 f_X7_50 ?_
          refine V.ildn 2 dX7_placeIn_19 rfl rfl ?_
          refine V.ald_59 dX7_placeIn_20 (ix_nI (by omega) (by decide)) ?_
          refine V.top hz ?_
          first | refine V.icmp_geN 46 dX7_placeIn_21 (by decide) (by omega) (by omega) (fun c21 => ?_) (fun c21 => ?_) | refine V.icmp_ge 46 dX7_placeIn_21 (by decide) (fun c21 => ?_) (fun c21 => ?_)
          · refine V.iconst (-1) dX7_placeIn_46 (by decide +kernel) ?_
            exact V.ireturn dX7_placeIn_47 rfl (by first | rfl | decide +kernel) (⟨by rw [ixo_no (fun i hi => hno i (by omega))], rfl⟩)
          · have hs2 := (hr k c21).2
            refine V.aldn 0 dX7_placeIn_24 rfl rfl ?_
            refine V.gf7_17 dX7_placeIn_25 f_X7_53 ?_
            refine V.iconst (nI 5) dX7_placeIn_28 (by decide +kernel) ?_
            refine V.ildn 2 dX7_placeIn_29 rfl rfl ?_
            first | refine V.imulN dX7_placeIn_30 ?_ | refine V.imul dX7_placeIn_30 ?_
            refine V.ildn 3 dX7_placeIn_31 rfl rfl ?_
            first | refine V.iaddN dX7_placeIn_32 ?_ | refine V.iadd dX7_placeIn_32 ?_
            refine V.ald_60 dX7_placeIn_33 (ix_nI (by omega) (by decide)) ?_
            refine V.top (hr k c21).1 ?_
            refine V.ildn 1 dX7_placeIn_34 rfl rfl ?_
            first | refine V.icmp_neN 40 dX7_placeIn_35 (by decide) (by omega) (by omega) (fun c35 => ?_) (fun c35 => ?_) | refine V.icmp_ne 40 dX7_placeIn_35 (by decide) (fun c35 => ?_) (fun c35 => ?_)
            · first | refine V.iincN dX7_placeIn_40 rfl ?_ | refine V.iinc dX7_placeIn_40 rfl rfl ?_
              refine V.goto 9 dX7_placeIn_43 (by decide) ?_
              exact ih _ (by omega) (k + 1) rfl (by omega) (fun i hi => by rcases Nat.lt_succ_iff_lt_or_eq.mp hi with q | q; exact hno i q; rw [q]; exact c35)
            · refine V.ildn 3 dX7_placeIn_38 rfl rfl ?_
              exact V.ireturn dX7_placeIn_39 rfl (by first | rfl | decide +kernel) (⟨by rw [ixo_at c21 c35 hno], rfl⟩)
    refine V.aldn 0 dX7_placeIn_0 rfl rfl ?_
    refine V.gf7_8 dX7_placeIn_1 f_X7_29 ?_
    refine V.ildn 1 dX7_placeIn_4 rfl rfl ?_
    refine V.ald_52 dX7_placeIn_5 (ix_nI (by omega) (by decide)) ?_
    refine V.top ho ?_
    refine V.istn 2 dX7_placeIn_6 rfl (Nat.le_of_ble_eq_true rfl) ?_
    refine V.iconst (nI 0) dX7_placeIn_7 (by decide +kernel) ?_
    refine V.istn 3 dX7_placeIn_8 rfl (Nat.le_of_ble_eq_true rfl) ?_
    exact loop l.length 0 (by omega) (by omega) (fun i hi => absurd hi (Nat.not_lt_zero i))
end MODEL
