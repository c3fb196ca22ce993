/-! the class: the plan -/
def WP (rw : Nat → Nat) : Prop := (∀ d, d < 10 → rw d < 10) ∧ ∀ a b, a < 10 → b < 10 → rw a = rw b → a = b
def CP (F : Nat → Nat → Int32) (n nd : Nat) (R : Nat → List Nat) (f ro rs : Nat → Nat → Int32) (rw : Nat → Nat) : Prop := (n ≤ 20 ∧ nd ≤ 8 ∧ FB F ∧ PlV F) ∧ f 1 10 = nI n ∧ f 12 4 = nI nd ∧ CF F f ∧ WP rw ∧ ∀ d, d < 8 → RowIs F (R d) (ro (rw d)) (rs (rw d))
def pm (i : Nat) : Int32 := if i = 0 then -1 else nI (i - 1)
theorem pm_dec (j : Nat) : nI j + Int32.ofInt (-1) = pm j := by
  cases j with
  | zero => rw [pm, if_pos rfl]; decide +kernel
  | succ j => rw [show Int32.ofInt (-1) = (-1 : Int32) by decide +kernel, pm, if_neg (by omega)]; exact pk_m1 j
theorem pm_sub (j : Nat) : nI j - nI 1 = pm j := by rw [← pm_dec, Int32.sub_eq_add_neg]; congr 1
theorem btB_or {x y : Int32} {p : Nat} (hp : p < 32) : btB (x ||| y) p = (btB x p || btB y p) := by rw [btB_bt hp, btB_bt hp, btB_bt hp, b_or]
theorem mbr_k {l : List Nat} {s : Nat} (hs : s < 32) : ∀ {k : Nat}, (∀ i, i < k → l.getD i 0 < 32) → (btB (mbr l k) s = true ↔ ∃ i, i < k ∧ l.getD i 0 = s) := by
  intro k
  induction k with
  | zero => intro _; rw [mbr, btB_0 hs]; simp
  | succ k ih =>
    intro hl
    rw [mbr, btB_set (hl k (by omega)) hs, Bool.or_eq_true, ih (fun i hi => hl i (by omega)), beq_iff_eq]
    constructor
    · rintro (⟨i, h1, h2⟩ | h)
      · exact ⟨i, by omega, h2⟩
      · exact ⟨k, by omega, h.symm⟩
    · rintro ⟨i, h1, h2⟩
      rcases Nat.lt_succ_iff_lt_or_eq.mp h1 with q | q
      · exact Or.inl ⟨i, q, h2⟩
      · exact Or.inr (by rw [← h2, q])
theorem mbr_bit {l : List Nat} (hl : ∀ i, i < l.length → l.getD i 0 < 20) {s : Nat} (hs : s < 32) : btB (mbr l l.length) s = true ↔ s ∈ l := by
  rw [mbr_k hs (fun i hi => by have := hl i hi; omega)]
  constructor
  · rintro ⟨i, h1, h2⟩; rw [← h2]; exact getD_mem h1
  · intro h; obtain ⟨i, hi, e⟩ := mem_getD h; exact ⟨i, hi, e⟩
theorem orP_k {F : Nat → Nat → Int32} {l : List Nat} {p : Nat} (hp : p < 32) : ∀ {k : Nat}, (btB (orP F l k) p = true ↔ ∃ i, i < k ∧ btB (F 6 (l.getD i 0)) p = true) := by
  intro k
  induction k with
  | zero => rw [orP, btB_0 hp]; simp
  | succ k ih =>
    rw [orP, btB_or hp, Bool.or_eq_true, ih]
    constructor
    · rintro (⟨i, h1, h2⟩ | h)
      · exact ⟨i, by omega, h2⟩
      · exact ⟨k, by omega, h⟩
    · rintro ⟨i, h1, h2⟩
      rcases Nat.lt_succ_iff_lt_or_eq.mp h1 with q | q
      · exact Or.inl ⟨i, q, h2⟩
      · exact Or.inr (by rw [← q]; exact h2)
theorem orP_bit {F : Nat → Nat → Int32} {l : List Nat} {p : Nat} (hp : p < 32) : btB (orP F l l.length) p = plB F l p := by
  rw [Bool.eq_iff_iff, orP_k hp, plB, List.any_eq_true]
  constructor
  · rintro ⟨i, h1, h2⟩; exact ⟨_, getD_mem h1, h2⟩
  · rintro ⟨x, hx, h2⟩; obtain ⟨i, hi, rfl⟩ := mem_getD hx; exact ⟨i, hi, h2⟩
/-- members of the last k days -/
def ltm (R : Nat → List Nat) (nd : Nat) : Nat → Int32
  | 0 => nI 0
  | k + 1 => ltm R nd k ||| mbr (R (nd - 1 - k)) (R (nd - 1 - k)).length
def dln (F : Nat → Nat → Int32) (nd : Nat) (R : Nat → List Nat) (i : Nat) : Bool := decide (i < nd) && decide (0 < sunm F (R i))
def kday (F : Nat → Nat → Int32) (nd : Nat) (R : Nat → List Nat) (d : Nat) : Prop := mins F (R d) ≤ F 14 d ∧ sunm F (R d) ≤ F 15 d ∧ inT F (R d) ∧ ¬ (hasL F (R d) (nI 2) = true ∧ dln F nd R (d + 1) = true) ∧ (ndr F (R d) (R d).length &&& ltm R nd (nd - 1 - d)) = 0
def mall (R : Nat → List Nat) : Nat → Int32
  | 0 => nI 0
  | k + 1 => mall R k ||| mbr (R k) (R k).length
section CLASS
variable {f ro rs : Nat → Nat → Int32} {rw rb : Nat → Nat} {m : Nat → Nat → Int32} {dp : Nat} {F : Nat → Nat → Int32} {n nd : Nat} {R : Nat → List Nat} {D : Nat → Option Nat}
theorem upN_sw (g : Nat → Nat) (a b : Nat) : upN (upN g a (g b)) b (g a) = fun d => g (sw a b d) := by
  funext d
  unfold upN sw
  split
  · rename_i h; subst h; split
    · rename_i h; rw [h]
    · rfl
  · split <;> rfl
theorem c_exchange {a b : Nat} (hw : WP rw) (ha : a < 10) (hb : b < 10) : Mt (dp + 1) 0 0 mX3_exchange [.ref 12, .int (nI a), .int (nI b)] (HH f ro rs rw rb m) (RV (HH f ro rs (fun d => rw (sw a b d)) rb m)) := by
  refine Mt.of rfl rfl (Nat.le_of_ble_eq_true rfl) rfl ?_
  have h1 := hw.1 a ha
  have h2 := hw.1 b hb
  refine V.aldn 0 dX3_exchange_0 rfl rfl ?_
  refine V.gf3_1 dX3_exchange_1 f_X3_11 ?_
  refine V.ildn 1 dX3_exchange_4 rfl rfl ?_
  refine V.ald_13 dX3_exchange_5 (ix_nI (by omega) (by decide)) ?_
  refine V.astn 3 dX3_exchange_6 rfl (Nat.le_of_ble_eq_true rfl) ?_
  refine V.aldn 0 dX3_exchange_7 rfl rfl ?_
  refine V.gf3_1 dX3_exchange_8 f_X3_11 ?_
  refine V.ildn 1 dX3_exchange_11 rfl rfl ?_
  refine V.aldn 0 dX3_exchange_12 rfl rfl ?_
  refine V.gf3_1 dX3_exchange_13 f_X3_11 ?_
  refine V.ildn 2 dX3_exchange_16 rfl rfl ?_
  refine V.ald_13 dX3_exchange_17 (ix_nI (by omega) (by decide)) ?_
  refine V.ast_13 dX3_exchange_18 (by omega) (ix_nI (by omega) (by decide)) ?_
  refine V.aldn 0 dX3_exchange_19 rfl rfl ?_
  refine V.gf3_1 dX3_exchange_20 f_X3_11 ?_
  refine V.ildn 2 dX3_exchange_23 rfl rfl ?_
  refine V.aldn 3 dX3_exchange_24 rfl rfl ?_
  refine V.ast_13 dX3_exchange_25 (by omega) (ix_nI (by omega) (by decide)) ?_
  exact V.vreturn dX3_exchange_26 rfl (⟨rfl, by rw [upN_sw]⟩)
theorem c_measureRows (hC : CF F f) (hB : FB F) (hp : PlV F) (h12 : f 12 4 = nI nd) (hnd : nd ≤ 8) (hw : WP rw) (hR : ∀ d, d < nd → RS (R d) (ro (rw d)) (rs (rw d))) : Mt (dp + 3) 0 0 mX3_measureRows [.ref 12] (HH f ro rs rw rb m) (fun r h' => ∃ ro', r = none ∧ h' = HH f ro' rs rw rb m ∧ (∀ q, (∀ d, d < nd → q ≠ rw d) → ro' q = ro q) ∧ ∀ d, d < nd → RowIs F (R d) (ro' (rw d)) (rs (rw d))) := by
  refine Mt.of rfl rfl (Nat.le_of_ble_eq_true rfl) rfl ?_
  generalize hQ : (fun (r : Option Value) (h' : List AC) => ∃ ro', r = none ∧ h' = HH f ro' rs rw rb m ∧ (∀ q, (∀ d, d < nd → q ≠ rw d) → ro' q = ro q) ∧ ∀ d, d < nd → RowIs F (R d) (ro' (rw d)) (rs (rw d))) = Q
  have loop : ∀ (j i : Nat) (ro1 : Nat → Nat → Int32), nd - i = j → i ≤ nd → (∀ q, (∀ d, d < i → q ≠ rw d) → ro1 q = ro q) → (∀ d, d < i → RowIs F (R d) (ro1 (rw d)) (rs (rw d))) → V mX3_measureRows (dp + 3) 0 0 2 [some (.ref 12), some (.int (nI i))] [] (HH f ro1 rs rw rb m) Q := by
    intro j
    induction j using Nat.strongRecOn with
    | _ j ih =>
      intro i ro1 hj hi b0 b1
      refine V.ildn 1 dX3_measureRows_2 rfl rfl ?_
      refine V.aldn 0 dX3_measureRows_3 rfl rfl ?_
      refine V.gf3_4 dX3_measureRows_4 f_X3_29 ?_
      refine V.top h12 ?_
      first | refine V.icmp_geN 29 dX3_measureRows_7 (by decide) (by omega) (by omega) (fun c7 => ?_) (fun c7 => ?_) | refine V.icmp_ge 29 dX3_measureRows_7 (by decide) (fun c7 => ?_) (fun c7 => ?_)
      · exact V.vreturn dX3_measureRows_29 rfl (by rw [← hQ]; obtain rfl : i = nd := (by omega); exact ⟨ro1, rfl, rfl, b0, b1⟩)
      · have hk := hw.1 i (by omega)
        have e : ro1 (rw i) = ro (rw i) := b0 _ (fun d hd q => by have := hw.2 i d (by omega) (by omega) q; omega)
        refine V.aldn 0 dX3_measureRows_10 rfl rfl ?_
        refine V.gf3_1 dX3_measureRows_11 f_X3_11 ?_
        refine V.ildn 1 dX3_measureRows_14 rfl rfl ?_
        refine V.ald_13 dX3_measureRows_15 (ix_nI (by omega) (by decide)) ?_
        refine V.aldn 0 dX3_measureRows_16 rfl rfl ?_
        refine V.gf3_0 dX3_measureRows_17 f_X3_24 ?_
        refine V.cVe (c_measure (dp := dp) hC hB hp hk (by rw [e]; exact hR i c7)) dX3_measureRows_20 k_X3_33 rfl rfl (HH_row hk) (Nat.le_of_ble_eq_true rfl) rfl ?_
        rintro _ _ ⟨ro2, rfl, rfl, e0, e1⟩
        refine V.eqs (st' := []) rfl ?_
        first | refine V.iincN dX3_measureRows_23 rfl ?_ | refine V.iinc dX3_measureRows_23 rfl rfl ?_
        refine V.goto 2 dX3_measureRows_26 (by decide) ?_
        exact ih _ (by omega) (i + 1) ro2 rfl (by omega) (fun q hq => by rw [e0 q (hq i (by omega))]; exact b0 q (fun d hd => hq d (by omega))) (fun d hd => by rcases Nat.lt_succ_iff_lt_or_eq.mp hd with z | z; rw [e0 _ (fun q => by have := hw.2 d i (by omega) (by omega) q; omega)]; exact b1 d z; rw [z]; exact e1)
  refine V.iconst (nI 0) dX3_measureRows_0 (by decide +kernel) ?_
  refine V.istn 1 dX3_measureRows_1 rfl (Nat.le_of_ble_eq_true rfl) ?_
  exact loop _ 0 ro rfl (Nat.zero_le _) (fun _ _ => rfl) (fun d hd => absurd hd (Nat.not_lt_zero d))
theorem c_keepsC (hP : CP F n nd R f ro rs rw) : Mt (dp + 2) 0 0 mX3_keeps [.ref 12] (HH f ro rs rw rb m) (RI (bI (dB (∀ d, d < nd → kday F nd R d))) (HH f ro rs rw rb m)) := by
  refine Mt.of rfl rfl (Nat.le_of_ble_eq_true rfl) rfl ?_
  obtain ⟨⟨hn, hnd, hB, hp⟩, h1, h12, hC, hw, hR⟩ := hP
  generalize hQ : RI (bI (dB (∀ d, d < nd → kday F nd R d))) (HH f ro rs rw rb m) = Q
  have no : ∀ j, j < nd → ¬ kday F nd R j → Q (some (.int (nI 0))) (HH f ro rs rw rb m) := fun j hj hk => by rw [← hQ]; exact ⟨congrArg (fun x => some (Value.int x)) (bI_f (dB_f (fun q => hk (q j hj)))), rfl⟩
  have loop : ∀ (i : Nat) (x : Option Value), i ≤ nd → (∀ d, i ≤ d → d < nd → kday F nd R d) → V mX3_keeps (dp + 2) 0 0 11 [some (.ref 12), some (.int (ltm R nd (nd - i))), some (.int (bI (dln F nd R i))), some (.int (pm i)), x] [] (HH f ro rs rw rb m) Q := by
    intro i
    induction i with
    | zero =>
      intro x hi hno
      refine V.ildn 3 dX3_keeps_11 rfl rfl ?_
      refine V.if_lt 97 dX3_keeps_12 (by decide) (fun c12 => ?_) (fun c12 => ?_)
      · refine V.iconst (nI 1) dX3_keeps_97 (by decide +kernel) ?_
        exact V.ireturn dX3_keeps_98 rfl (by first | rfl | decide +kernel) (by rw [← hQ]; exact ⟨congrArg (fun x => some (Value.int x)) (bI_t (dB_t (fun q hq => hno q (by omega) hq))), rfl⟩)
      · exact absurd (show pm 0 < 0 by decide +kernel) c12
    | succ j ih =>
      intro x hi hno
      have hk := hw.1 j (by omega)
      obtain ⟨hS, ⟨c1, c2, c3, c4, c5, c6, c7⟩, c9⟩ := hR j (by omega)
      refine V.eql (ls' := [some (.ref 12), some (.int (ltm R nd (nd - (j + 1)))), some (.int (bI (dln F nd R (j + 1)))), some (.int (nI j)), x]) rfl ?_
      have cf : Mt (dp + 1) 0 0 mX5_fitsInto [.ref (16 + 2 * rw j), .int (F 14 j), .int (F 15 j)] (HH f ro rs rw rb m) (RI (bI (decide (mins F (R j) ≤ F 14 j) && decide (sunm F (R j) ≤ F 15 j))) (HH f ro rs rw rb m)) := by
        have q := c_fitsInto (dp := dp) (f := f) (ro := ro) (rs := rs) (rw := rw) (rb := rb) (m := m) hk (F 14 j) (F 15 j)
        rw [c3, c4] at q
        exact q
      have cd : Mt (dp + 1) 0 0 mX5_hasDayLight [.ref (16 + 2 * rw j)] (HH f ro rs rw rb m) (RI (bI (dln F nd R j)) (HH f ro rs rw rb m)) := by
        have q := c_hasDayLight (dp := dp) (f := f) (ro := ro) (rs := rs) (rw := rw) (rb := rb) (m := m) hk
        rw [c4] at q
        rw [show dln F nd R j = decide (0 < sunm F (R j)) by rw [dln, decide_eq_true (show j < nd by omega)]; rfl]
        exact q
      have ej : nd - 1 - j = nd - (j + 1) := by omega
      refine V.ildn 3 dX3_keeps_11 rfl rfl ?_
      refine V.if_ltN 97 dX3_keeps_12 (by decide) (by omega) ?_
      refine V.aldn 0 dX3_keeps_15 rfl rfl ?_
      refine V.gf3_1 dX3_keeps_16 f_X3_11 ?_
      refine V.ildn 3 dX3_keeps_19 rfl rfl ?_
      refine V.ald_13 dX3_keeps_20 (ix_nI (by omega) (by decide)) ?_
      refine V.astore dX3_keeps_21 (Nat.le_of_ble_eq_true rfl) ?_
      refine V.aload dX3_keeps_23 rfl ?_
      refine V.aldn 0 dX3_keeps_25 rfl rfl ?_
      refine V.gf3_2 dX3_keeps_26 f_X3_17 ?_
      refine V.ildn 3 dX3_keeps_29 rfl rfl ?_
      refine V.ald_14 dX3_keeps_30 (ix_nI (by omega) (by decide)) ?_
      refine V.top (y := F 14 j) (congrFun (hC 14 rfl) j) ?_
      refine V.aldn 0 dX3_keeps_31 rfl rfl ?_
      refine V.gf3_3 dX3_keeps_32 f_X3_21 ?_
      refine V.ildn 3 dX3_keeps_35 rfl rfl ?_
      refine V.ald_15 dX3_keeps_36 (ix_nI (by omega) (by decide)) ?_
      refine V.top (y := F 15 j) (congrFun (hC 15 rfl) j) ?_
      refine V.cVi (cf) dX3_keeps_37 k_X3_37 rfl rfl (HH_row (by omega)) (Nat.le_of_ble_eq_true rfl) rfl ?_
      first | refine V.if_eqB 51 dX3_keeps_40 (by decide) (fun c40 => ?_) (fun c40 => ?_) | refine V.if_eqN 51 dX3_keeps_40 (by decide) (by omega) (fun c40 => ?_) (fun c40 => ?_) | refine V.if_eq 51 dX3_keeps_40 (by decide) (fun c40 => ?_) (fun c40 => ?_)
      · refine V.iconst (nI 0) dX3_keeps_51 (by decide +kernel) ?_
        exact V.ireturn dX3_keeps_52 rfl (by first | rfl | decide +kernel) (no j hi (fun q => by rw [decide_eq_true q.1, decide_eq_true q.2.1] at c40; cases c40))
      · have d40 := (Bool.and_eq_true_iff.mp c40)
        refine V.aload dX3_keeps_43 rfl ?_
        refine V.gf5_9 dX3_keeps_45 f_X3_41 (by omega) ?_
        refine V.top c9 ?_
        first | refine V.if_neB 53 dX3_keeps_48 (by decide) (fun c48 => ?_) (fun c48 => ?_) | refine V.if_neN 53 dX3_keeps_48 (by decide) (by omega) (fun c48 => ?_) (fun c48 => ?_) | refine V.if_ne 53 dX3_keeps_48 (by decide) (fun c48 => ?_) (fun c48 => ?_)
        · refine V.aload dX3_keeps_53 rfl ?_
          refine V.gf5_8 dX3_keeps_55 f_X3_45 (by omega) ?_
          refine V.top (y := bI (hasL F (R j) (nI 2))) (by rw [c7, nit_any]) ?_
          first | refine V.if_eqB 65 dX3_keeps_58 (by decide) (fun c58 => ?_) (fun c58 => ?_) | refine V.if_eqN 65 dX3_keeps_58 (by decide) (by omega) (fun c58 => ?_) (fun c58 => ?_) | refine V.if_eq 65 dX3_keeps_58 (by decide) (fun c58 => ?_) (fun c58 => ?_)
          · refine V.aload dX3_keeps_65 rfl ?_
            refine V.gf5_3 dX3_keeps_67 f_X3_48 (by omega) ?_
            refine V.top c2 ?_
            refine V.ildn 1 dX3_keeps_70 rfl rfl ?_
            refine V.iand dX3_keeps_71 ?_
            refine V.if_eq 77 dX3_keeps_72 (by decide) (fun c72 => ?_) (fun c72 => ?_)
            · refine V.ildn 1 dX3_keeps_77 rfl rfl ?_
              refine V.aload dX3_keeps_78 rfl ?_
              refine V.gf5_2 dX3_keeps_80 f_X3_51 (by omega) ?_
              refine V.top c1 ?_
              refine V.ior dX3_keeps_83 ?_
              refine V.top (y := ltm R nd (nd - j)) (by rw [show nd - j = nd - (j + 1) + 1 by omega, ltm, show nd - 1 - (nd - (j + 1)) = j by omega]) ?_
              refine V.istn 1 dX3_keeps_84 rfl (Nat.le_of_ble_eq_true rfl) ?_
              refine V.aload dX3_keeps_85 rfl ?_
              refine V.cVi (cd) dX3_keeps_87 k_X3_54 rfl rfl (HH_row (by omega)) (Nat.le_of_ble_eq_true rfl) rfl ?_
              refine V.istn 2 dX3_keeps_90 rfl (Nat.le_of_ble_eq_true rfl) ?_
              refine V.iinc dX3_keeps_91 rfl (pm_dec j) ?_
              refine V.goto 11 dX3_keeps_94 (by decide) ?_
              exact ih _ (by omega) (fun d h1 h2 => by rcases Nat.eq_or_lt_of_le h1 with z | z; rw [← z]; exact ⟨of_decide_eq_true d40.1, of_decide_eq_true d40.2, of_dB c48, fun q => (by simp [q.1, q.2] at *), by rw [ej]; exact c72⟩; exact hno d z h2)
            · refine V.iconst (nI 0) dX3_keeps_75 (by decide +kernel) ?_
              exact V.ireturn dX3_keeps_76 rfl (by first | rfl | decide +kernel) (no j hi (fun q => c72 (by rw [← ej]; exact q.2.2.2.2)))
          · refine V.ildn 2 dX3_keeps_61 rfl rfl ?_
            first | refine V.if_neB 75 dX3_keeps_62 (by decide) (fun c62 => ?_) (fun c62 => ?_) | refine V.if_neN 75 dX3_keeps_62 (by decide) (by omega) (fun c62 => ?_) (fun c62 => ?_) | refine V.if_ne 75 dX3_keeps_62 (by decide) (fun c62 => ?_) (fun c62 => ?_)
            · refine V.iconst (nI 0) dX3_keeps_75 (by decide +kernel) ?_
              exact V.ireturn dX3_keeps_76 rfl (by first | rfl | decide +kernel) (no j hi (fun q => q.2.2.2.1 ⟨c58, c62⟩))
            · refine V.aload dX3_keeps_65 rfl ?_
              refine V.gf5_3 dX3_keeps_67 f_X3_48 (by omega) ?_
              refine V.top c2 ?_
              refine V.ildn 1 dX3_keeps_70 rfl rfl ?_
              refine V.iand dX3_keeps_71 ?_
              refine V.if_eq 77 dX3_keeps_72 (by decide) (fun c72 => ?_) (fun c72 => ?_)
              · refine V.ildn 1 dX3_keeps_77 rfl rfl ?_
                refine V.aload dX3_keeps_78 rfl ?_
                refine V.gf5_2 dX3_keeps_80 f_X3_51 (by omega) ?_
                refine V.top c1 ?_
                refine V.ior dX3_keeps_83 ?_
                refine V.top (y := ltm R nd (nd - j)) (by rw [show nd - j = nd - (j + 1) + 1 by omega, ltm, show nd - 1 - (nd - (j + 1)) = j by omega]) ?_
                refine V.istn 1 dX3_keeps_84 rfl (Nat.le_of_ble_eq_true rfl) ?_
                refine V.aload dX3_keeps_85 rfl ?_
                refine V.cVi (cd) dX3_keeps_87 k_X3_54 rfl rfl (HH_row (by omega)) (Nat.le_of_ble_eq_true rfl) rfl ?_
                refine V.istn 2 dX3_keeps_90 rfl (Nat.le_of_ble_eq_true rfl) ?_
                refine V.iinc dX3_keeps_91 rfl (pm_dec j) ?_
                refine V.goto 11 dX3_keeps_94 (by decide) ?_
                exact ih _ (by omega) (fun d h1 h2 => by rcases Nat.eq_or_lt_of_le h1 with z | z; rw [← z]; exact ⟨of_decide_eq_true d40.1, of_decide_eq_true d40.2, of_dB c48, fun q => (by simp [q.1, q.2] at *), by rw [ej]; exact c72⟩; exact hno d z h2)
              · refine V.iconst (nI 0) dX3_keeps_75 (by decide +kernel) ?_
                exact V.ireturn dX3_keeps_76 rfl (by first | rfl | decide +kernel) (no j hi (fun q => c72 (by rw [← ej]; exact q.2.2.2.2)))
        · refine V.iconst (nI 0) dX3_keeps_51 (by decide +kernel) ?_
          exact V.ireturn dX3_keeps_52 rfl (by first | rfl | decide +kernel) (no j hi (fun q => of_dBf c48 q.2.2.1))
  refine V.iconst (nI 0) dX3_keeps_0 (by decide +kernel) ?_
  refine V.istn 1 dX3_keeps_1 rfl (Nat.le_of_ble_eq_true rfl) ?_
  refine V.iconst (nI 0) dX3_keeps_2 (by decide +kernel) ?_
  refine V.istn 2 dX3_keeps_3 rfl (Nat.le_of_ble_eq_true rfl) ?_
  refine V.aldn 0 dX3_keeps_4 rfl rfl ?_
  refine V.gf3_4 dX3_keeps_5 f_X3_29 ?_
  refine V.top h12 ?_
  refine V.iconst (nI 1) dX3_keeps_8 (by decide +kernel) ?_
  refine V.isub dX3_keeps_9 (V.top (pm_sub nd) ?_)
  refine V.istn 3 dX3_keeps_10 rfl (Nat.le_of_ble_eq_true rfl) ?_
  refine V.eql (ls' := [some (.ref 12), some (.int (ltm R nd (nd - nd))), some (.int (bI (dln F nd R nd))), some (.int (pm nd)), none]) (by rw [Nat.sub_self, dln, decide_eq_false (Nat.lt_irrefl nd)]; rfl) ?_
  exact loop nd _ (Nat.le_refl _) (fun d h1 h2 => absurd h2 (by omega))
theorem c_scenesInRows (hP : CP F n nd R f ro rs rw) : Mt (dp + 1) 0 0 mX3_scenesInRows [.ref 12] (HH f ro rs rw rb m) (RI (mall R nd) (HH f ro rs rw rb m)) := by
  refine Mt.of rfl rfl (Nat.le_of_ble_eq_true rfl) rfl ?_
  obtain ⟨⟨hn, hnd, hB, hp⟩, h1, h12, hC, hw, hR⟩ := hP
  have loop : ∀ (j i : Nat), nd - i = j → i ≤ nd → V mX3_scenesInRows (dp + 1) 0 0 4 [some (.ref 12), some (.int (mall R i)), some (.int (nI i))] [] (HH f ro rs rw rb m) (RI (mall R nd) (HH f ro rs rw rb m)) := by
    intro j
    induction j using Nat.strongRecOn with
    | _ j ih =>
      intro i hj hi
      refine V.ildn 2 dX3_scenesInRows_4 rfl rfl ?_
      refine V.aldn 0 dX3_scenesInRows_5 rfl rfl ?_
      refine V.gf3_4 dX3_scenesInRows_6 f_X3_29 ?_
      refine V.top h12 ?_
      first | refine V.icmp_geN 30 dX3_scenesInRows_9 (by decide) (by omega) (by omega) (fun c9 => ?_) (fun c9 => ?_) | refine V.icmp_ge 30 dX3_scenesInRows_9 (by decide) (fun c9 => ?_) (fun c9 => ?_)
      · obtain rfl : i = nd := by omega
        refine V.ildn 1 dX3_scenesInRows_30 rfl rfl ?_
        exact V.ireturn dX3_scenesInRows_31 rfl (by first | rfl | decide +kernel) (⟨rfl, rfl⟩)
      · have hk := hw.1 i (by omega)
        refine V.ildn 1 dX3_scenesInRows_12 rfl rfl ?_
        refine V.aldn 0 dX3_scenesInRows_13 rfl rfl ?_
        refine V.gf3_1 dX3_scenesInRows_14 f_X3_11 ?_
        refine V.ildn 2 dX3_scenesInRows_17 rfl rfl ?_
        refine V.ald_13 dX3_scenesInRows_18 (ix_nI (by omega) (by decide)) ?_
        refine V.gf5_2 dX3_scenesInRows_19 f_X3_51 (by omega) ?_
        refine V.top (hR i (by omega)).2.1.1 ?_
        refine V.ior dX3_scenesInRows_22 ?_
        refine V.istn 1 dX3_scenesInRows_23 rfl (Nat.le_of_ble_eq_true rfl) ?_
        first | refine V.iincN dX3_scenesInRows_24 rfl ?_ | refine V.iinc dX3_scenesInRows_24 rfl rfl ?_
        refine V.goto 4 dX3_scenesInRows_27 (by decide) ?_
        exact ih _ (by omega) (i + 1) rfl (by omega)
  refine V.iconst (nI 0) dX3_scenesInRows_0 (by decide +kernel) ?_
  refine V.istn 1 dX3_scenesInRows_1 rfl (Nat.le_of_ble_eq_true rfl) ?_
  refine V.iconst (nI 0) dX3_scenesInRows_2 (by decide +kernel) ?_
  refine V.istn 2 dX3_scenesInRows_3 rfl (Nat.le_of_ble_eq_true rfl) ?_
  exact loop _ 0 rfl (Nat.zero_le _)
theorem CP.lt20 (hP : CP F n nd R f ro rs rw) {d : Nat} (hd : d < 8) : ∀ i, i < (R d).length → (R d).getD i 0 < 20 := fun i hi => ((hP.2.2.2.2.2 d hd).1.2.2 i hi).2
theorem c_dayWith (hP : CP F n nd R f ro rs rw) (hD : DR n nd R D) {s : Nat} (hs : s < n) : Mt (dp + 2) 0 0 mX3_dayWith [.ref 12, .int (nI s)] (HH f ro rs rw rb m) (RI (dI (D s)) (HH f ro rs rw rb m)) := by
  refine Mt.of rfl rfl (Nat.le_of_ble_eq_true rfl) rfl ?_
  have h20 := fun {d} hd => CP.lt20 hP (d := d) hd
  obtain ⟨⟨hn, hnd, hB, hp⟩, h1, h12, hC, hw, hR⟩ := hP
  generalize hv : dI (D s) = v
  have loop : ∀ (j i : Nat), nd - i = j → i ≤ nd → (∀ d, d < i → s ∉ R d) → V mX3_dayWith (dp + 2) 0 0 2 [some (.ref 12), some (.int (nI s)), some (.int (nI i))] [] (HH f ro rs rw rb m) (RI v (HH f ro rs rw rb m)) := by
    intro j
    induction j using Nat.strongRecOn with
    | _ j ih =>
      intro i hj hi hno
      refine V.ildn 2 dX3_dayWith_2 rfl rfl ?_
      refine V.aldn 0 dX3_dayWith_3 rfl rfl ?_
      refine V.gf3_4 dX3_dayWith_4 f_X3_29 ?_
      refine V.top h12 ?_
      first | refine V.icmp_geN 34 dX3_dayWith_7 (by decide) (by omega) (by omega) (fun c7 => ?_) (fun c7 => ?_) | refine V.icmp_ge 34 dX3_dayWith_7 (by decide) (fun c7 => ?_) (fun c7 => ?_)
      · refine V.iconst (-1) dX3_dayWith_34 (by decide +kernel) ?_
        exact V.ireturn dX3_dayWith_35 rfl (by first | rfl | decide +kernel) (⟨by rw [← hv]; cases hd : D s with | none => rfl | some d => exact absurd (hD.2.1 s d hs hd).2 (hno d (by have := (hD.2.1 s d hs hd).1; omega)), rfl⟩)
      · have hk := hw.1 i (by omega)
        refine V.aldn 0 dX3_dayWith_10 rfl rfl ?_
        refine V.gf3_1 dX3_dayWith_11 f_X3_11 ?_
        refine V.ildn 2 dX3_dayWith_14 rfl rfl ?_
        refine V.ald_13 dX3_dayWith_15 (ix_nI (by omega) (by decide)) ?_
        refine V.gf5_2 dX3_dayWith_16 f_X3_51 (by omega) ?_
        refine V.top (hR i (by omega)).2.1.1 ?_
        refine V.ildn 1 dX3_dayWith_19 rfl rfl ?_
        refine V.cSi ((c_hasBit (mbr (R i) (R i).length) s : Mt (dp + 1) 0 0 _ _ _ _)) dX3_dayWith_20 k_X3_58 rfl rfl (Nat.le_of_ble_eq_true rfl) rfl ?_
        first | refine V.if_eqB 28 dX3_dayWith_23 (by decide) (fun c23 => ?_) (fun c23 => ?_) | refine V.if_eqN 28 dX3_dayWith_23 (by decide) (by omega) (fun c23 => ?_) (fun c23 => ?_) | refine V.if_eq 28 dX3_dayWith_23 (by decide) (fun c23 => ?_) (fun c23 => ?_)
        · first | refine V.iincN dX3_dayWith_28 rfl ?_ | refine V.iinc dX3_dayWith_28 rfl rfl ?_
          refine V.goto 2 dX3_dayWith_31 (by decide) ?_
          exact ih _ (by omega) (i + 1) rfl (by omega) (fun d hd q => by rcases Nat.lt_succ_iff_lt_or_eq.mp hd with z | z; exact hno d z q; rw [z, ← mbr_bit (h20 (by omega)) (show s < 32 by omega), c23] at q; cases q)
        · refine V.ildn 2 dX3_dayWith_26 rfl rfl ?_
          exact V.ireturn dX3_dayWith_27 rfl (by first | rfl | decide +kernel) (⟨by rw [← hv, (hD.2.2.1 s i c7 ((mbr_bit (h20 (by omega)) (by omega)).mp c23)).2]; rfl, rfl⟩)
  refine V.iconst (nI 0) dX3_dayWith_0 (by decide +kernel) ?_
  refine V.istn 2 dX3_dayWith_1 rfl (Nat.le_of_ble_eq_true rfl) ?_
  exact loop _ 0 rfl (Nat.zero_le _) (fun d hd => absurd hd (Nat.not_lt_zero d))
theorem c_placeInRow (hP : CP F n nd R f ro rs rw) (hD : DR n nd R D) {s : Nat} (hs : s < n) : Mt (dp + 3) 0 0 mX3_placeInRow [.ref 12, .int (nI s)] (HH f ro rs rw rb m) (RI (match D s with | none => -1 | some d => ixo (R d) s) (HH f ro rs rw rb m)) := by
  refine Mt.of rfl rfl (Nat.le_of_ble_eq_true rfl) rfl ?_
  have h20 := fun {d} hd => CP.lt20 hP (d := d) hd
  have dw := c_dayWith (dp := dp) (rb := rb) (m := m) hP hD hs
  obtain ⟨⟨hn, hnd, hB, hp⟩, h1, h12, hC, hw, hR⟩ := hP
  cases hd : D s with
  | none =>
    rw [hd] at dw
    refine V.aldn 0 dX3_placeInRow_0 rfl rfl ?_
    refine V.ildn 1 dX3_placeInRow_1 rfl rfl ?_
    refine V.cVi (dw) dX3_placeInRow_2 k_X3_61 rfl rfl rfl (Nat.le_of_ble_eq_true rfl) rfl ?_
    refine V.istn 2 dX3_placeInRow_5 rfl (Nat.le_of_ble_eq_true rfl) ?_
    refine V.ildn 2 dX3_placeInRow_6 rfl rfl ?_
    refine V.iconst (-1) dX3_placeInRow_7 (by decide +kernel) ?_
    refine V.icmp_ne 13 dX3_placeInRow_8 (by decide) (fun c8 => ?_) (fun c8 => ?_)
    · exact absurd rfl c8
    · refine V.iconst (-1) dX3_placeInRow_11 (by decide +kernel) ?_
      exact V.ireturn dX3_placeInRow_12 rfl (by first | rfl | decide +kernel) (⟨rfl, rfl⟩)
  | some d =>
    rw [hd] at dw
    have dl := (hD.2.1 s d hs hd).1
    have hk := hw.1 d (by omega)
    obtain ⟨e1, e5, es⟩ := (hR d (by omega)).1
    have loop : ∀ (j i : Nat), (R d).length - i = j → i ≤ (R d).length → (∀ k, k < i → (R d).getD k 0 ≠ s) → V mX3_placeInRow (dp + 3) 0 0 23 [some (.ref 12), some (.int (nI s)), some (.int (nI d)), some (.ref (16 + 2 * rw d)), some (.int (nI i))] [] (HH f ro rs rw rb m) (RI (ixo (R d) s) (HH f ro rs rw rb m)) := by
      intro j
      induction j using Nat.strongRecOn with
      | _ j ih =>
        intro i hj hi hno
        refine V.iload dX3_placeInRow_23 rfl ?_
        refine V.aldn 3 dX3_placeInRow_25 rfl rfl ?_
        refine V.gf5_1 dX3_placeInRow_26 f_X3_65 (by omega) ?_
        refine V.top e1 ?_
        first | refine V.icmp_geN 52 dX3_placeInRow_29 (by decide) (by omega) (by omega) (fun c29 => ?_) (fun c29 => ?_) | refine V.icmp_ge 52 dX3_placeInRow_29 (by decide) (fun c29 => ?_) (fun c29 => ?_)
        · refine V.iconst (-1) dX3_placeInRow_52 (by decide +kernel) ?_
          exact V.ireturn dX3_placeInRow_53 rfl (by first | rfl | decide +kernel) (⟨by rw [ixo_no (fun k hk => hno k (by omega))], rfl⟩)
        · have e20 := (es i c29).2
          refine V.aldn 3 dX3_placeInRow_32 rfl rfl ?_
          refine V.gf5_0 dX3_placeInRow_33 f_X3_68 (by omega) ?_
          refine V.iload dX3_placeInRow_36 rfl ?_
          refine V.ald_rs dX3_placeInRow_38 (by omega) (ix_nI (by omega) (by decide)) ?_
          refine V.top (es i c29).1 ?_
          refine V.ildn 1 dX3_placeInRow_39 rfl rfl ?_
          first | refine V.icmp_neN 46 dX3_placeInRow_40 (by decide) (by omega) (by omega) (fun c40 => ?_) (fun c40 => ?_) | refine V.icmp_ne 46 dX3_placeInRow_40 (by decide) (fun c40 => ?_) (fun c40 => ?_)
          · first | refine V.iincN dX3_placeInRow_46 rfl ?_ | refine V.iinc dX3_placeInRow_46 rfl rfl ?_
            refine V.goto 23 dX3_placeInRow_49 (by decide) ?_
            exact ih _ (by omega) (i + 1) rfl (by omega) (fun k hk => by rcases Nat.lt_succ_iff_lt_or_eq.mp hk with z | z; exact hno k z; rw [z]; exact c40)
          · refine V.iload dX3_placeInRow_43 rfl ?_
            exact V.ireturn dX3_placeInRow_45 rfl (by first | rfl | decide +kernel) (⟨by rw [ixo_at c29 c40 hno], rfl⟩)
    refine V.aldn 0 dX3_placeInRow_0 rfl rfl ?_
    refine V.ildn 1 dX3_placeInRow_1 rfl rfl ?_
    refine V.cVi (dw) dX3_placeInRow_2 k_X3_61 rfl rfl rfl (Nat.le_of_ble_eq_true rfl) rfl ?_
    refine V.istn 2 dX3_placeInRow_5 rfl (Nat.le_of_ble_eq_true rfl) ?_
    refine V.ildn 2 dX3_placeInRow_6 rfl rfl ?_
    refine V.iconst (-1) dX3_placeInRow_7 (by decide +kernel) ?_
    refine V.icmp_ne 13 dX3_placeInRow_8 (by decide) (fun c8 => ?_) (fun c8 => ?_)
    · refine V.aldn 0 dX3_placeInRow_13 rfl rfl ?_
      refine V.gf3_1 dX3_placeInRow_14 f_X3_11 ?_
      refine V.ildn 2 dX3_placeInRow_17 rfl rfl ?_
      refine V.ald_13 dX3_placeInRow_18 (ix_nI (by omega) (by decide)) ?_
      refine V.astn 3 dX3_placeInRow_19 rfl (Nat.le_of_ble_eq_true rfl) ?_
      refine V.iconst (nI 0) dX3_placeInRow_20 (by decide +kernel) ?_
      refine V.istore dX3_placeInRow_21 (Nat.le_of_ble_eq_true rfl) ?_
      exact loop _ 0 rfl (Nat.zero_le _) (fun d hd => absurd hd (Nat.not_lt_zero d))
    · exact absurd c8 (nI_m1 (by omega))
theorem c_plays (hP : CP F n nd R f ro rs rw) {p d : Nat} (hp : p < 8) (hd : d < 8) : Mt (dp + 2) 0 0 mX3_plays [.ref 12, .int (nI p), .int (nI d)] (HH f ro rs rw rb m) (RI (bI (plB F (R d) p)) (HH f ro rs rw rb m)) := by
  refine Mt.of rfl rfl (Nat.le_of_ble_eq_true rfl) rfl ?_
  have hk := hP.2.2.2.2.1.1 d (by omega)
  have e6 := (hP.2.2.2.2.2 d hd).2.1.2.2.2.2.1
  refine V.aldn 0 dX3_plays_0 rfl rfl ?_
  refine V.gf3_1 dX3_plays_1 f_X3_11 ?_
  refine V.ildn 2 dX3_plays_4 rfl rfl ?_
  refine V.ald_13 dX3_plays_5 (ix_nI (by omega) (by decide)) ?_
  refine V.gf5_6 dX3_plays_6 f_X3_71 (by omega) ?_
  refine V.top e6 ?_
  refine V.ildn 1 dX3_plays_9 rfl rfl ?_
  refine V.cSi ((c_hasBit (orP F (R d) (R d).length) p : Mt (dp + 1) 0 0 _ _ _ _)) dX3_plays_10 k_X3_58 rfl rfl (Nat.le_of_ble_eq_true rfl) rfl ?_
  rw [orP_bit (by omega)]
  exact V.retB dX3_plays_13 rfl ⟨rfl, rfl⟩
end CLASS
