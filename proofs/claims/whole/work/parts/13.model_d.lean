/-! the reference: the cost, and whether the plan keeps -/
noncomputable def dB (P : Prop) : Bool := @decide P (Classical.propDecidable P)
theorem dB_t {P : Prop} (h : P) : dB P = true := by unfold dB; exact @decide_eq_true P (Classical.propDecidable P) h
theorem dB_f {P : Prop} (h : ¬ P) : dB P = false := by unfold dB; exact @decide_eq_false P (Classical.propDecidable P) h
theorem of_dB {P : Prop} (h : dB P = true) : P := by unfold dB at h; exact @of_decide_eq_true P (Classical.propDecidable P) h
theorem of_dBf {P : Prop} (h : dB P = false) : ¬ P := by unfold dB at h; exact @of_decide_eq_false P (Classical.propDecidable P) h
theorem dB_congr {P Q : Prop} (h : P ↔ Q) : dB P = dB Q := by rw [propext h]
def isF (k : Nat) : Bool := [2, 3, 4, 5, 6, 7, 9, 10, 11, 12, 14, 15].contains k
/-- the reference m shows the film F and the first nd rows R -/
def MV (F : Nat → Nat → Int32) (nd : Nat) (R : Nat → List Nat) (m : Nat → Nat → Int32) : Prop := nd ≤ 8 ∧ m 13 0 = nI nd ∧ (∀ k, isF k = true → m k = F k) ∧ PlV F ∧ ∀ d, d < nd → rowM m d (R d)
def payC (F : Nat → Nat → Int32) (nd : Nat) (R : Nat → List Nat) : Int32 := sm (fun p => F 9 p * nI (pdS (fun d => plB F (R d) p) (F 10 p) nd).1) 8
def rentD (F : Nat → Nat → Int32) (l : List Nat) : Nat → Int32 := sm (fun p => if usB F l p = true then F 11 p else nI 0)
def rentC (F : Nat → Nat → Int32) (nd : Nat) (R : Nat → List Nat) : Int32 := sm (fun d => rentD F (R d) 8) nd
def overC (F : Nat → Nat → Int32) (nd : Nat) (R : Nat → List Nat) : Int32 := sm (fun d => nI 50 * ovr (mins F (R d))) nd
def costC (F : Nat → Nat → Int32) (nd : Nat) (R : Nat → List Nat) : Int32 := payC F nd R + rentC F nd R + overC F nd R
theorem and1 (y : Int32) : y &&& nI 1 = nI 0 ∨ y &&& nI 1 = nI 1 := by
  have h := pk_and y (m := nI 1) 1 (by decide +kernel)
  rcases (show y.toBitVec.toNat % 2 ^ 1 = 0 ∨ y.toBitVec.toNat % 2 ^ 1 = 1 by omega) with q | q
  · left; rw [h, q]
  · right; rw [h, q]
theorem btB_f {x : Int32} {p : Nat} : btB x p = false ↔ (x >>> (nI p &&& 31) &&& nI 1) = 0 := by
  unfold btB
  rw [decide_eq_false_iff_not]
  rcases and1 (x >>> (nI p &&& 31)) with q | q
  · rw [q]; simp [nI_0]; decide +kernel
  · rw [q]; simp; decide +kernel
theorem btB_t {x : Int32} {p : Nat} : btB x p = true ↔ ¬ (x >>> (nI p &&& 31) &&& nI 1) = 0 := by
  rw [← btB_f]; cases btB x p <;> simp
def ordA (F : Nat → Nat → Int32) (R : Nat → List Nat) (D : Nat → Option Nat) (s a : Nat) : Prop := btB (F 7 s) a = true → ∀ da ds, D a = some da → D s = some ds → da < ds ∨ (da = ds ∧ ixo (R da) a ≤ ixo (R ds) s)
def dayP (F : Nat → Nat → Int32) (nd : Nat) (R : Nat → List Nat) (d : Nat) : Prop := mins F (R d) ≤ F 14 d ∧ sunm F (R d) ≤ F 15 d ∧ (d + 1 < nd → hasL F (R d) (nI 2) = true → hasL F (R (d + 1)) (nI 1) = false)
/-- the plan keeps -/
def KP (F : Nat → Nat → Int32) (n nd : Nat) (R : Nat → List Nat) (D : Nat → Option Nat) : Prop := (∀ d, d < nd → dayP F nd R d) ∧ ∀ s, s < n → D s ≠ none → ∀ a, a < n → ordA F R D s a
/-- the days D and the rows R tell the same of the scenes below n -/
def DR (n nd : Nat) (R : Nat → List Nat) (D : Nat → Option Nat) : Prop := n ≤ 20 ∧ (∀ s d, s < n → D s = some d → d < nd ∧ s ∈ R d) ∧ (∀ s d, d < nd → s ∈ R d → s < n ∧ D s = some d) ∧ ∀ d, d < nd → (R d).Nodup
def MD8 (n : Nat) (D : Nat → Option Nat) (m : Nat → Nat → Int32) : Prop := m 1 0 = nI n ∧ ∀ s, s < n → m 8 s = dI (D s)
theorem dI_none {o : Option Nat} (h : ∀ d, o = some d → d < 2 ^ 31) : dI o = -1 ↔ o = none := by
  cases o with
  | none => exact ⟨fun _ => rfl, fun _ => rfl⟩
  | some d => exact ⟨fun e => absurd e (nI_m1 (h d rfl)), fun e => by cases e⟩
section MODEL
variable {f ro rs : Nat → Nat → Int32} {rw rb : Nat → Nat} {m : Nat → Nat → Int32} {dp : Nat} {F : Nat → Nat → Int32} {n nd : Nat} {R : Nat → List Nat} {D : Nat → Option Nat}
theorem t_payAll (hM : MV F nd R m) : Mt (dp + 4) 0 0 mX7_payAll [.ref 45] (HH f ro rs rw rb m) (RI (payC F nd R) (HH f ro rs rw rb m)) := by
  refine Mt.of rfl rfl (Nat.le_of_ble_eq_true rfl) rfl ?_
  obtain ⟨hnd, h13, hF, hp, hR⟩ := hM
  have loop : ∀ (j k : Nat), 8 - k = j → k ≤ 8 → V mX7_payAll (dp + 4) 0 0 4 [some (.ref 45), some (.int (sm (fun p => F 9 p * nI (pdS (fun d => plB F (R d) p) (F 10 p) nd).1) k)), some (.int (nI k))] [] (HH f ro rs rw rb m) (RI (payC F nd R) (HH f ro rs rw rb m)) := by
    intro j
    induction j using Nat.strongRecOn with
    | _ j ih =>
      intro k hj hk
      refine V.ildn 2 dX7_payAll_4 rfl rfl ?_
      refine V.bipush (nI 8) dX7_payAll_5 (by decide +kernel) ?_
      first | refine V.icmp_geN 31 dX7_payAll_7 (by decide) (by omega) (by omega) (fun c7 => ?_) (fun c7 => ?_) | refine V.icmp_ge 31 dX7_payAll_7 (by decide) (fun c7 => ?_) (fun c7 => ?_)
      · obtain rfl : k = 8 := by omega
        refine V.ildn 1 dX7_payAll_31 rfl rfl ?_
        exact V.ireturn dX7_payAll_32 rfl (by first | rfl | decide +kernel) (⟨rfl, rfl⟩)
      · refine V.ildn 1 dX7_payAll_10 rfl rfl ?_
        refine V.aldn 0 dX7_payAll_11 rfl rfl ?_
        refine V.gf7_9 dX7_payAll_12 f_X7_32 ?_
        refine V.ildn 2 dX7_payAll_15 rfl rfl ?_
        refine V.ald_53 dX7_payAll_16 (ix_nI (by omega) (by decide)) ?_
        refine V.top (congrFun (hF 9 rfl) _) ?_
        refine V.aldn 0 dX7_payAll_17 rfl rfl ?_
        refine V.ildn 2 dX7_payAll_18 rfl rfl ?_
        refine V.cVi (t_paid (hF 6 rfl) (hF 10 rfl) hnd h13 hR c7) dX7_payAll_19 k_X7_171 rfl rfl rfl (Nat.le_of_ble_eq_true rfl) rfl ?_
        refine V.imul dX7_payAll_22 ?_
        refine V.iadd dX7_payAll_23 ?_
        refine V.istn 1 dX7_payAll_24 rfl (Nat.le_of_ble_eq_true rfl) ?_
        first | refine V.iincN dX7_payAll_25 rfl ?_ | refine V.iinc dX7_payAll_25 rfl rfl ?_
        refine V.goto 4 dX7_payAll_28 (by decide) ?_
        exact ih _ (by omega) (k + 1) rfl (by omega)
  refine V.iconst (nI 0) dX7_payAll_0 (by decide +kernel) ?_
  refine V.istn 1 dX7_payAll_1 rfl (Nat.le_of_ble_eq_true rfl) ?_
  refine V.iconst (nI 0) dX7_payAll_2 (by decide +kernel) ?_
  refine V.istn 2 dX7_payAll_3 rfl (Nat.le_of_ble_eq_true rfl) ?_
  exact loop 8 0 (by omega) (by omega)
theorem t_rentAll (hM : MV F nd R m) : Mt (dp + 2) 0 0 mX7_rentAll [.ref 45] (HH f ro rs rw rb m) (RI (rentC F nd R) (HH f ro rs rw rb m)) := by
  refine Mt.of rfl rfl (Nat.le_of_ble_eq_true rfl) rfl ?_
  obtain ⟨hnd, h13, hF, hp, hR⟩ := hM
  have loop : ∀ (j k : Nat), nd - k = j → k ≤ nd → ∀ o3, V mX7_rentAll (dp + 2) 0 0 4 [some (.ref 45), some (.int (sm (fun d => rentD F (R d) 8) k)), some (.int (nI k)), o3] [] (HH f ro rs rw rb m) (RI (rentC F nd R) (HH f ro rs rw rb m)) := by
    intro j
    induction j using Nat.strongRecOn with
    | _ j ih =>
      intro k hj hk o3
      have inner : k < nd → ∀ (i q : Nat), 8 - q = i → q ≤ 8 → V mX7_rentAll (dp + 2) 0 0 14 [some (.ref 45), some (.int (sm (fun d => rentD F (R d) 8) k + rentD F (R k) q)), some (.int (nI k)), some (.int (nI q))] [] (HH f ro rs rw rb m) (RI (rentC F nd R) (HH f ro rs rw rb m)) := by
        intro hk2 i
        induction i using Nat.strongRecOn with
        | _ i ih2 =>
          intro q hi hq
          refine V.ildn 3 dX7_rentAll_14 rfl rfl ?_
          refine V.bipush (nI 8) dX7_rentAll_15 (by decide +kernel) ?_
          first | refine V.icmp_geN 48 dX7_rentAll_17 (by decide) (by omega) (by omega) (fun c17 => ?_) (fun c17 => ?_) | refine V.icmp_ge 48 dX7_rentAll_17 (by decide) (fun c17 => ?_) (fun c17 => ?_)
          · obtain rfl : q = 8 := by omega
            first | refine V.iincN dX7_rentAll_48 rfl ?_ | refine V.iinc dX7_rentAll_48 rfl rfl ?_
            refine V.goto 4 dX7_rentAll_51 (by decide) ?_
            exact ih _ (by omega) (k + 1) rfl (by omega) _
          · refine V.ildn 1 dX7_rentAll_20 rfl rfl ?_
            refine V.aldn 0 dX7_rentAll_21 rfl rfl ?_
            refine V.ildn 2 dX7_rentAll_22 rfl rfl ?_
            refine V.ildn 3 dX7_rentAll_23 rfl rfl ?_
            refine V.cVi (t_uses (hF 3 rfl) (by omega) (hR k hk2) q) dX7_rentAll_24 k_X7_174 rfl rfl rfl (Nat.le_of_ble_eq_true rfl) rfl ?_
            first | refine V.if_eqB 39 dX7_rentAll_27 (by decide) (fun c27 => ?_) (fun c27 => ?_) | refine V.if_eqN 39 dX7_rentAll_27 (by decide) (by omega) (fun c27 => ?_) (fun c27 => ?_) | refine V.if_eq 39 dX7_rentAll_27 (by decide) (fun c27 => ?_) (fun c27 => ?_)
            · refine V.iconst (nI 0) dX7_rentAll_39 (by decide +kernel) ?_
              refine V.iadd dX7_rentAll_40 ?_
              refine V.top (y := sm (fun d => rentD F (R d) 8) k + rentD F (R k) (q + 1)) (by rw [Int32.add_assoc]; congr 1; show _ = rentD F (R k) q + (if usB F (R k) q = true then F 11 q else nI 0); rw [if_neg (by rw [c27]; decide)]) ?_
              refine V.istn 1 dX7_rentAll_41 rfl (Nat.le_of_ble_eq_true rfl) ?_
              first | refine V.iincN dX7_rentAll_42 rfl ?_ | refine V.iinc dX7_rentAll_42 rfl rfl ?_
              refine V.goto 14 dX7_rentAll_45 (by decide) ?_
              exact ih2 _ (by omega) (q + 1) rfl (by omega)
            · refine V.aldn 0 dX7_rentAll_30 rfl rfl ?_
              refine V.gf7_11 dX7_rentAll_31 f_X7_38 ?_
              refine V.ildn 3 dX7_rentAll_34 rfl rfl ?_
              refine V.ald_55 dX7_rentAll_35 (ix_nI (by omega) (by decide)) ?_
              refine V.top (congrFun (hF 11 rfl) _) ?_
              refine V.goto 40 dX7_rentAll_36 (by decide) ?_
              refine V.iadd dX7_rentAll_40 ?_
              refine V.top (y := sm (fun d => rentD F (R d) 8) k + rentD F (R k) (q + 1)) (by rw [Int32.add_assoc]; congr 1; show _ = rentD F (R k) q + (if usB F (R k) q = true then F 11 q else nI 0); rw [if_pos c27]) ?_
              refine V.istn 1 dX7_rentAll_41 rfl (Nat.le_of_ble_eq_true rfl) ?_
              first | refine V.iincN dX7_rentAll_42 rfl ?_ | refine V.iinc dX7_rentAll_42 rfl rfl ?_
              refine V.goto 14 dX7_rentAll_45 (by decide) ?_
              exact ih2 _ (by omega) (q + 1) rfl (by omega)
      refine V.ildn 2 dX7_rentAll_4 rfl rfl ?_
      refine V.aldn 0 dX7_rentAll_5 rfl rfl ?_
      refine V.gf7_13 dX7_rentAll_6 f_X7_91 ?_
      refine V.top h13 ?_
      first | refine V.icmp_geN 54 dX7_rentAll_9 (by decide) (by omega) (by omega) (fun c9 => ?_) (fun c9 => ?_) | refine V.icmp_ge 54 dX7_rentAll_9 (by decide) (fun c9 => ?_) (fun c9 => ?_)
      · obtain rfl : k = nd := by omega
        refine V.ildn 1 dX7_rentAll_54 rfl rfl ?_
        exact V.ireturn dX7_rentAll_55 rfl (by first | rfl | decide +kernel) (⟨rfl, rfl⟩)
      · refine V.iconst (nI 0) dX7_rentAll_12 (by decide +kernel) ?_
        refine V.istn 3 dX7_rentAll_13 rfl (Nat.le_of_ble_eq_true rfl) ?_
        have := inner c9 8 0 (by omega) (by omega)
        rw [show rentD F (R k) 0 = 0 from nI_0, Int32.add_zero] at this
        exact this
  refine V.iconst (nI 0) dX7_rentAll_0 (by decide +kernel) ?_
  refine V.istn 1 dX7_rentAll_1 rfl (Nat.le_of_ble_eq_true rfl) ?_
  refine V.iconst (nI 0) dX7_rentAll_2 (by decide +kernel) ?_
  refine V.istn 2 dX7_rentAll_3 rfl (Nat.le_of_ble_eq_true rfl) ?_
  exact loop nd 0 (by omega) (by omega) none
theorem t_over (hM : MV F nd R m) {d : Nat} (hd : d < nd) : Mt (dp + 3) 0 0 mX7_over [.ref 45, .int (nI d)] (HH f ro rs rw rb m) (RI (ovr (mins F (R d))) (HH f ro rs rw rb m)) := by
  refine Mt.of rfl rfl (Nat.le_of_ble_eq_true rfl) rfl ?_
  obtain ⟨hnd, h13, hF, hp, hR⟩ := hM
  refine V.aldn 0 dX7_over_0 rfl rfl ?_
  refine V.ildn 1 dX7_over_1 rfl rfl ?_
  refine V.cVi (t_minutesOf ⟨hF 2 rfl, hF 3 rfl, hF 12 rfl⟩ hp (by omega) (hR d hd)) dX7_over_2 k_X7_117 rfl rfl rfl (Nat.le_of_ble_eq_true rfl) rfl ?_
  refine V.sipush (nI 480) dX7_over_5 (by decide +kernel) ?_
  refine V.icmp_gt 15 dX7_over_8 (by decide) (fun c8 => ?_) (fun c8 => ?_)
  · refine V.aldn 0 dX7_over_15 rfl rfl ?_
    refine V.ildn 1 dX7_over_16 rfl rfl ?_
    refine V.cVi (t_minutesOf ⟨hF 2 rfl, hF 3 rfl, hF 12 rfl⟩ hp (by omega) (hR d hd)) dX7_over_17 k_X7_117 rfl rfl rfl (Nat.le_of_ble_eq_true rfl) rfl ?_
    refine V.sipush (nI 480) dX7_over_20 (by decide +kernel) ?_
    refine V.isub dX7_over_23 ?_
    refine V.bipush (nI 29) dX7_over_24 (by decide +kernel) ?_
    refine V.iadd dX7_over_26 ?_
    refine V.bipush (nI 30) dX7_over_27 (by decide +kernel) ?_
    refine V.idiv dX7_over_29 (by decide +kernel) ?_
    exact V.ireturn dX7_over_30 rfl (by first | rfl | decide +kernel) (⟨by rw [ovr, if_pos c8], rfl⟩)
  · refine V.iconst (nI 0) dX7_over_11 (by decide +kernel) ?_
    refine V.goto 30 dX7_over_12 (by decide) ?_
    exact V.ireturn dX7_over_30 rfl (by first | rfl | decide +kernel) (⟨by rw [ovr, if_neg c8], rfl⟩)
theorem t_overAll (hM : MV F nd R m) : Mt (dp + 4) 0 0 mX7_overAll [.ref 45] (HH f ro rs rw rb m) (RI (overC F nd R) (HH f ro rs rw rb m)) := by
  refine Mt.of rfl rfl (Nat.le_of_ble_eq_true rfl) rfl ?_
  have hM0 := hM
  obtain ⟨hnd, h13, hF, hp, hR⟩ := hM
  have loop : ∀ (j k : Nat), nd - k = j → k ≤ nd → V mX7_overAll (dp + 4) 0 0 4 [some (.ref 45), some (.int (sm (fun d => nI 50 * ovr (mins F (R d))) k)), some (.int (nI k))] [] (HH f ro rs rw rb m) (RI (overC F nd R) (HH f ro rs rw rb m)) := by
    intro j
    induction j using Nat.strongRecOn with
    | _ j ih =>
      intro k hj hk
      refine V.ildn 2 dX7_overAll_4 rfl rfl ?_
      refine V.aldn 0 dX7_overAll_5 rfl rfl ?_
      refine V.gf7_13 dX7_overAll_6 f_X7_91 ?_
      refine V.top h13 ?_
      first | refine V.icmp_geN 29 dX7_overAll_9 (by decide) (by omega) (by omega) (fun c9 => ?_) (fun c9 => ?_) | refine V.icmp_ge 29 dX7_overAll_9 (by decide) (fun c9 => ?_) (fun c9 => ?_)
      · obtain rfl : k = nd := by omega
        refine V.ildn 1 dX7_overAll_29 rfl rfl ?_
        exact V.ireturn dX7_overAll_30 rfl (by first | rfl | decide +kernel) (⟨rfl, rfl⟩)
      · refine V.ildn 1 dX7_overAll_12 rfl rfl ?_
        refine V.bipush (nI 50) dX7_overAll_13 (by decide +kernel) ?_
        refine V.aldn 0 dX7_overAll_15 rfl rfl ?_
        refine V.ildn 2 dX7_overAll_16 rfl rfl ?_
        refine V.cVi (t_over hM0 c9) dX7_overAll_17 k_X7_177 rfl rfl rfl (Nat.le_of_ble_eq_true rfl) rfl ?_
        refine V.imul dX7_overAll_20 ?_
        refine V.iadd dX7_overAll_21 ?_
        refine V.istn 1 dX7_overAll_22 rfl (Nat.le_of_ble_eq_true rfl) ?_
        first | refine V.iincN dX7_overAll_23 rfl ?_ | refine V.iinc dX7_overAll_23 rfl rfl ?_
        refine V.goto 4 dX7_overAll_26 (by decide) ?_
        exact ih _ (by omega) (k + 1) rfl (by omega)
  refine V.iconst (nI 0) dX7_overAll_0 (by decide +kernel) ?_
  refine V.istn 1 dX7_overAll_1 rfl (Nat.le_of_ble_eq_true rfl) ?_
  refine V.iconst (nI 0) dX7_overAll_2 (by decide +kernel) ?_
  refine V.istn 2 dX7_overAll_3 rfl (Nat.le_of_ble_eq_true rfl) ?_
  exact loop nd 0 (by omega) (by omega)
theorem t_costAll (hM : MV F nd R m) : Mt (dp + 5) 0 0 mX7_costAll [.ref 45] (HH f ro rs rw rb m) (RI (costC F nd R) (HH f ro rs rw rb m)) := by
  refine Mt.of rfl rfl (Nat.le_of_ble_eq_true rfl) rfl ?_
  refine V.aldn 0 dX7_costAll_0 rfl rfl ?_
  refine V.cVi (t_payAll hM) dX7_costAll_1 k_X7_180 rfl rfl rfl (Nat.le_of_ble_eq_true rfl) rfl ?_
  refine V.aldn 0 dX7_costAll_4 rfl rfl ?_
  refine V.cVi (t_rentAll hM) dX7_costAll_5 k_X7_183 rfl rfl rfl (Nat.le_of_ble_eq_true rfl) rfl ?_
  refine V.iadd dX7_costAll_8 ?_
  refine V.aldn 0 dX7_costAll_9 rfl rfl ?_
  refine V.cVi (t_overAll hM) dX7_costAll_10 k_X7_186 rfl rfl rfl (Nat.le_of_ble_eq_true rfl) rfl ?_
  refine V.iadd dX7_costAll_13 ?_
  exact V.ireturn dX7_costAll_14 rfl (by first | rfl | decide +kernel) (⟨rfl, rfl⟩)
theorem t_isOrdered (hM : MV F nd R m) (hD : DR n nd R D) (h8 : MD8 n D m) {s : Nat} (hs : s < n) (hsd : D s ≠ none) : Mt (dp + 2) 0 0 mX7_isOrdered [.ref 45, .int (nI s)] (HH f ro rs rw rb m) (RI (bI (dB (∀ a, a < n → ordA F R D s a))) (HH f ro rs rw rb m)) := by
  refine Mt.of rfl rfl (Nat.le_of_ble_eq_true rfl) rfl ?_
  obtain ⟨hnd, h13, hF, hp, hR⟩ := hM
  obtain ⟨hn20, d1, d2, d3⟩ := hD
  obtain ⟨h1, h8⟩ := h8
  obtain ⟨ds, hds⟩ : ∃ ds, D s = some ds := by
    cases h : D s with
    | none => exact absurd h hsd
    | some d => exact ⟨d, rfl⟩
  have hds8 := d1 s ds hs hds
  have hpl : ∀ a, a < n → ∀ da, D a = some da → Mt (dp + 1) 0 0 mX7_placeIn [.ref 45, .int (nI a)] (HH f ro rs rw rb m) (RI (ixo (R da) a) (HH f ro rs rw rb m)) := by
    intro a ha da hda
    have hda8 := d1 a da ha hda
    exact t_placeIn (by omega) (h8 a ha) (fun d hd => by rw [hda] at hd; cases hd; exact ⟨by omega, hR da hda8.1⟩) (fun hn => by rw [hda] at hn; cases hn)
  have loop : ∀ (j k : Nat), n - k = j → k ≤ n → (∀ a, a < k → ordA F R D s a) → V mX7_isOrdered (dp + 2) 0 0 2 [some (.ref 45), some (.int (nI s)), some (.int (nI k))] [] (HH f ro rs rw rb m) (RI (bI (dB (∀ a, a < n → ordA F R D s a))) (HH f ro rs rw rb m)) := by
    intro j
    induction j using Nat.strongRecOn with
    | _ j ih =>
      intro k hj hk hall
      have nxt : k < n → ordA F R D s k → V mX7_isOrdered (dp + 2) 0 0 81 [some (.ref 45), some (.int (nI s)), some (.int (nI k))] [] (HH f ro rs rw rb m) (RI (bI (dB (∀ a, a < n → ordA F R D s a))) (HH f ro rs rw rb m)) := by
        intro hkn ho
        first | refine V.iincN dX7_isOrdered_81 rfl ?_ | refine V.iinc dX7_isOrdered_81 rfl rfl ?_
        refine V.goto 2 dX7_isOrdered_84 (by decide) ?_
        exact ih _ (by omega) (k + 1) rfl (by omega) (fun a ha => by rcases Nat.lt_succ_iff_lt_or_eq.mp ha with q | q; exact hall a q; rw [q]; exact ho)
      have bad : k < n → ¬ ordA F R D s k → V mX7_isOrdered (dp + 2) 0 0 79 [some (.ref 45), some (.int (nI s)), some (.int (nI k))] [] (HH f ro rs rw rb m) (RI (bI (dB (∀ a, a < n → ordA F R D s a))) (HH f ro rs rw rb m)) := by
        intro hkn ho
        refine V.iconst (nI 0) dX7_isOrdered_79 (by decide +kernel) ?_
        exact V.ireturn dX7_isOrdered_80 rfl (by first | rfl | decide +kernel) (⟨congrArg (fun x => some (Value.int x)) (bI_f (dB_f (fun q => ho (q k hkn)))), rfl⟩)
      refine V.ildn 2 dX7_isOrdered_2 rfl rfl ?_
      refine V.aldn 0 dX7_isOrdered_3 rfl rfl ?_
      refine V.gf7_1 dX7_isOrdered_4 f_X7_84 ?_
      refine V.top h1 ?_
      first | refine V.icmp_geN 87 dX7_isOrdered_7 (by decide) (by omega) (by omega) (fun c7 => ?_) (fun c7 => ?_) | refine V.icmp_ge 87 dX7_isOrdered_7 (by decide) (fun c7 => ?_) (fun c7 => ?_)
      · refine V.iconst (nI 1) dX7_isOrdered_87 (by decide +kernel) ?_
        exact V.ireturn dX7_isOrdered_88 rfl (by first | rfl | decide +kernel) (⟨congrArg (fun x => some (Value.int x)) (bI_t (dB_t (fun a ha => hall a (by omega)))), rfl⟩)
      · refine V.aldn 0 dX7_isOrdered_10 rfl rfl ?_
        refine V.gf7_7 dX7_isOrdered_11 f_X7_26 ?_
        refine V.ildn 1 dX7_isOrdered_14 rfl rfl ?_
        refine V.ald_51 dX7_isOrdered_15 (ix_nI (by omega) (by decide)) ?_
        refine V.top (congrFun (hF 7 rfl) _) ?_
        refine V.ildn 2 dX7_isOrdered_16 rfl rfl ?_
        refine V.ishr dX7_isOrdered_17 ?_
        refine V.iconst (nI 1) dX7_isOrdered_18 (by decide +kernel) ?_
        refine V.iand dX7_isOrdered_19 ?_
        refine V.if_eq 81 dX7_isOrdered_20 (by decide) (fun c20 => ?_) (fun c20 => ?_)
        · exact nxt c7 (fun q => absurd c20 (btB_t.mp q))
        · refine V.aldn 0 dX7_isOrdered_23 rfl rfl ?_
          refine V.gf7_8 dX7_isOrdered_24 f_X7_29 ?_
          refine V.ildn 2 dX7_isOrdered_27 rfl rfl ?_
          refine V.ald_52 dX7_isOrdered_28 (ix_nI (by omega) (by decide)) ?_
          refine V.top (h8 k c7) ?_
          refine V.iconst (-1) dX7_isOrdered_29 (by decide +kernel) ?_
          refine V.icmp_ne 36 dX7_isOrdered_30 (by decide) (fun c30 => ?_) (fun c30 => ?_)
          · obtain ⟨da, hda⟩ : ∃ da, D k = some da := by cases h : D k with | none => exact absurd (by rw [h]; rfl) c30 | some d => exact ⟨d, rfl⟩
            have hda8 := d1 k da c7 hda
            refine V.aldn 0 dX7_isOrdered_36 rfl rfl ?_
            refine V.gf7_8 dX7_isOrdered_37 f_X7_29 ?_
            refine V.ildn 2 dX7_isOrdered_40 rfl rfl ?_
            refine V.ald_52 dX7_isOrdered_41 (ix_nI (by omega) (by decide)) ?_
            refine V.top (y := nI da) (by rw [h8 k c7, hda]; rfl) ?_
            refine V.aldn 0 dX7_isOrdered_42 rfl rfl ?_
            refine V.gf7_8 dX7_isOrdered_43 f_X7_29 ?_
            refine V.ildn 1 dX7_isOrdered_46 rfl rfl ?_
            refine V.ald_52 dX7_isOrdered_47 (ix_nI (by omega) (by decide)) ?_
            refine V.top (y := nI ds) (by rw [h8 s hs, hds]; rfl) ?_
            refine V.icmp_gtN (a := da) (b := ds) 79 dX7_isOrdered_48 (by decide) (by omega) (by omega) (fun c48 => ?_) (fun c48 => ?_)
            · exact bad c7 (fun q => by have := q (btB_t.mpr c20) da ds hda hds; omega)
            · refine V.aldn 0 dX7_isOrdered_51 rfl rfl ?_
              refine V.gf7_8 dX7_isOrdered_52 f_X7_29 ?_
              refine V.ildn 2 dX7_isOrdered_55 rfl rfl ?_
              refine V.ald_52 dX7_isOrdered_56 (ix_nI (by omega) (by decide)) ?_
              refine V.top (y := nI da) (by rw [h8 k c7, hda]; rfl) ?_
              refine V.aldn 0 dX7_isOrdered_57 rfl rfl ?_
              refine V.gf7_8 dX7_isOrdered_58 f_X7_29 ?_
              refine V.ildn 1 dX7_isOrdered_61 rfl rfl ?_
              refine V.ald_52 dX7_isOrdered_62 (ix_nI (by omega) (by decide)) ?_
              refine V.top (y := nI ds) (by rw [h8 s hs, hds]; rfl) ?_
              refine V.icmp_neN (a := da) (b := ds) 81 dX7_isOrdered_63 (by decide) (by omega) (by omega) (fun c63 => ?_) (fun c63 => ?_)
              · exact nxt c7 (fun _ da' ds' h1' h2' => by rw [hda] at h1'; rw [hds] at h2'; cases h1'; cases h2'; left; omega)
              · refine V.aldn 0 dX7_isOrdered_66 rfl rfl ?_
                refine V.ildn 2 dX7_isOrdered_67 rfl rfl ?_
                refine V.cVi (hpl k c7 da hda) dX7_isOrdered_68 k_X7_113 rfl rfl rfl (Nat.le_of_ble_eq_true rfl) rfl ?_
                refine V.aldn 0 dX7_isOrdered_71 rfl rfl ?_
                refine V.ildn 1 dX7_isOrdered_72 rfl rfl ?_
                refine V.cVi (hpl s hs ds hds) dX7_isOrdered_73 k_X7_113 rfl rfl rfl (Nat.le_of_ble_eq_true rfl) rfl ?_
                refine V.icmp_le 81 dX7_isOrdered_76 (by decide) (fun c76 => ?_) (fun c76 => ?_)
                · exact nxt c7 (fun _ da' ds' h1' h2' => by rw [hda] at h1'; rw [hds] at h2'; cases h1'; cases h2'; exact Or.inr ⟨c63, c76⟩)
                · exact bad c7 (fun q => by have := q (btB_t.mpr c20) da ds hda hds; rcases this with z | z; omega; exact c76 z.2)
          · refine V.goto 81 dX7_isOrdered_33 (by decide) ?_
            exact nxt c7 (fun _ da _ h _ => absurd c30 (by rw [h]; exact nI_m1 (by have := d1 k da c7 h; omega)))
  refine V.iconst (nI 0) dX7_isOrdered_0 (by decide +kernel) ?_
  refine V.istn 2 dX7_isOrdered_1 rfl (Nat.le_of_ble_eq_true rfl) ?_
  exact loop n 0 (by omega) (by omega) (fun a ha => absurd ha (Nat.not_lt_zero a))
theorem t_keeps (hM : MV F nd R m) (hD : DR n nd R D) (h8 : MD8 n D m) : Mt (dp + 3) 0 0 mX7_keeps [.ref 45] (HH f ro rs rw rb m) (RI (bI (dB (KP F n nd R D))) (HH f ro rs rw rb m)) := by
  refine Mt.of rfl rfl (Nat.le_of_ble_eq_true rfl) rfl ?_
  have hM0 := hM
  obtain ⟨hnd, h13, hF, hp, hR⟩ := hM
  have hD0 := hD
  obtain ⟨hn20, d1, d2, d3⟩ := hD
  have h80 := h8
  obtain ⟨h1, h8⟩ := h8
  have loop2 : (∀ d, d < nd → dayP F nd R d) → ∀ (j k : Nat), n - k = j → k ≤ n → (∀ s, s < k → D s ≠ none → ∀ a, a < n → ordA F R D s a) → V mX7_keeps (dp + 3) 0 0 80 [some (.ref 45), some (.int (nI k))] [] (HH f ro rs rw rb m) (RI (bI (dB (KP F n nd R D))) (HH f ro rs rw rb m)) := by
    intro hday j
    induction j using Nat.strongRecOn with
    | _ j ih =>
      intro k hj hk hall
      have nxt : k < n → (D k ≠ none → ∀ a, a < n → ordA F R D k a) → V mX7_keeps (dp + 3) 0 0 108 [some (.ref 45), some (.int (nI k))] [] (HH f ro rs rw rb m) (RI (bI (dB (KP F n nd R D))) (HH f ro rs rw rb m)) := by
        intro hkn ho
        first | refine V.iincN dX7_keeps_108 rfl ?_ | refine V.iinc dX7_keeps_108 rfl rfl ?_
        refine V.goto 80 dX7_keeps_111 (by decide) ?_
        exact ih _ (by omega) (k + 1) rfl (by omega) (fun a ha => by rcases Nat.lt_succ_iff_lt_or_eq.mp ha with q | q; exact hall a q; rw [q]; exact ho)
      refine V.ildn 1 dX7_keeps_80 rfl rfl ?_
      refine V.aldn 0 dX7_keeps_81 rfl rfl ?_
      refine V.gf7_1 dX7_keeps_82 f_X7_84 ?_
      refine V.top h1 ?_
      first | refine V.icmp_geN 114 dX7_keeps_85 (by decide) (by omega) (by omega) (fun c85 => ?_) (fun c85 => ?_) | refine V.icmp_ge 114 dX7_keeps_85 (by decide) (fun c85 => ?_) (fun c85 => ?_)
      · refine V.iconst (nI 1) dX7_keeps_114 (by decide +kernel) ?_
        exact V.ireturn dX7_keeps_115 rfl (by first | rfl | decide +kernel) (⟨congrArg (fun x => some (Value.int x)) (bI_t (dB_t ⟨hday, fun s hs => hall s (by omega)⟩)), rfl⟩)
      · refine V.aldn 0 dX7_keeps_88 rfl rfl ?_
        refine V.gf7_8 dX7_keeps_89 f_X7_29 ?_
        refine V.ildn 1 dX7_keeps_92 rfl rfl ?_
        refine V.ald_52 dX7_keeps_93 (ix_nI (by omega) (by decide)) ?_
        refine V.top (h8 k c85) ?_
        refine V.iconst (-1) dX7_keeps_94 (by decide +kernel) ?_
        refine V.icmp_eq 108 dX7_keeps_95 (by decide) (fun c95 => ?_) (fun c95 => ?_)
        · exact nxt c85 (fun q => absurd ((dI_none (fun d hd => by have := d1 k d c85 hd; omega)).mp c95) q)
        · have hk0 : D k ≠ none := fun q => c95 (by rw [q]; rfl)
          refine V.aldn 0 dX7_keeps_98 rfl rfl ?_
          refine V.ildn 1 dX7_keeps_99 rfl rfl ?_
          refine V.cVi (t_isOrdered hM0 hD0 h80 c85 hk0) dX7_keeps_100 k_X7_126 rfl rfl rfl (Nat.le_of_ble_eq_true rfl) rfl ?_
          first | refine V.if_neB 108 dX7_keeps_103 (by decide) (fun c103 => ?_) (fun c103 => ?_) | refine V.if_neN 108 dX7_keeps_103 (by decide) (by omega) (fun c103 => ?_) (fun c103 => ?_) | refine V.if_ne 108 dX7_keeps_103 (by decide) (fun c103 => ?_) (fun c103 => ?_)
          · exact nxt c85 (fun _ => of_dB c103)
          · refine V.iconst (nI 0) dX7_keeps_106 (by decide +kernel) ?_
            exact V.ireturn dX7_keeps_107 rfl (by first | rfl | decide +kernel) (⟨congrArg (fun x => some (Value.int x)) (bI_f (dB_f (fun q => of_dBf c103 (q.2 k c85 hk0)))), rfl⟩)
  have loop : ∀ (j k : Nat), nd - k = j → k ≤ nd → (∀ d, d < k → dayP F nd R d) → V mX7_keeps (dp + 3) 0 0 2 [some (.ref 45), some (.int (nI k))] [] (HH f ro rs rw rb m) (RI (bI (dB (KP F n nd R D))) (HH f ro rs rw rb m)) := by
    intro j
    induction j using Nat.strongRecOn with
    | _ j ih =>
      intro k hj hk hall
      have nxt : k < nd → dayP F nd R k → V mX7_keeps (dp + 3) 0 0 72 [some (.ref 45), some (.int (nI k))] [] (HH f ro rs rw rb m) (RI (bI (dB (KP F n nd R D))) (HH f ro rs rw rb m)) := by
        intro hkn ho
        first | refine V.iincN dX7_keeps_72 rfl ?_ | refine V.iinc dX7_keeps_72 rfl rfl ?_
        refine V.goto 2 dX7_keeps_75 (by decide) ?_
        exact ih _ (by omega) (k + 1) rfl (by omega) (fun a ha => by rcases Nat.lt_succ_iff_lt_or_eq.mp ha with q | q; exact hall a q; rw [q]; exact ho)
      have bad : k < nd → ¬ dayP F nd R k → RI (bI (dB (KP F n nd R D))) (HH f ro rs rw rb m) (some (.int (nI 0))) (HH f ro rs rw rb m) := by
        intro hkn ho
        exact ⟨congrArg (fun x => some (Value.int x)) (bI_f (dB_f (fun q => ho (q.1 k hkn)))), rfl⟩
      refine V.ildn 1 dX7_keeps_2 rfl rfl ?_
      refine V.aldn 0 dX7_keeps_3 rfl rfl ?_
      refine V.gf7_13 dX7_keeps_4 f_X7_91 ?_
      refine V.top h13 ?_
      first | refine V.icmp_geN 78 dX7_keeps_7 (by decide) (by omega) (by omega) (fun c7 => ?_) (fun c7 => ?_) | refine V.icmp_ge 78 dX7_keeps_7 (by decide) (fun c7 => ?_) (fun c7 => ?_)
      · obtain rfl : k = nd := by omega
        refine V.iconst (nI 0) dX7_keeps_78 (by decide +kernel) ?_
        refine V.istn 1 dX7_keeps_79 rfl (Nat.le_of_ble_eq_true rfl) ?_
        exact loop2 hall n 0 (by omega) (by omega) (fun s hs => absurd hs (Nat.not_lt_zero s))
      · refine V.aldn 0 dX7_keeps_10 rfl rfl ?_
        refine V.ildn 1 dX7_keeps_11 rfl rfl ?_
        refine V.cVi (t_minutesOf ⟨hF 2 rfl, hF 3 rfl, hF 12 rfl⟩ hp (by omega) (hR k c7)) dX7_keeps_12 k_X7_117 rfl rfl rfl (Nat.le_of_ble_eq_true rfl) rfl ?_
        refine V.aldn 0 dX7_keeps_15 rfl rfl ?_
        refine V.gf7_14 dX7_keeps_16 f_X7_44 ?_
        refine V.ildn 1 dX7_keeps_19 rfl rfl ?_
        refine V.ald_57 dX7_keeps_20 (ix_nI (by omega) (by decide)) ?_
        refine V.top (congrFun (hF 14 rfl) _) ?_
        refine V.icmp_gt 38 dX7_keeps_21 (by decide) (fun c21 => ?_) (fun c21 => ?_)
        · refine V.iconst (nI 0) dX7_keeps_38 (by decide +kernel) ?_
          exact V.ireturn dX7_keeps_39 rfl (by first | rfl | decide +kernel) (bad c7 (fun q => absurd q.1 (Int32.not_le.mpr c21)))
        · refine V.aldn 0 dX7_keeps_24 rfl rfl ?_
          refine V.ildn 1 dX7_keeps_25 rfl rfl ?_
          refine V.cVi (t_lightOf ⟨hF 2 rfl, hF 4 rfl⟩ (by omega) (hR k c7)) dX7_keeps_26 k_X7_120 rfl rfl rfl (Nat.le_of_ble_eq_true rfl) rfl ?_
          refine V.aldn 0 dX7_keeps_29 rfl rfl ?_
          refine V.gf7_15 dX7_keeps_30 f_X7_47 ?_
          refine V.ildn 1 dX7_keeps_33 rfl rfl ?_
          refine V.ald_58 dX7_keeps_34 (ix_nI (by omega) (by decide)) ?_
          refine V.top (congrFun (hF 15 rfl) _) ?_
          refine V.icmp_le 40 dX7_keeps_35 (by decide) (fun c35 => ?_) (fun c35 => ?_)
          · refine V.ildn 1 dX7_keeps_40 rfl rfl ?_
            refine V.iconst (nI 1) dX7_keeps_41 (by decide +kernel) ?_
            first | refine V.iaddN dX7_keeps_42 ?_ | refine V.iadd dX7_keeps_42 ?_
            refine V.aldn 0 dX7_keeps_43 rfl rfl ?_
            refine V.gf7_13 dX7_keeps_44 f_X7_91 ?_
            refine V.top h13 ?_
            first | refine V.icmp_geN 72 dX7_keeps_47 (by decide) (by omega) (by omega) (fun c47 => ?_) (fun c47 => ?_) | refine V.icmp_ge 72 dX7_keeps_47 (by decide) (fun c47 => ?_) (fun c47 => ?_)
            · exact nxt c7 ⟨Int32.not_lt.mp c21, c35, fun q => absurd q (by omega)⟩
            · refine V.aldn 0 dX7_keeps_50 rfl rfl ?_
              refine V.ildn 1 dX7_keeps_51 rfl rfl ?_
              refine V.iconst (nI 2) dX7_keeps_52 (by decide +kernel) ?_
              refine V.cVi (t_has (hF 4 rfl) (by omega) (hR k c7) (nI 2)) dX7_keeps_53 k_X7_123 rfl rfl rfl (Nat.le_of_ble_eq_true rfl) rfl ?_
              first | refine V.if_eqB 72 dX7_keeps_56 (by decide) (fun c56 => ?_) (fun c56 => ?_) | refine V.if_eqN 72 dX7_keeps_56 (by decide) (by omega) (fun c56 => ?_) (fun c56 => ?_) | refine V.if_eq 72 dX7_keeps_56 (by decide) (fun c56 => ?_) (fun c56 => ?_)
              · exact nxt c7 ⟨Int32.not_lt.mp c21, c35, fun _ q => by rw [c56] at q; cases q⟩
              · refine V.aldn 0 dX7_keeps_59 rfl rfl ?_
                refine V.ildn 1 dX7_keeps_60 rfl rfl ?_
                refine V.iconst (nI 1) dX7_keeps_61 (by decide +kernel) ?_
                first | refine V.iaddN dX7_keeps_62 ?_ | refine V.iadd dX7_keeps_62 ?_
                refine V.iconst (nI 1) dX7_keeps_63 (by decide +kernel) ?_
                refine V.cVi (t_has (hF 4 rfl) (by omega) (hR (k + 1) c47) (nI 1)) dX7_keeps_64 k_X7_123 rfl rfl rfl (Nat.le_of_ble_eq_true rfl) rfl ?_
                first | refine V.if_eqB 72 dX7_keeps_67 (by decide) (fun c67 => ?_) (fun c67 => ?_) | refine V.if_eqN 72 dX7_keeps_67 (by decide) (by omega) (fun c67 => ?_) (fun c67 => ?_) | refine V.if_eq 72 dX7_keeps_67 (by decide) (fun c67 => ?_) (fun c67 => ?_)
                · exact nxt c7 ⟨Int32.not_lt.mp c21, c35, fun _ _ => c67⟩
                · refine V.iconst (nI 0) dX7_keeps_70 (by decide +kernel) ?_
                  exact V.ireturn dX7_keeps_71 rfl (by first | rfl | decide +kernel) (bad c7 (fun q => by have := q.2.2 c47 c56; rw [c67] at this; cases this))
          · refine V.iconst (nI 0) dX7_keeps_38 (by decide +kernel) ?_
            exact V.ireturn dX7_keeps_39 rfl (by first | rfl | decide +kernel) (bad c7 (fun q => c35 q.2.1))
  refine V.iconst (nI 0) dX7_keeps_0 (by decide +kernel) ?_
  refine V.istn 1 dX7_keeps_1 rfl (Nat.le_of_ble_eq_true rfl) ?_
  exact loop nd 0 (by omega) (by omega) (fun a ha => absurd ha (Nat.not_lt_zero a))
end MODEL
