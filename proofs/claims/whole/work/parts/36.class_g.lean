/-! the class: a day arranged -/
def Fl (x : Int32) (n : Nat) : List Nat := (List.range n).filter (fun s => btB x s)
theorem Fl_succ (x : Int32) (n : Nat) : Fl x (n + 1) = if btB x n = true then Fl x n ++ [n] else Fl x n := by
  unfold Fl
  rw [List.range_succ, List.filter_append]
  split
  · rename_i h; simp [h]
  · rename_i h; simp [h]
theorem Fl_mem {x : Int32} {n s : Nat} : s ∈ Fl x n ↔ s < n ∧ btB x s = true := by simp [Fl]
theorem Fl_nd (x : Int32) (n : Nat) : (Fl x n).Nodup := List.Sublist.nodup List.filter_sublist List.nodup_range
theorem Fl_pre (x : Int32) {i : Nat} : ∀ {n : Nat}, i ≤ n → Fl x i <+: Fl x n
  | 0, h => by rw [show i = 0 by omega]; exact List.prefix_refl _
  | n + 1, h => by
    rcases Nat.eq_or_lt_of_le h with e | e
    · rw [e]; exact List.prefix_refl _
    · rw [Fl_succ]
      split
      · exact (Fl_pre x (n := n) (by omega)).trans (List.prefix_append _ _)
      · exact Fl_pre x (n := n) (by omega)
section CLASS
variable {f ro rs : Nat → Nat → Int32} {rw rb : Nat → Nat} {m : Nat → Nat → Int32} {dp : Nat} {F : Nat → Nat → Int32} {n nd : Nat} {R : Nat → List Nat} {D : Nat → Option Nat}
theorem c_fillPool (h1 : f 1 10 = nI n) (hn : n ≤ 20) {x : Int32} (h5 : (Fl x n).length ≤ 5) : Mt (dp + 2) 0 0 mX0_fillPool [.ref 41, .int x] (HH f ro rs rw rb m) (fun r h' => ∃ f', r = none ∧ h' = HH f' ro rs rw rb m ∧ Sm [41, 42] f f' ∧ f' 41 4 = nI (Fl x n).length ∧ (∀ y, y < 32 → (btB (f' 41 5) y = true ↔ y ∈ Fl x n)) ∧ ∀ i, i < (Fl x n).length → f' 42 i = nI ((Fl x n).getD i 0)) := by
  refine Mt.of rfl rfl (Nat.le_of_ble_eq_true rfl) rfl ?_
  generalize hQ : (fun (r : Option Value) (h' : List AC) => ∃ f', r = none ∧ h' = HH f' ro rs rw rb m ∧ Sm [41, 42] f f' ∧ f' 41 4 = nI (Fl x n).length ∧ (∀ y, y < 32 → (btB (f' 41 5) y = true ↔ y ∈ Fl x n)) ∧ ∀ i, i < (Fl x n).length → f' 42 i = nI ((Fl x n).getD i 0)) = Q
  have loop : ∀ (j i : Nat) (f' : Nat → Nat → Int32), n - i = j → i ≤ n → Sm [41, 42] f f' → f' 41 4 = nI (Fl x i).length → (∀ y, y < 32 → (btB (f' 41 5) y = true ↔ y ∈ Fl x i)) → (∀ q, q < (Fl x i).length → f' 42 q = nI ((Fl x i).getD q 0)) → V mX0_fillPool (dp + 2) 0 0 12 [some (.ref 41), some (.int x), some (.int (nI i))] [] (HH f' ro rs rw rb m) Q := by
    intro j
    induction j using Nat.strongRecOn with
    | _ j ih =>
      intro i f' hj hi hS e4 e5 e42
      have h1' : f' 1 10 = nI n := by rw [hS 1 (by decide)]; exact h1
      have hpl := (Fl_pre x hi).length_le
      have fin : Fl x i = Fl x n → Q none (HH f' ro rs rw rb m) := fun q => by rw [← hQ, ← q]; exact ⟨f', rfl, rfl, hS, e4, e5, e42⟩
      refine V.ildn 2 dX0_fillPool_12 rfl rfl ?_
      refine V.aldn 0 dX0_fillPool_13 rfl rfl ?_
      refine V.gf0_0 dX0_fillPool_14 f_X0_21 ?_
      refine V.gf2_10 dX0_fillPool_17 f_X0_58 ?_
      refine V.top h1' ?_
      first | refine V.icmp_geN 77 dX0_fillPool_20 (by decide) (by omega) (by omega) (fun c20 => ?_) (fun c20 => ?_) | refine V.icmp_ge 77 dX0_fillPool_20 (by decide) (fun c20 => ?_) (fun c20 => ?_)
      · exact V.vreturn dX0_fillPool_77 rfl (fin (by rw [show i = n by omega]))
      · refine V.aldn 0 dX0_fillPool_23 rfl rfl ?_
        refine V.gf0_4 dX0_fillPool_24 f_X0_45 ?_
        refine V.top (by first | exact e4 | (rw [up2_ne (by decide)]; exact e4) | (rw [up2_at, if_neg (by omega), up2_ne (by decide)]; exact e4)) ?_
        refine V.iconst (nI 5) dX0_fillPool_27 (by decide +kernel) ?_
        first | refine V.icmp_geN 77 dX0_fillPool_28 (by decide) (by omega) (by omega) (fun c28 => ?_) (fun c28 => ?_) | refine V.icmp_ge 77 dX0_fillPool_28 (by decide) (fun c28 => ?_) (fun c28 => ?_)
        · exact V.vreturn dX0_fillPool_77 rfl (fin ((Fl_pre x hi).eq_of_length (by omega)))
        · refine V.ildn 1 dX0_fillPool_31 rfl rfl ?_
          refine V.ildn 2 dX0_fillPool_32 rfl rfl ?_
          refine V.cSi ((c_hasBit x i : Mt (dp + 1) 0 0 _ _ _ _)) dX0_fillPool_33 k_X0_63 rfl rfl (Nat.le_of_ble_eq_true rfl) rfl ?_
          first | refine V.if_eqB 71 dX0_fillPool_36 (by decide) (fun c36 => ?_) (fun c36 => ?_) | refine V.if_eqN 71 dX0_fillPool_36 (by decide) (by omega) (fun c36 => ?_) (fun c36 => ?_) | refine V.if_eq 71 dX0_fillPool_36 (by decide) (fun c36 => ?_) (fun c36 => ?_)
          · have es : Fl x (i + 1) = Fl x i := by rw [Fl_succ, if_neg (by rw [c36]; decide)]
            first | refine V.iincN dX0_fillPool_71 rfl ?_ | refine V.iinc dX0_fillPool_71 rfl rfl ?_
            refine V.goto 12 dX0_fillPool_74 (by decide) ?_
            refine ih _ (by omega) (i + 1) _ rfl (by omega) ?_ ?_ ?_ ?_
            · first | exact hS | exact ((hS.up (by decide)).up (by decide)).up (by decide)
            · first | (rw [es]; exact e4) | (rw [up2_at, if_pos ⟨rfl, rfl⟩, es]; simp)
            · first | (rw [es]; exact e5) | (intro y hy; rw [up2_at, if_neg (by omega), up2_at, if_pos ⟨rfl, rfl⟩, up2_ne (by decide), btB_set (by omega) hy, Bool.or_eq_true, e5 y hy, es, List.mem_append]; simp)
            · first | (rw [es]; exact e42) | (intro q hq; rw [es] at hq ⊢; rw [up2_ne (by decide), up2_ne (by decide), up2_at]; split; (rename_i z; rw [z.2, List.getD_eq_getElem?_getD, List.getElem?_append_right (Nat.le_refl _)]; simp); (rename_i z; have hq2 : q < (Fl x i).length := (by simp at hq; omega); rw [e42 q hq2, getD_pre (List.prefix_append _ _) hq2]))
          · have es : Fl x (i + 1) = Fl x i ++ [i] := by rw [Fl_succ, if_pos c36]
            refine V.aldn 0 dX0_fillPool_39 rfl rfl ?_
            refine V.gf0_1 dX0_fillPool_40 f_X0_9 ?_
            refine V.aldn 0 dX0_fillPool_43 rfl rfl ?_
            refine V.gf0_4 dX0_fillPool_44 f_X0_45 ?_
            refine V.top (by first | exact e4 | (rw [up2_ne (by decide)]; exact e4) | (rw [up2_at, if_neg (by omega), up2_ne (by decide)]; exact e4)) ?_
            refine V.ildn 2 dX0_fillPool_47 rfl rfl ?_
            refine V.ast_42 dX0_fillPool_48 (ix_nI (by omega) (by decide)) ?_
            refine V.aldn 0 dX0_fillPool_49 rfl rfl ?_
            refine V.dupr dX0_fillPool_50 ?_
            refine V.gf0_5 dX0_fillPool_51 f_X0_55 ?_
            refine V.iconst (nI 1) dX0_fillPool_54 (by decide +kernel) ?_
            refine V.ildn 2 dX0_fillPool_55 rfl rfl ?_
            refine V.ishl dX0_fillPool_56 ?_
            refine V.ior dX0_fillPool_57 ?_
            refine V.pf0_5 dX0_fillPool_58 (fp_X0_55 rfl) ?_
            refine V.aldn 0 dX0_fillPool_61 rfl rfl ?_
            refine V.dupr dX0_fillPool_62 ?_
            refine V.gf0_4 dX0_fillPool_63 f_X0_45 ?_
            refine V.top (by first | exact e4 | (rw [up2_ne (by decide)]; exact e4) | (rw [up2_at, if_neg (by omega), up2_ne (by decide)]; exact e4)) ?_
            refine V.iconst (nI 1) dX0_fillPool_66 (by decide +kernel) ?_
            first | refine V.iaddN dX0_fillPool_67 ?_ | refine V.iadd dX0_fillPool_67 ?_
            refine V.pf0_4 dX0_fillPool_68 (fp_X0_45 rfl) ?_
            first | refine V.iincN dX0_fillPool_71 rfl ?_ | refine V.iinc dX0_fillPool_71 rfl rfl ?_
            refine V.goto 12 dX0_fillPool_74 (by decide) ?_
            refine ih _ (by omega) (i + 1) _ rfl (by omega) ?_ ?_ ?_ ?_
            · first | exact hS | exact ((hS.up (by decide)).up (by decide)).up (by decide)
            · first | (rw [es]; exact e4) | (rw [up2_at, if_pos ⟨rfl, rfl⟩, es]; simp)
            · first | (rw [es]; exact e5) | (intro y hy; rw [up2_at, if_neg (by omega), up2_at, if_pos ⟨rfl, rfl⟩, up2_ne (by decide), btB_set (by omega) hy, Bool.or_eq_true, e5 y hy, es, List.mem_append]; simp)
            · first | (rw [es]; exact e42) | (intro q hq; rw [es] at hq ⊢; rw [up2_ne (by decide), up2_ne (by decide), up2_at]; split; (rename_i z; rw [z.2, List.getD_eq_getElem?_getD, List.getElem?_append_right (Nat.le_refl _)]; simp); (rename_i z; have hq2 : q < (Fl x i).length := (by simp at hq; omega); rw [e42 q hq2, getD_pre (List.prefix_append _ _) hq2]))
  refine V.aldn 0 dX0_fillPool_0 rfl rfl ?_
  refine V.iconst (nI 0) dX0_fillPool_1 (by decide +kernel) ?_
  refine V.pf0_4 dX0_fillPool_2 (fp_X0_45 rfl) ?_
  refine V.aldn 0 dX0_fillPool_5 rfl rfl ?_
  refine V.iconst (nI 0) dX0_fillPool_6 (by decide +kernel) ?_
  refine V.pf0_5 dX0_fillPool_7 (fp_X0_55 rfl) ?_
  refine V.iconst (nI 0) dX0_fillPool_10 (by decide +kernel) ?_
  refine V.istn 2 dX0_fillPool_11 rfl (Nat.le_of_ble_eq_true rfl) ?_
  refine loop _ 0 _ rfl (Nat.zero_le _) ((Sm.rf.up (by decide)).up (by decide)) ?_ ?_ ?_
  · rw [up2_at, if_neg (by omega), up2_at, if_pos ⟨rfl, rfl⟩]; rfl
  · intro y hy; rw [up2_at, if_pos ⟨rfl, rfl⟩, btB_0 hy]; simp [Fl]
  · intro q hq; simp [Fl] at hq
theorem c_arrange (hC : CF F f) (hB : FB F) (hp : PlV F) (h1 : f 1 10 = nI n) (hn : n ≤ 20) {x : Int32} (h5 : (Fl x n).length ≤ 5) {r : List Nat} (hr : tr (Fl x n).length (stC F (Fl x n).length (fun i => (Fl x n).getD i 0)) (Fl x n).length (fun _ => false) [] none = some r) {k : Nat} (hk : k < 10) :
    Mt (dp + 13) 0 0 mX0_arrange [.ref 41, .int x, .ref (16 + 2 * k)] (HH f ro rs rw rb m) (fun q h' => ∃ f' ro' rs', q = none ∧ h' = HH f' ro' rs' rw rb m ∧ Sm [41, 42, 43, 44] f f' ∧ (∀ q, q ≠ k → ro' q = ro q ∧ rs' q = rs q) ∧ RowIs F r (ro' k) (rs' k)) := by
  refine Mt.of rfl rfl (Nat.le_of_ble_eq_true rfl) rfl ?_
  generalize hL : Fl x n = L at *
  have hLn : ∀ i, i < L.length → L.getD i 0 < 20 := fun i hi => by have := (Fl_mem.mp (by rw [hL]; exact getD_mem hi)).1; omega
  have hLd : L.Nodup := by rw [← hL]; exact Fl_nd x n
  generalize hQ : (fun (q : Option Value) (h' : List AC) => ∃ f' ro' rs', q = none ∧ h' = HH f' ro' rs' rw rb m ∧ Sm [41, 42, 43, 44] f f' ∧ (∀ q, q ≠ k → ro' q = ro q ∧ rs' q = rs q) ∧ RowIs F r (ro' k) (rs' k)) = Q
  have loop : ∀ (f' : Nat → Nat → Int32), Sm [41, 42, 43, 44] f f' → f' 41 4 = nI L.length → r.length = L.length → (∀ i, i < L.length → f' 44 i = nI (r.getD i 0) ∧ r.getD i 0 < 20) → ∀ (j i : Nat) (ro1 rs1 : Nat → Nat → Int32), L.length - i = j → i ≤ L.length → (∀ q, q ≠ k → ro1 q = ro q ∧ rs1 q = rs q) → ro1 k 1 = nI i → (∀ q, q < i → rs1 k q = nI (r.getD q 0)) → V mX0_arrange (dp + 13) 0 0 24 [some (.ref 41), some (.int x), some (.ref (16 + 2 * k)), some (.int (nI i))] [] (HH f' ro1 rs1 rw rb m) Q := by
    intro f' hS e4 el e44 j
    have hC' := hC.sm hS rfl
    induction j using Nat.strongRecOn with
    | _ j ih =>
      intro i ro1 rs1 hj hi b0 b1 b2
      refine V.ildn 3 dX0_arrange_24 rfl rfl ?_
      refine V.aldn 0 dX0_arrange_25 rfl rfl ?_
      refine V.gf0_4 dX0_arrange_26 f_X0_45 ?_
      refine V.top e4 ?_
      first | refine V.icmp_geN 48 dX0_arrange_29 (by decide) (by omega) (by omega) (fun c29 => ?_) (fun c29 => ?_) | refine V.icmp_ge 48 dX0_arrange_29 (by decide) (fun c29 => ?_) (fun c29 => ?_)
      · refine V.aldn 2 dX0_arrange_48 rfl rfl ?_
        refine V.aldn 0 dX0_arrange_49 rfl rfl ?_
        refine V.gf0_0 dX0_arrange_50 f_X0_21 ?_
        refine V.cVe ((c_measure (dp := dp + 10) hC' hB hp (l := r) hk ⟨by rw [b1, el, show i = L.length by omega], by omega, fun q hq => ⟨b2 q (by omega), (e44 q (by omega)).2⟩⟩ : Mt (dp + 12) 0 0 _ _ _ _)) dX0_arrange_53 k_X0_51 rfl rfl (HH_row hk) (Nat.le_of_ble_eq_true rfl) rfl ?_
        rintro _ _ ⟨ro2, rfl, rfl, g1, g2⟩
        refine V.eqs (st' := []) rfl ?_
        exact V.vreturn dX0_arrange_56 rfl (by rw [← hQ]; exact ⟨f', ro2, rs1, rfl, rfl, hS, fun q hq => ⟨(g1 q hq).trans (b0 q hq).1, (b0 q hq).2⟩, g2⟩)
      · refine V.aldn 2 dX0_arrange_32 rfl rfl ?_
        refine V.aldn 0 dX0_arrange_33 rfl rfl ?_
        refine V.gf0_3 dX0_arrange_34 f_X0_18 ?_
        refine V.ildn 3 dX0_arrange_37 rfl rfl ?_
        refine V.ald_44 dX0_arrange_38 (ix_nI (by omega) (by decide)) ?_
        refine V.top (e44 i (by omega)).1 ?_
        refine V.cVv ((c_append hk b1 (by omega) : Mt (dp + 11 + 1) 0 0 _ _ _ _)) dX0_arrange_39 k_X0_48 rfl rfl (HH_row (by omega)) (Nat.le_of_ble_eq_true rfl) rfl ?_
        first | refine V.iincN dX0_arrange_42 rfl ?_ | refine V.iinc dX0_arrange_42 rfl rfl ?_
        refine V.goto 24 dX0_arrange_45 (by decide) ?_
        refine ih _ (by omega) (i + 1) _ _ rfl (by omega) (fun q hq => by rw [up2_ne hq, up2_ne hq]; exact b0 q hq) (by rw [up2_at, if_pos ⟨rfl, rfl⟩]) (fun q hq => ?_)
        rw [up2_at]
        split
        · rename_i e; rw [e.2]
        · rename_i e; exact b2 q (by omega)
  refine V.aldn 0 dX0_arrange_0 rfl rfl ?_
  refine V.ildn 1 dX0_arrange_1 rfl rfl ?_
  refine V.cVe ((c_fillPool (dp := dp + 10) h1 hn (by rw [hL]; exact h5) : Mt (dp + 12) 0 0 _ _ _ _)) dX0_arrange_2 k_X0_25 rfl rfl rfl (Nat.le_of_ble_eq_true rfl) rfl ?_
  rintro _ _ ⟨f1, rfl, rfl, s1, p4, p5, p42⟩
  rw [hL] at p4 p5 p42
  refine V.eqs (st' := []) rfl ?_
  refine V.aldn 0 dX0_arrange_5 rfl rfl ?_
  refine V.ldc dX0_arrange_6 c_X0_31 ?_
  refine V.pf0_6 dX0_arrange_8 (fp_X0_32 rfl) ?_
  refine V.aldn 0 dX0_arrange_11 rfl rfl ?_
  refine V.iconst (nI 0) dX0_arrange_12 (by decide +kernel) ?_
  refine V.iconst (nI 0) dX0_arrange_13 (by decide +kernel) ?_
  refine V.iconst (nI 0) dX0_arrange_14 (by decide +kernel) ?_
  refine V.cVe ((c_tryEach (F := F) (z := L.length) (P := fun i => L.getD i 0) (ro := ro) (rs := rs) (rw := rw) (rb := rb) (m := m) (dp := dp + (10 - 2 * L.length)) L.length (up2 f1 41 6 2147483647) (fun _ => false) (nI 0) [] 0 none rfl (by omega) ⟨List.nodup_nil, fun i hi => absurd hi List.not_mem_nil⟩ (fun i hi => by simp) (fun i hi => btB_0 (show L.getD i 0 < 32 by have := hLn i hi; omega)) (fun i hi => absurd hi (Nat.not_lt_zero i)) ⟨h5, by rw [up2_at, if_neg (by omega)]; exact p4, fun y hy => by rw [up2_at, if_neg (by omega), p5 y hy]; exact ⟨fun q => mem_getD q, fun ⟨i, q1, q2⟩ => by rw [← q2]; exact getD_mem q1⟩, fun i hi => by rw [up2_ne (by decide)]; exact ⟨p42 i hi, hLn i hi⟩, fun i j hi hj e => nodup_getD hLd hi hj e, (hC.sm s1 rfl).sm (Sm.rf.up (by decide) : Sm [41] f1 _) rfl, hB, hp⟩ (fun i hi => absurd hi (Nat.not_lt_zero i)) ⟨by rw [up2_at, if_pos ⟨rfl, rfl⟩]; show (2147483647 : Int32) = nI 2147483647; decide +kernel, fun r hr => by cases hr⟩ (show 0 < 2147483647 by decide)).dep (show _ = dp + 12 by omega)) dX0_arrange_15 k_X0_36 rfl rfl rfl (Nat.le_of_ble_eq_true rfl) rfl ?_
  rw [hr]
  rintro _ _ ⟨f2, rfl, rfl, g1, g2, g3, g4⟩
  obtain ⟨g5, g6⟩ := g4.2 r rfl
  refine V.eqs (st' := []) rfl ?_
  refine V.aldn 2 dX0_arrange_18 rfl rfl ?_
  refine V.cVv ((c_clear hk : Mt (dp + 11 + 1) 0 0 _ _ _ _)) dX0_arrange_19 k_X0_40 rfl rfl (HH_row (by omega)) (Nat.le_of_ble_eq_true rfl) rfl ?_
  refine V.iconst (nI 0) dX0_arrange_22 (by decide +kernel) ?_
  refine V.istn 3 dX0_arrange_23 rfl (Nat.le_of_ble_eq_true rfl) ?_
  exact loop f2 (((Sm.wk s1 (by simp)).tr (Sm.rf.up (by decide))).tr (Sm.wk g1 (by simp))) (by rw [g2 4 (by decide), up2_at, if_neg (by omega)]; exact p4) g5 g6 _ 0 _ _ rfl (Nat.zero_le _) (fun q hq => ⟨by rw [up2_ne hq], rfl⟩) (by rw [up2_at, if_pos ⟨rfl, rfl⟩]) (fun q hq => absurd hq (Nat.not_lt_zero q))
end CLASS
