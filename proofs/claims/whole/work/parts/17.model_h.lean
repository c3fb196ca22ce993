/-! the reference: a day arranged, a scene put -/
def Pl (n : Nat) (D : Nat → Option Nat) (d : Nat) : List Nat := (List.range n).filter (fun s => decide (D s = some d))
theorem Pl_succ (n : Nat) (D : Nat → Option Nat) (d : Nat) : Pl (n + 1) D d = if D n = some d then Pl n D d ++ [n] else Pl n D d := by
  unfold Pl
  rw [List.range_succ, List.filter_append]
  by_cases h : D n = some d
  · simp [h]
  · simp [h]
theorem Pl_mem {n : Nat} {D : Nat → Option Nat} {d s : Nat} : s ∈ Pl n D d ↔ s < n ∧ D s = some d := by simp [Pl]
theorem Pl_nd (n : Nat) (D : Nat → Option Nat) (d : Nat) : (Pl n D d).Nodup := List.Sublist.nodup List.filter_sublist List.nodup_range
theorem Pl_le {n nd k : Nat} {R : Nat → List Nat} {D : Nat → Option Nat} {d : Nat} (h : DR n nd R D) (hk : k ≤ n) : (Pl k D d).length ≤ (R d).length := by
  refine nd_sub _ _ (Pl_nd k D d) (fun s hs => ?_)
  obtain ⟨h1, h2⟩ := Pl_mem.mp hs
  exact (h.2.1 s d (by omega) h2).2
theorem Pl_len {n nd : Nat} {R : Nat → List Nat} {D : Nat → Option Nat} {d : Nat} (h : DR n nd R D) (hd : d < nd) : (Pl n D d).length = (R d).length := by
  refine Nat.le_antisymm (Pl_le h (Nat.le_refl n)) (nd_sub _ _ (h.2.2.2 d hd) (fun s hs => ?_))
  exact Pl_mem.mpr (h.2.2.1 s d hd hs)
noncomputable def bestO (F : Nat → Nat → Int32) (n nd : Nat) (R : Nat → List Nat) (D : Nat → Option Nat) (d : Nat) : Option (List Nat) :=
  tr (Pl n D d).length (stM F n nd R D d (fun i => (Pl n D d).getD i 0)) (Pl n D d).length (fun _ => false) [] none
theorem nodup_getD {l : List Nat} (h : l.Nodup) {i j : Nat} (hi : i < l.length) (hj : j < l.length) (e : l.getD i 0 = l.getD j 0) : i = j := by
  refine (List.getElem?_inj hi h).mp ?_
  rw [List.getD_eq_getElem?_getD, List.getD_eq_getElem?_getD, List.getElem?_eq_getElem hi, List.getElem?_eq_getElem hj] at e
  rw [List.getElem?_eq_getElem hi, List.getElem?_eq_getElem hj]
  exact congrArg some e
theorem DX.of {n nd : Nat} {R : Nat → List Nat} {D : Nat → Option Nat} {d : Nat} (h : DR n nd R D) (hd : d < nd) (h5 : (R d).length ≤ 5) : DX n nd R D d (Pl n D d).length (fun i => (Pl n D d).getD i 0) := by
  refine ⟨⟨h.1, hd, by rw [Pl_len h hd]; exact h5⟩, fun s a hs ha => ⟨(h.2.1 s a hs ha).1, fun _ => (h.2.1 s a hs ha).2⟩, fun s a ha _ hm => h.2.2.1 s a ha hm, fun a ha _ => h.2.2.2 a ha, fun i hi => Pl_mem.mp (getD_mem hi), fun s hs hds => mem_getD (Pl_mem.mpr ⟨hs, hds⟩), fun i j hi hj e => nodup_getD (Pl_nd n D d) hi hj e⟩
section MODEL
variable {f ro rs : Nat → Nat → Int32} {rw rb : Nat → Nat} {m : Nat → Nat → Int32} {dp : Nat} {F : Nat → Nat → Int32} {n nd : Nat} {R : Nat → List Nat} {D : Nat → Option Nat}
theorem t_arranges (hB : FB F) (hM : MS F n nd R D m) {d : Nat} (hd : d < nd) : Mt (dp + 11) 0 0 mX7_arranges [.ref 45, .int (nI d)] (HH f ro rs rw rb m) (fun r h' => ∃ m', r = some (.int (bI (bestO F n nd R D d).isSome)) ∧ h' = HH f ro rs rw rb m' ∧ Sm [17, 18, 19, 20] m m' ∧ (∀ j, (j < 5 * d ∨ 5 * d + 5 ≤ j) → m' 17 j = m 17 j) ∧ ∀ r, bestO F n nd R D d = some r → rowM m' d r) := by
  refine Mt.of rfl rfl (Nat.le_of_ble_eq_true rfl) rfl ?_
  obtain ⟨⟨hnd, h13, hF, hp, hR⟩, hD, h1, h8⟩ := hM
  have hn20 := hD.1
  obtain ⟨hz, hz5, hr⟩ := hR d hd
  have hX := DX.of hD hd hz5
  have hlen := Pl_len hD hd
  generalize hb : bestO F n nd R D d = b
  unfold bestO at hb
  generalize hQ : (fun (r : Option Value) (h' : List AC) => ∃ m', r = some (.int (bI b.isSome)) ∧ h' = HH f ro rs rw rb m' ∧ Sm [17, 18, 19, 20] m m' ∧ (∀ j, (j < 5 * d ∨ 5 * d + 5 ≤ j) → m' 17 j = m 17 j) ∧ ∀ r, b = some r → rowM m' d r) = Q
  have tail : ∀ (o2 o3 : Option Value) (m' : Nat → Nat → Int32), Sm [17, 18, 19, 20] m m' → (∀ j, (j < 5 * d ∨ 5 * d + 5 ≤ j) → m' 17 j = m 17 j) → BR F (Pl n D d).length m' b → (∀ r, b = some r → rowM m' d r) → V mX7_arranges (dp + 11) 0 0 94 [some (.ref 45), some (.int (nI d)), o2, o3] [] (HH f ro rs rw rb m') Q := by
    intro o2 o3 m' hS h17 hBR hrow
    cases hbb : b with
    | none =>
      rw [hbb] at hBR
      refine V.aldn 0 dX7_arranges_94 rfl rfl ?_
      refine V.gf7_20 dX7_arranges_95 f_X7_129 ?_
      refine V.top (y := 100000) hBR.1 ?_
      refine V.ldc dX7_arranges_98 c_X7_136 ?_
      refine V.icmp_ge 107 dX7_arranges_100 (by decide) (fun c100 => ?_) (fun c100 => ?_)
      · refine V.iconst (nI 0) dX7_arranges_107 (by decide +kernel) ?_
        exact V.ireturn dX7_arranges_108 rfl (by first | rfl | decide +kernel) (by rw [← hQ]; exact ⟨m', by rw [hbb]; rfl, rfl, hS, h17, hrow⟩)
      · exact absurd (Int32.le_refl _) c100
    | some r =>
      rw [hbb] at hBR
      have hr5 := hrow r hbb
      obtain ⟨t, ht, et⟩ := mins_bd hB hp hr5.2.1 (fun k hk => (hr5.2.2 k hk).2)
      refine V.aldn 0 dX7_arranges_94 rfl rfl ?_
      refine V.gf7_20 dX7_arranges_95 f_X7_129 ?_
      refine V.top (y := nI t) (hBR.1.trans et) ?_
      refine V.ldc dX7_arranges_98 c_X7_136 ?_
      refine V.top e100k ?_
      first | refine V.icmp_geN 107 dX7_arranges_100 (by decide) (by omega) (by omega) (fun c100 => ?_) (fun c100 => ?_) | refine V.icmp_ge 107 dX7_arranges_100 (by decide) (fun c100 => ?_) (fun c100 => ?_)
      · exact absurd c100 (by omega)
      · refine V.iconst (nI 1) dX7_arranges_103 (by decide +kernel) ?_
        refine V.goto 108 dX7_arranges_104 (by decide) ?_
        exact V.ireturn dX7_arranges_108 rfl (by first | rfl | decide +kernel) (by rw [← hQ]; exact ⟨m', by rw [hbb]; rfl, rfl, hS, h17, hrow⟩)
  have loop2 : ∀ (j k : Nat) (o2 : Option Value) (m' : Nat → Nat → Int32), (R d).length - k = j → k ≤ (R d).length → Sm [17, 18, 19, 20] m m' → (∀ j, (j < 5 * d ∨ 5 * d + 5 ≤ j) → m' 17 j = m 17 j) → BR F (Pl n D d).length m' b → (∀ r, b = some r → ∀ i, i < k → m' 17 (5 * d + i) = nI (r.getD i 0)) → V mX7_arranges (dp + 11) 0 0 53 [some (.ref 45), some (.int (nI d)), o2, some (.int (nI k))] [] (HH f ro rs rw rb m') Q := by
    intro j
    induction j using Nat.strongRecOn with
    | _ j ih =>
      intro k o2 m' hj hk hS h17 hBR hcp
      have hrow : k = (R d).length → ∀ r, b = some r → rowM m' d r := by
        intro hkk r hr
        obtain ⟨q1, q2⟩ := hBR.2 r hr
        exact ⟨by rw [q1, hlen, hS 16 (by decide)]; exact hz, by omega, fun i hi => ⟨hcp r hr i (by omega), (q2 i (by omega)).2⟩⟩
      cases hbb : b with
      | none =>
        have hBR' := hBR
        rw [hbb] at hBR'
        refine V.ildn 3 dX7_arranges_53 rfl rfl ?_
        refine V.aldn 0 dX7_arranges_54 rfl rfl ?_
        refine V.gf7_16 dX7_arranges_55 f_X7_50 ?_
        refine V.ildn 1 dX7_arranges_58 rfl rfl ?_
        refine V.ald_59 dX7_arranges_59 (ix_nI (by omega) (by decide)) ?_
        refine V.top (y := nI (R d).length) (by rw [hS 16 (by decide)]; exact hz) ?_
        first | refine V.icmp_geN 94 dX7_arranges_60 (by decide) (by omega) (by omega) (fun c60 => ?_) (fun c60 => ?_) | refine V.icmp_ge 94 dX7_arranges_60 (by decide) (fun c60 => ?_) (fun c60 => ?_)
        · exact tail _ _ m' hS h17 hBR (fun r hr => by rw [hbb] at hr; cases hr)
        · refine V.aldn 0 dX7_arranges_63 rfl rfl ?_
          refine V.gf7_20 dX7_arranges_64 f_X7_129 ?_
          refine V.top (y := 100000) hBR'.1 ?_
          refine V.ldc dX7_arranges_67 c_X7_136 ?_
          refine V.icmp_ge 94 dX7_arranges_69 (by decide) (fun c69 => ?_) (fun c69 => ?_)
          · exact tail _ _ m' hS h17 hBR (fun r hr => by rw [hbb] at hr; cases hr)
          · exact absurd (Int32.le_refl _) c69
      | some r =>
        have hBR' := hBR
        rw [hbb] at hBR'
        obtain ⟨q1, q2⟩ := hBR'.2 r rfl
        obtain ⟨t, ht, et⟩ := mins_bd hB hp (l := r) (by omega) (fun k hk => (q2 k (by omega)).2)
        refine V.ildn 3 dX7_arranges_53 rfl rfl ?_
        refine V.aldn 0 dX7_arranges_54 rfl rfl ?_
        refine V.gf7_16 dX7_arranges_55 f_X7_50 ?_
        refine V.ildn 1 dX7_arranges_58 rfl rfl ?_
        refine V.ald_59 dX7_arranges_59 (ix_nI (by omega) (by decide)) ?_
        refine V.top (y := nI (R d).length) (by rw [hS 16 (by decide)]; exact hz) ?_
        first | refine V.icmp_geN 94 dX7_arranges_60 (by decide) (by omega) (by omega) (fun c60 => ?_) (fun c60 => ?_) | refine V.icmp_ge 94 dX7_arranges_60 (by decide) (fun c60 => ?_) (fun c60 => ?_)
        · exact tail _ _ m' hS h17 hBR (hrow (by omega))
        · refine V.aldn 0 dX7_arranges_63 rfl rfl ?_
          refine V.gf7_20 dX7_arranges_64 f_X7_129 ?_
          refine V.top (y := nI t) (hBR'.1.trans et) ?_
          refine V.ldc dX7_arranges_67 c_X7_136 ?_
          refine V.top e100k ?_
          first | refine V.icmp_geN 94 dX7_arranges_69 (by decide) (by omega) (by omega) (fun c69 => ?_) (fun c69 => ?_) | refine V.icmp_ge 94 dX7_arranges_69 (by decide) (fun c69 => ?_) (fun c69 => ?_)
          · exact absurd c69 (by omega)
          · refine V.aldn 0 dX7_arranges_72 rfl rfl ?_
            refine V.gf7_17 dX7_arranges_73 f_X7_53 ?_
            refine V.iconst (nI 5) dX7_arranges_76 (by decide +kernel) ?_
            refine V.ildn 1 dX7_arranges_77 rfl rfl ?_
            first | refine V.imulN dX7_arranges_78 ?_ | refine V.imul dX7_arranges_78 ?_
            refine V.ildn 3 dX7_arranges_79 rfl rfl ?_
            first | refine V.iaddN dX7_arranges_80 ?_ | refine V.iadd dX7_arranges_80 ?_
            refine V.aldn 0 dX7_arranges_81 rfl rfl ?_
            refine V.gf7_19 dX7_arranges_82 f_X7_59 ?_
            refine V.ildn 3 dX7_arranges_85 rfl rfl ?_
            refine V.ald_62 dX7_arranges_86 (ix_nI (by omega) (by decide)) ?_
            refine V.top (q2 k (by omega)).1 ?_
            refine V.ast_60 dX7_arranges_87 (ix_nI (by omega) (by decide)) ?_
            first | refine V.iincN dX7_arranges_88 rfl ?_ | refine V.iinc dX7_arranges_88 rfl rfl ?_
            refine V.goto 53 dX7_arranges_91 (by decide) ?_
            refine ih _ (by omega) (k + 1) _ _ rfl (by omega) (hS.up (by decide)) (fun j hj => by rw [up2_at, if_neg (by omega)]; exact h17 j hj) ⟨by rw [up2_at, if_neg (by omega)]; exact hBR.1, fun r2 hr2 => ⟨(hBR.2 r2 hr2).1, fun i hi => by rw [up2_at, if_neg (by omega)]; exact (hBR.2 r2 hr2).2 i hi⟩⟩ (fun r2 hr2 i hi => ?_)
            rw [hbb] at hr2
            cases hr2
            rw [up2_at]
            split
            · rename_i e; rw [show i = k by omega]
            · rename_i e; exact hcp r hbb i (by omega)
  have loop1 : ∀ (j k : Nat) (m' : Nat → Nat → Int32), n - k = j → k ≤ n → Sm [17, 18, 19, 20] m m' → m' 17 = m 17 → (∀ i, i < (Pl k D d).length → m' 18 i = nI ((Pl k D d).getD i 0)) → V mX7_arranges (dp + 11) 0 0 4 [some (.ref 45), some (.int (nI d)), some (.int (nI (Pl k D d).length)), some (.int (nI k))] [] (HH f ro rs rw rb m') Q := by
    intro j
    induction j using Nat.strongRecOn with
    | _ j ih =>
      intro k m' hj hk hS h17 h18
      have hle := Pl_le (d := d) hD hk
      have nxt : k < n → ∀ m2, Sm [17, 18, 19, 20] m m2 → m2 17 = m 17 → (∀ i, i < (Pl (k + 1) D d).length → m2 18 i = nI ((Pl (k + 1) D d).getD i 0)) → V mX7_arranges (dp + 11) 0 0 32 [some (.ref 45), some (.int (nI d)), some (.int (nI (Pl (k + 1) D d).length)), some (.int (nI k))] [] (HH f ro rs rw rb m2) Q := by
        intro hkn m2 a1 a2 a3
        first | refine V.iincN dX7_arranges_32 rfl ?_ | refine V.iinc dX7_arranges_32 rfl rfl ?_
        refine V.goto 4 dX7_arranges_35 (by decide) ?_
        exact ih _ (by omega) (k + 1) m2 rfl (by omega) a1 a2 a3
      have hdk : k < n → ∀ e, D k = some e → e < 8 := fun h e he => by have := (hD.2.1 k e h he).1; omega
      refine V.ildn 3 dX7_arranges_4 rfl rfl ?_
      refine V.aldn 0 dX7_arranges_5 rfl rfl ?_
      refine V.gf7_1 dX7_arranges_6 f_X7_84 ?_
      refine V.top (y := nI n) (by rw [hS 1 (by decide)]; exact h1) ?_
      first | refine V.icmp_geN 38 dX7_arranges_9 (by decide) (by omega) (by omega) (fun c9 => ?_) (fun c9 => ?_) | refine V.icmp_ge 38 dX7_arranges_9 (by decide) (fun c9 => ?_) (fun c9 => ?_)
      · obtain rfl : k = n := by omega
        refine V.aldn 0 dX7_arranges_38 rfl rfl ?_
        refine V.ldc dX7_arranges_39 c_X7_136 ?_
        refine V.eqs rfl ?_
        refine V.pf7_20 dX7_arranges_41 (fp_X7_129 rfl) ?_
        refine V.aldn 0 dX7_arranges_44 rfl rfl ?_
        refine V.ildn 1 dX7_arranges_45 rfl rfl ?_
        refine V.iconst (nI 0) dX7_arranges_46 (by decide +kernel) ?_
        refine V.iconst (nI 0) dX7_arranges_47 (by decide +kernel) ?_
        refine V.cVe (t_tries (F := F) hX (Pl k D d).length (up2 m' 20 0 100000) (fun _ => false) (nI 0) [] 0 none rfl (by omega) ⟨List.nodup_nil, fun i hi => absurd hi List.not_mem_nil⟩ (fun i hi => by simp) (fun i hi => btB_0 (by omega)) ?_ (fun i hi => absurd hi (Nat.not_lt_zero i)) ⟨by rw [up2_at, if_pos ⟨rfl, rfl⟩]; rfl, fun r hr => by cases hr⟩ : Mt (dp + (5 - (Pl k D d).length) + (Pl k D d).length + 5) 0 0 _ _ _ _) dX7_arranges_48 k_X7_132 rfl rfl rfl (Nat.le_of_ble_eq_true rfl) (by omega) ?_
        · refine ⟨hnd, by rw [up2_at, if_neg (by omega), hS 13 (by decide)]; exact h13, film_congr (hS.up (by decide)) (isF_no (by decide)) hF, hp, fun a ha _ => rowM_congr (by rw [up2_at, if_neg (by omega), hS 16 (by decide)]) (fun i hi => by rw [up2_at, if_neg (by omega), h17]) (hR a ha), ⟨by rw [up2_at, if_neg (by omega), hS 1 (by decide)]; exact h1, fun s hs => by rw [up2_at, if_neg (by omega), hS 8 (by decide)]; exact h8 s hs⟩, by rw [up2_at, if_neg (by omega), hS 16 (by decide), hlen]; exact hz, fun i hi => by rw [up2_at, if_neg (by omega)]; exact h18 i hi⟩
        rintro _ _ ⟨m2, rfl, rfl, hS2, h172, hB2⟩
        refine V.eqs (st' := []) rfl ?_
        refine V.iconst (nI 0) dX7_arranges_51 (by decide +kernel) ?_
        refine V.istn 3 dX7_arranges_52 rfl (Nat.le_of_ble_eq_true rfl) ?_
        exact loop2 _ 0 _ m2 rfl (Nat.zero_le _) ((hS.up (by decide)).tr (hS2.wk (by decide))) (fun j hj => by rw [h172 j (by omega), up2_at, if_neg (by omega), h17]) (by rw [← hb]; exact hB2) (fun r hr i hi => absurd hi (Nat.not_lt_zero i))
      · refine V.aldn 0 dX7_arranges_12 rfl rfl ?_
        refine V.gf7_8 dX7_arranges_13 f_X7_29 ?_
        refine V.ildn 3 dX7_arranges_16 rfl rfl ?_
        refine V.ald_52 dX7_arranges_17 (ix_nI (by omega) (by decide)) ?_
        refine V.top (y := dI (D k)) (by rw [hS 8 (by decide)]; exact h8 k c9) ?_
        refine V.ildn 1 dX7_arranges_18 rfl rfl ?_
        refine V.icmp_ne 32 dX7_arranges_19 (by decide) (fun c19 => ?_) (fun c19 => ?_)
        · have hne : ¬ D k = some d := fun q => c19 (by rw [q]; rfl)
          have e := Pl_succ k D d
          rw [if_neg hne] at e
          have := nxt c9 m' hS h17 (by rw [e]; exact h18)
          rw [e] at this
          exact this
        · have hyes : D k = some d := by cases h : D k with | none => rw [h] at c19; exact absurd c19.symm (nI_m1 (by omega)) | some e => rw [h] at c19; have := (nI_eq (by have := hdk c9 e h; omega) (by omega)).mp c19; rw [this]
          have e := Pl_succ k D d
          rw [if_pos hyes] at e
          have el : (Pl (k + 1) D d).length = (Pl k D d).length + 1 := by rw [e, List.length_append]; rfl
          refine V.aldn 0 dX7_arranges_22 rfl rfl ?_
          refine V.gf7_18 dX7_arranges_23 f_X7_56 ?_
          refine V.ildn 2 dX7_arranges_26 rfl rfl ?_
          refine V.ildn 3 dX7_arranges_27 rfl rfl ?_
          refine V.ast_61 dX7_arranges_28 (ix_nI (by omega) (by decide)) ?_
          first | refine V.iincN dX7_arranges_29 rfl ?_ | refine V.iinc dX7_arranges_29 rfl rfl ?_
          have h9 : ∀ i, i < (Pl (k + 1) D d).length → up2 m' 18 (Pl k D d).length (nI k) 18 i = nI ((Pl (k + 1) D d).getD i 0) := fun i hi => (by rw [up2_at, e]; by_cases q : i = (Pl k D d).length; rw [if_pos ⟨rfl, q⟩, q, List.getD_eq_getElem?_getD, List.getElem?_append_right (Nat.le_refl _), Nat.sub_self]; rfl; rw [if_neg (fun z => q z.2), List.getD_eq_getElem?_getD, List.getElem?_append_left (by omega), ← List.getD_eq_getElem?_getD]; exact h18 i (by omega))
          have := nxt c9 (up2 m' 18 (Pl k D d).length (nI k)) (hS.up (by decide)) ((up2_ne (by decide)).trans h17) h9
          rw [el] at this
          exact this
  refine V.iconst (nI 0) dX7_arranges_0 (by decide +kernel) ?_
  refine V.istn 2 dX7_arranges_1 rfl (Nat.le_of_ble_eq_true rfl) ?_
  refine V.iconst (nI 0) dX7_arranges_2 (by decide +kernel) ?_
  refine V.istn 3 dX7_arranges_3 rfl (Nat.le_of_ble_eq_true rfl) ?_
  exact loop1 _ 0 m rfl (Nat.zero_le _) Sm.rf rfl (fun i hi => absurd hi (Nat.not_lt_zero i))
end MODEL
