/-! the reference: moves, trades, bettering -/
theorem MS.back {F : Nat → Nat → Int32} {n nd : Nat} {R : Nat → List Nat} {D : Nat → Option Nat} {m m' : Nat → Nat → Int32} (h : MS F n nd R D m) (hS : Sm [8, 16, 17, 18, 19, 20, 21, 22, 23, 24, 25, 26, 27] m m') (h17 : ∀ j, j < 40 → m' 17 j = m 17 j) (h16 : ∀ j, j < 8 → m' 16 j = m 16 j) (h8 : ∀ j, j < 20 → m' 8 j = m 8 j) : MS F n nd R D m' := by
  obtain ⟨⟨hnd, h13, hF, hp, hR⟩, hD, k1, k8⟩ := h
  exact ⟨⟨hnd, (congrFun (hS 13 (by decide)) 0).trans h13, film_congr hS (isF_no (by decide)) hF, hp, fun a ha => rowM_congr (h16 a (by omega)) (fun i hi => h17 _ (by omega)) (hR a ha)⟩, hD, (congrFun (hS 1 (by decide)) 0).trans k1, fun s hs => (h8 s (by have := hD.1; omega)).trans (k8 s hs)⟩
noncomputable def mvO (F : Nat → Nat → Int32) (n nd : Nat) (R : Nat → List Nat) (D : Nat → Option Nat) (s e d : Nat) : Option (List Nat) := putO F n nd (upR R e ((R e).erase s)) (upD D s none) s d
noncomputable def mvR (F : Nat → Nat → Int32) (n nd : Nat) (R : Nat → List Nat) (D : Nat → Option Nat) (s e d : Nat) : Nat → List Nat := putR (upR R e ((R e).erase s)) d (mvO F n nd R D s e d)
noncomputable def mvD (F : Nat → Nat → Int32) (n nd : Nat) (R : Nat → List Nat) (D : Nat → Option Nat) (s e d : Nat) : Nat → Option Nat := putD (upD D s none) s d (mvO F n nd R D s e d)
/-- scene s, in day e, may well be moved to day d -/
def GMe (F : Nat → Nat → Int32) (n nd : Nat) (R : Nat → List Nat) (D : Nat → Option Nat) (s e d : Nat) : Prop := (mvO F n nd R D s e d).isSome = true ∧ costC F nd (mvR F n nd R D s e d) < costC F nd R
def GM (F : Nat → Nat → Int32) (n nd : Nat) (R : Nat → List Nat) (D : Nat → Option Nat) (s d : Nat) : Prop := ∃ e, D s = some e ∧ d ≠ e ∧ GMe F n nd R D s e d
def GT (F : Nat → Nat → Int32) (n nd : Nat) (R : Nat → List Nat) (D : Nat → Option Nat) (a b : Nat) : Prop := KP F n nd (fun d => R (sw a b d)) (fun s => (D s).map (sw a b)) ∧ costC F nd (fun d => R (sw a b d)) < costC F nd R
/-- one bettering, from R, D to R', D', or none -/
def BS (F : Nat → Nat → Int32) (n nd : Nat) (R : Nat → List Nat) (D : Nat → Option Nat) (res : Bool) (R' : Nat → List Nat) (D' : Nat → Option Nat) : Prop :=
  (∃ s d e, s < n ∧ d < nd ∧ D s = some e ∧ d ≠ e ∧ GMe F n nd R D s e d ∧ (∀ s' d', s' < n → d' < nd → (s' < s ∨ s' = s ∧ d' < d) → ¬ GM F n nd R D s' d') ∧ res = true ∧ R' = mvR F n nd R D s e d ∧ D' = mvD F n nd R D s e d) ∨
  ((∀ s' d', s' < n → d' < nd → ¬ GM F n nd R D s' d') ∧ ((∃ a b, a < b ∧ b < nd ∧ GT F n nd R D a b ∧ (∀ a' b', a' < b' → b' < nd → (a' < a ∨ a' = a ∧ b' < b) → ¬ GT F n nd R D a' b') ∧ res = true ∧ R' = (fun d => R (sw a b d)) ∧ D' = (fun s => (D s).map (sw a b))) ∨
    ((∀ a' b', a' < b' → b' < nd → ¬ GT F n nd R D a' b') ∧ res = false ∧ R' = R ∧ D' = D)))
def BIt (F : Nat → Nat → Int32) (n nd : Nat) : Nat → (Nat → List Nat) → (Nat → Option Nat) → Nat → (Nat → List Nat) → (Nat → Option Nat) → Prop
  | 0, R, D, c, R', D' => c = 0 ∧ R' = R ∧ D' = D
  | k + 1, R, D, c, R', D' => ∃ res R1 D1, BS F n nd R D res R1 D1 ∧ ((res = true ∧ ∃ c', c = c' + 1 ∧ BIt F n nd k R1 D1 c' R' D') ∨ (res = false ∧ c = 0 ∧ R' = R1 ∧ D' = D1))
theorem putO_kp {F : Nat → Nat → Int32} {n nd : Nat} {R : Nat → List Nat} {D : Nat → Option Nat} {s d : Nat} (h : (putO F n nd R D s d).isSome = true) : KP F n nd (putR R d (putO F n nd R D s d)) (putD D s d (putO F n nd R D s d)) := by
  obtain ⟨r, hr⟩ := Option.isSome_iff_exists.mp h
  rw [hr]
  unfold putO at hr
  split at hr
  · cases hr
  · exact (bestO_some hr).choose_spec.2.2.2
section MODEL
variable {f ro rs : Nat → Nat → Int32} {rw rb : Nat → Nat} {m : Nat → Nat → Int32} {dp : Nat} {F : Nat → Nat → Int32} {n nd : Nat} {R : Nat → List Nat} {D : Nat → Option Nat}
theorem t_movesWell (hB : FB F) (hM : MS F n nd R D m) {s d e : Nat} (hs : s < n) (hds : D s = some e) (hd : d < nd) : Mt (dp + 13) 0 0 mX7_movesWell [.ref 45, .int (nI s), .int (nI d), .int (costC F nd R)] (HH f ro rs rw rb m) (fun r h' => ∃ m', r = some (.int (bI (dB (GMe F n nd R D s e d)))) ∧ h' = HH f ro rs rw rb m' ∧ ((GMe F n nd R D s e d ∧ MS F n nd (mvR F n nd R D s e d) (mvD F n nd R D s e d) m') ∨ (¬ GMe F n nd R D s e d ∧ MS F n nd R D m'))) := by
  refine Mt.of rfl rfl (Nat.le_of_ble_eq_true rfl) rfl ?_
  generalize hQ : (fun (r : Option Value) (h' : List AC) => ∃ m', r = some (.int (bI (dB (GMe F n nd R D s e d)))) ∧ h' = HH f ro rs rw rb m' ∧ ((GMe F n nd R D s e d ∧ MS F n nd (mvR F n nd R D s e d) (mvD F n nd R D s e d) m') ∨ (¬ GMe F n nd R D s e d ∧ MS F n nd R D m'))) = Q
  refine V.aldn 0 dX7_movesWell_0 rfl rfl ?_
  refine V.cVe (t_keepAll (dp := dp + 11)) dX7_movesWell_1 k_X7_140 rfl rfl rfl (Nat.le_of_ble_eq_true rfl) rfl ?_
  rintro _ _ ⟨m1, rfl, rfl, hS1, a17, a16, a8⟩
  refine V.eqs (st' := []) rfl ?_
  have hM1 : MS F n nd R D m1 := hM.back (hS1.wk (by decide)) (fun j _ => congrFun (hS1 17 (by decide)) j) (fun j _ => congrFun (hS1 16 (by decide)) j) (fun j _ => congrFun (hS1 8 (by decide)) j)
  refine V.aldn 0 dX7_movesWell_4 rfl rfl ?_
  refine V.ildn 1 dX7_movesWell_5 rfl rfl ?_
  refine V.cVe (t_takes (dp := dp + 10) hM1 hs hds) dX7_movesWell_6 k_X7_152 rfl rfl rfl (Nat.le_of_ble_eq_true rfl) rfl ?_
  rintro _ _ ⟨m2, rfl, rfl, hS2, hM2⟩
  refine V.eqs (st' := []) rfl ?_
  have bk : ¬ GMe F n nd R D s e d → ∀ m3, Sm [8, 16, 17, 18, 19, 20, 21] m2 m3 → V mX7_movesWell (dp + 13) 0 0 35 [some (.ref 45), some (.int (nI s)), some (.int (nI d)), some (.int (costC F nd R))] [] (HH f ro rs rw rb m3) Q := by
    intro hno m3 hS3
    refine V.aldn 0 dX7_movesWell_35 rfl rfl ?_
    refine V.cVe (t_backAll (dp := dp + 11)) dX7_movesWell_36 k_X7_146 rfl rfl rfl (Nat.le_of_ble_eq_true rfl) rfl ?_
    rintro _ _ ⟨m4, rfl, rfl, hS4, b17, b16, b8⟩
    refine V.eqs (st' := []) rfl ?_
    refine V.iconst (nI 0) dX7_movesWell_39 (by decide +kernel) ?_
    exact V.ireturn dX7_movesWell_40 rfl (by first | rfl | decide +kernel) (by rw [← hQ, dB_f hno]; exact ⟨m4, rfl, rfl, Or.inr ⟨hno, hM.back ((((hS1.wk (by decide)).tr (hS2.wk (by decide))).tr (hS3.wk (by decide))).tr (hS4.wk (by decide))) (fun j hj => by rw [b17 j hj, hS3 22 (by decide), hS2 22 (by decide)]; exact a17 j hj) (fun j hj => by rw [b16 j hj, hS3 23 (by decide), hS2 23 (by decide)]; exact a16 j hj) (fun j hj => by rw [b8 j hj, hS3 24 (by decide), hS2 24 (by decide)]; exact a8 j hj)⟩⟩)
  refine V.aldn 0 dX7_movesWell_9 rfl rfl ?_
  refine V.ildn 1 dX7_movesWell_10 rfl rfl ?_
  refine V.ildn 2 dX7_movesWell_11 rfl rfl ?_
  refine V.cVe (t_puts (dp := dp) hB hM2 hs (upD_s D s none) hd) dX7_movesWell_12 k_X7_143 rfl rfl rfl (Nat.le_of_ble_eq_true rfl) rfl ?_
  rintro _ _ ⟨m3, rfl, rfl, hS3, hM3⟩
  refine V.eqs (st' := [.int (bI (mvO F n nd R D s e d).isSome)]) rfl ?_
  have hM3 : MS F n nd (mvR F n nd R D s e d) (mvD F n nd R D s e d) m3 := hM3
  first | refine V.if_eqB 35 dX7_movesWell_15 (by decide) (fun c15 => ?_) (fun c15 => ?_) | refine V.if_eqN 35 dX7_movesWell_15 (by decide) (by omega) (fun c15 => ?_) (fun c15 => ?_) | refine V.if_eq 35 dX7_movesWell_15 (by decide) (fun c15 => ?_) (fun c15 => ?_)
  · exact bk (fun q => by have := q.1; rw [c15] at this; cases this) m3 hS3
  · refine V.aldn 0 dX7_movesWell_18 rfl rfl ?_
    refine V.cVi ((t_keeps hM3.1 hM3.2.1 hM3.2.2 : Mt (dp + 9 + 3) 0 0 _ _ _ _)) dX7_movesWell_19 k_X7_94 rfl rfl rfl (Nat.le_of_ble_eq_true rfl) rfl ?_
    first | refine V.if_eqB 35 dX7_movesWell_22 (by decide) (fun c22 => ?_) (fun c22 => ?_) | refine V.if_eqN 35 dX7_movesWell_22 (by decide) (by omega) (fun c22 => ?_) (fun c22 => ?_) | refine V.if_eq 35 dX7_movesWell_22 (by decide) (fun c22 => ?_) (fun c22 => ?_)
    · exact absurd (putO_kp c15) (of_dBf c22)
    · refine V.aldn 0 dX7_movesWell_25 rfl rfl ?_
      refine V.cVi ((t_costAll hM3.1 : Mt (dp + 7 + 5) 0 0 _ _ _ _)) dX7_movesWell_26 k_X7_160 rfl rfl rfl (Nat.le_of_ble_eq_true rfl) rfl ?_
      refine V.ildn 3 dX7_movesWell_29 rfl rfl ?_
      refine V.icmp_ge 35 dX7_movesWell_30 (by decide) (fun c30 => ?_) (fun c30 => ?_)
      · exact bk (fun q => absurd c30 (Int32.not_le.mpr q.2)) m3 hS3
      · refine V.iconst (nI 1) dX7_movesWell_33 (by decide +kernel) ?_
        exact V.ireturn dX7_movesWell_34 rfl (by first | rfl | decide +kernel) (by rw [← hQ]; have hg : GMe F n nd R D s e d := ⟨c15, Int32.not_le.mp c30⟩; rw [dB_t hg]; exact ⟨m3, rfl, rfl, Or.inl ⟨hg, hM3⟩⟩)
theorem t_betters (hB : FB F) (hM : MS F n nd R D m) : Mt (dp + 14) 0 0 mX7_betters [.ref 45] (HH f ro rs rw rb m) (fun r h' => ∃ m' res R' D', r = some (.int (bI res)) ∧ h' = HH f ro rs rw rb m' ∧ BS F n nd R D res R' D' ∧ MS F n nd R' D' m') := by
  refine Mt.of rfl rfl (Nat.le_of_ble_eq_true rfl) rfl ?_
  generalize hQ : (fun (r : Option Value) (h' : List AC) => ∃ m' res R' D', r = some (.int (bI res)) ∧ h' = HH f ro rs rw rb m' ∧ BS F n nd R D res R' D' ∧ MS F n nd R' D' m') = Q
  have hnd := hM.1.1
  have hn20 := hM.2.1.1
  have tloop : (∀ s' d', s' < n → d' < nd → ¬ GM F n nd R D s' d') → ∀ (j a : Nat) (m' : Nat → Nat → Int32) (o3 : Option Value), nd - a = j → a ≤ nd → MS F n nd R D m' → (∀ a' b', a' < b' → b' < nd → a' < a → ¬ GT F n nd R D a' b') → V mX7_betters (dp + 14) 0 0 71 [some (.ref 45), some (.int (costC F nd R)), some (.int (nI a)), o3] [] (HH f ro rs rw rb m') Q := by
    intro hnom j
    induction j using Nat.strongRecOn with
    | _ j ih =>
      intro a m' o3 hj ha hM' hno
      have inner : a < nd → ∀ (i b : Nat) (m' : Nat → Nat → Int32), nd - b = i → a < b → b ≤ nd → MS F n nd R D m' → (∀ a' b', a' < b' → b' < nd → (a' < a ∨ a' = a ∧ b' < b) → ¬ GT F n nd R D a' b') → V mX7_betters (dp + 14) 0 0 83 [some (.ref 45), some (.int (costC F nd R)), some (.int (nI a)), some (.int (nI b))] [] (HH f ro rs rw rb m') Q := by
        intro hand i
        induction i using Nat.strongRecOn with
        | _ i ih2 =>
          intro b m' hi hab hb hM' hno
          have bk : b < nd → ¬ GT F n nd R D a b → ∀ m2, MS F n nd (fun d => R (sw a b d)) (fun s => (D s).map (sw a b)) m2 → V mX7_betters (dp + 14) 0 0 114 [some (.ref 45), some (.int (costC F nd R)), some (.int (nI a)), some (.int (nI b))] [] (HH f ro rs rw rb m2) Q := by
            intro hbn hng m2 hM2
            refine V.aldn 0 dX7_betters_114 rfl rfl ?_
            refine V.ildn 2 dX7_betters_115 rfl rfl ?_
            refine V.ildn 3 dX7_betters_116 rfl rfl ?_
            refine V.cVe (t_trades (dp := dp + 12) hM2 hand hbn (by omega)) dX7_betters_117 k_X7_156 rfl rfl rfl (Nat.le_of_ble_eq_true rfl) rfl ?_
            rintro _ _ ⟨m3, rfl, rfl, hS3, hM3⟩
            refine V.eqs (st' := []) rfl ?_
            have e1 : (fun d => R (sw a b (sw a b d))) = R := funext (fun d => by rw [sw_sw])
            have e2 : (fun s => ((D s).map (sw a b)).map (sw a b)) = D := funext (fun s => by cases D s with | none => rfl | some x => show some (sw a b (sw a b x)) = some x; rw [sw_sw])
            have hM3 : MS F n nd (fun d => R (sw a b (sw a b d))) (fun s => ((D s).map (sw a b)).map (sw a b)) m3 := hM3
            rw [e1, e2] at hM3
            first | refine V.iincN dX7_betters_120 rfl ?_ | refine V.iinc dX7_betters_120 rfl rfl ?_
            refine V.goto 83 dX7_betters_123 (by decide) ?_
            exact ih2 _ (by omega) (b + 1) m3 rfl (by omega) (by omega) hM3 (fun a' b' h1 h2 h3 => by by_cases q : a' = a ∧ b' = b; rw [q.1, q.2]; exact hng; exact hno a' b' h1 h2 (by omega))
          refine V.ildn 3 dX7_betters_83 rfl rfl ?_
          refine V.aldn 0 dX7_betters_84 rfl rfl ?_
          refine V.gf7_13 dX7_betters_85 f_X7_91 ?_
          refine V.top hM'.1.2.1 ?_
          first | refine V.icmp_geN 126 dX7_betters_88 (by decide) (by omega) (by omega) (fun c88 => ?_) (fun c88 => ?_) | refine V.icmp_ge 126 dX7_betters_88 (by decide) (fun c88 => ?_) (fun c88 => ?_)
          · refine V.iincN dX7_betters_126 rfl ?_
            refine V.goto 71 dX7_betters_129 (by decide) ?_
            exact ih _ (by omega) (a + 1) m' _ rfl (by omega) hM' (fun a' b' h1 h2 h3 => hno a' b' h1 h2 (by omega))
          · refine V.aldn 0 dX7_betters_91 rfl rfl ?_
            refine V.ildn 2 dX7_betters_92 rfl rfl ?_
            refine V.ildn 3 dX7_betters_93 rfl rfl ?_
            refine V.cVe (t_trades (dp := dp + 12) hM' hand c88 (by omega)) dX7_betters_94 k_X7_156 rfl rfl rfl (Nat.le_of_ble_eq_true rfl) rfl ?_
            rintro _ _ ⟨m2, rfl, rfl, hS2, hM2⟩
            refine V.eqs (st' := []) rfl ?_
            refine V.aldn 0 dX7_betters_97 rfl rfl ?_
            refine V.cVi ((t_keeps hM2.1 hM2.2.1 hM2.2.2 : Mt (dp + 10 + 3) 0 0 _ _ _ _)) dX7_betters_98 k_X7_94 rfl rfl rfl (Nat.le_of_ble_eq_true rfl) rfl ?_
            first | refine V.if_eqB 114 dX7_betters_101 (by decide) (fun c101 => ?_) (fun c101 => ?_) | refine V.if_eqN 114 dX7_betters_101 (by decide) (by omega) (fun c101 => ?_) (fun c101 => ?_) | refine V.if_eq 114 dX7_betters_101 (by decide) (fun c101 => ?_) (fun c101 => ?_)
            · exact bk c88 (fun q => of_dBf c101 q.1) m2 hM2
            · refine V.aldn 0 dX7_betters_104 rfl rfl ?_
              refine V.cVi ((t_costAll hM2.1 : Mt (dp + 8 + 5) 0 0 _ _ _ _)) dX7_betters_105 k_X7_160 rfl rfl rfl (Nat.le_of_ble_eq_true rfl) rfl ?_
              refine V.ildn 1 dX7_betters_108 rfl rfl ?_
              refine V.icmp_ge 114 dX7_betters_109 (by decide) (fun c109 => ?_) (fun c109 => ?_)
              · exact bk c88 (fun q => absurd c109 (Int32.not_le.mpr q.2)) m2 hM2
              · refine V.iconst (nI 1) dX7_betters_112 (by decide +kernel) ?_
                exact V.ireturn dX7_betters_113 rfl (by first | rfl | decide +kernel) (by rw [← hQ]; exact ⟨m2, true, _, _, rfl, rfl, Or.inr ⟨hnom, Or.inl ⟨a, b, hab, c88, ⟨of_dB c101, Int32.not_le.mp c109⟩, hno, rfl, rfl, rfl⟩⟩, hM2⟩)
      refine V.ildn 2 dX7_betters_71 rfl rfl ?_
      refine V.aldn 0 dX7_betters_72 rfl rfl ?_
      refine V.gf7_13 dX7_betters_73 f_X7_91 ?_
      refine V.top hM'.1.2.1 ?_
      first | refine V.icmp_geN 132 dX7_betters_76 (by decide) (by omega) (by omega) (fun c76 => ?_) (fun c76 => ?_) | refine V.icmp_ge 132 dX7_betters_76 (by decide) (fun c76 => ?_) (fun c76 => ?_)
      · refine V.iconst (nI 0) dX7_betters_132 (by decide +kernel) ?_
        exact V.ireturn dX7_betters_133 rfl (by first | rfl | decide +kernel) (by rw [← hQ]; exact ⟨m', false, R, D, rfl, rfl, Or.inr ⟨hnom, Or.inr ⟨fun a' b' h1 h2 => hno a' b' h1 h2 (by omega), rfl, rfl, rfl⟩⟩, hM'⟩)
      · refine V.ildn 2 dX7_betters_79 rfl rfl ?_
        refine V.iconst (nI 1) dX7_betters_80 (by decide +kernel) ?_
        first | refine V.iaddN dX7_betters_81 ?_ | refine V.iadd dX7_betters_81 ?_
        refine V.istn 3 dX7_betters_82 rfl (Nat.le_of_ble_eq_true rfl) ?_
        exact inner c76 _ (a + 1) m' rfl (by omega) (by omega) hM' (fun a' b' h1 h2 h3 => hno a' b' h1 h2 (by omega))
  have sloop : ∀ (j s : Nat) (m' : Nat → Nat → Int32) (o3 : Option Value), n - s = j → s ≤ n → MS F n nd R D m' → (∀ s' d', s' < n → d' < nd → s' < s → ¬ GM F n nd R D s' d') → V mX7_betters (dp + 14) 0 0 7 [some (.ref 45), some (.int (costC F nd R)), some (.int (nI s)), o3] [] (HH f ro rs rw rb m') Q := by
    intro j
    induction j using Nat.strongRecOn with
    | _ j ih =>
      intro s m' o3 hj hs hM' hno
      have inner : s < n → ∀ (i d : Nat) (m' : Nat → Nat → Int32), nd - d = i → d ≤ nd → MS F n nd R D m' → (∀ s' d', s' < n → d' < nd → (s' < s ∨ s' = s ∧ d' < d) → ¬ GM F n nd R D s' d') → V mX7_betters (dp + 14) 0 0 17 [some (.ref 45), some (.int (costC F nd R)), some (.int (nI s)), some (.int (nI d))] [] (HH f ro rs rw rb m') Q := by
        intro hsn i
        induction i using Nat.strongRecOn with
        | _ i ih2 =>
          intro d m' hi hd hM' hno
          have nxt : d < nd → ¬ GM F n nd R D s d → ∀ m2, MS F n nd R D m2 → V mX7_betters (dp + 14) 0 0 57 [some (.ref 45), some (.int (costC F nd R)), some (.int (nI s)), some (.int (nI d))] [] (HH f ro rs rw rb m2) Q := by
            intro hdn hng m2 hM2
            first | refine V.iincN dX7_betters_57 rfl ?_ | refine V.iinc dX7_betters_57 rfl rfl ?_
            refine V.goto 17 dX7_betters_60 (by decide) ?_
            exact ih2 _ (by omega) (d + 1) m2 rfl (by omega) hM2 (fun a' b' h1 h2 h3 => by by_cases q : a' = s ∧ b' = d; rw [q.1, q.2]; exact hng; exact hno a' b' h1 h2 (by omega))
          have h8s := hM'.2.2.2 s hsn
          cases hds : D s with
          | none =>
            rw [hds] at h8s
            refine V.ildn 3 dX7_betters_17 rfl rfl ?_
            refine V.aldn 0 dX7_betters_18 rfl rfl ?_
            refine V.gf7_13 dX7_betters_19 f_X7_91 ?_
            refine V.top hM'.1.2.1 ?_
            first | refine V.icmp_geN 63 dX7_betters_22 (by decide) (by omega) (by omega) (fun c22 => ?_) (fun c22 => ?_) | refine V.icmp_ge 63 dX7_betters_22 (by decide) (fun c22 => ?_) (fun c22 => ?_)
            · refine V.iincN dX7_betters_63 rfl ?_
              refine V.goto 7 dX7_betters_66 (by decide) ?_
              exact ih _ (by omega) (s + 1) m' _ rfl (by omega) hM' (fun a' b' h1 h2 h3 => hno a' b' h1 h2 (by omega))
            · refine V.aldn 0 dX7_betters_25 rfl rfl ?_
              refine V.gf7_8 dX7_betters_26 f_X7_29 ?_
              refine V.ildn 2 dX7_betters_29 rfl rfl ?_
              refine V.ald_52 dX7_betters_30 (ix_nI (by omega) (by decide)) ?_
              refine V.top (y := -1) h8s ?_
              refine V.iconst (-1) dX7_betters_31 (by decide +kernel) ?_
              refine V.icmp_eq 57 dX7_betters_32 (by decide) (fun c32 => ?_) (fun c32 => ?_)
              · exact nxt c22 (fun ⟨e, he, _⟩ => by rw [hds] at he; cases he) m' hM'
              · exact absurd rfl c32
          | some e =>
            rw [hds] at h8s
            have hed := (hM'.2.1.2.1 s e hsn hds).1
            refine V.ildn 3 dX7_betters_17 rfl rfl ?_
            refine V.aldn 0 dX7_betters_18 rfl rfl ?_
            refine V.gf7_13 dX7_betters_19 f_X7_91 ?_
            refine V.top hM'.1.2.1 ?_
            first | refine V.icmp_geN 63 dX7_betters_22 (by decide) (by omega) (by omega) (fun c22 => ?_) (fun c22 => ?_) | refine V.icmp_ge 63 dX7_betters_22 (by decide) (fun c22 => ?_) (fun c22 => ?_)
            · refine V.iincN dX7_betters_63 rfl ?_
              refine V.goto 7 dX7_betters_66 (by decide) ?_
              exact ih _ (by omega) (s + 1) m' _ rfl (by omega) hM' (fun a' b' h1 h2 h3 => hno a' b' h1 h2 (by omega))
            · refine V.aldn 0 dX7_betters_25 rfl rfl ?_
              refine V.gf7_8 dX7_betters_26 f_X7_29 ?_
              refine V.ildn 2 dX7_betters_29 rfl rfl ?_
              refine V.ald_52 dX7_betters_30 (ix_nI (by omega) (by decide)) ?_
              refine V.top (y := nI e) h8s ?_
              refine V.iconst (-1) dX7_betters_31 (by decide +kernel) ?_
              refine V.icmp_eq 57 dX7_betters_32 (by decide) (fun c32 => ?_) (fun c32 => ?_)
              · exact absurd c32 (nI_m1 (by omega))
              · refine V.ildn 3 dX7_betters_35 rfl rfl ?_
                refine V.aldn 0 dX7_betters_36 rfl rfl ?_
                refine V.gf7_8 dX7_betters_37 f_X7_29 ?_
                refine V.ildn 2 dX7_betters_40 rfl rfl ?_
                refine V.ald_52 dX7_betters_41 (ix_nI (by omega) (by decide)) ?_
                refine V.top (y := nI e) h8s ?_
                first | refine V.icmp_eqN 57 dX7_betters_42 (by decide) (by omega) (by omega) (fun c42 => ?_) (fun c42 => ?_) | refine V.icmp_eq 57 dX7_betters_42 (by decide) (fun c42 => ?_) (fun c42 => ?_)
                · exact nxt c22 (fun ⟨e', he', hne, _⟩ => by rw [hds] at he'; cases he'; exact hne c42) m' hM'
                · refine V.aldn 0 dX7_betters_45 rfl rfl ?_
                  refine V.ildn 2 dX7_betters_46 rfl rfl ?_
                  refine V.ildn 3 dX7_betters_47 rfl rfl ?_
                  refine V.ildn 1 dX7_betters_48 rfl rfl ?_
                  refine V.cVe (t_movesWell (dp := dp) hB hM' hsn hds c22) dX7_betters_49 k_X7_192 rfl rfl rfl (Nat.le_of_ble_eq_true rfl) rfl ?_
                  rintro _ _ ⟨m2, rfl, rfl, hor⟩
                  refine V.eqs (st' := [.int (bI (dB (GMe F n nd R D s e d)))]) rfl ?_
                  first | refine V.if_eqB 57 dX7_betters_52 (by decide) (fun c52 => ?_) (fun c52 => ?_) | refine V.if_eqN 57 dX7_betters_52 (by decide) (by omega) (fun c52 => ?_) (fun c52 => ?_) | refine V.if_eq 57 dX7_betters_52 (by decide) (fun c52 => ?_) (fun c52 => ?_)
                  · rcases hor with ⟨q, -⟩ | ⟨q, hM2⟩
                    · exact absurd q (of_dBf c52)
                    · exact nxt c22 (fun ⟨e', he', _, hg⟩ => by rw [hds] at he'; cases he'; exact q hg) m2 hM2
                  · refine V.iconst (nI 1) dX7_betters_55 (by decide +kernel) ?_
                    exact V.ireturn dX7_betters_56 rfl (by first | rfl | decide +kernel) (by rw [← hQ]; rcases hor with ⟨q, hM2⟩ | ⟨q, -⟩; exact ⟨m2, true, _, _, rfl, rfl, Or.inl ⟨s, d, e, hsn, c22, hds, c42, q, hno, rfl, rfl, rfl⟩, hM2⟩; exact absurd (of_dB c52) q)
      refine V.ildn 2 dX7_betters_7 rfl rfl ?_
      refine V.aldn 0 dX7_betters_8 rfl rfl ?_
      refine V.gf7_1 dX7_betters_9 f_X7_84 ?_
      refine V.top hM'.2.2.1 ?_
      first | refine V.icmp_geN 69 dX7_betters_12 (by decide) (by omega) (by omega) (fun c12 => ?_) (fun c12 => ?_) | refine V.icmp_ge 69 dX7_betters_12 (by decide) (fun c12 => ?_) (fun c12 => ?_)
      · refine V.iconst (nI 0) dX7_betters_69 (by decide +kernel) ?_
        refine V.istn 2 dX7_betters_70 rfl (Nat.le_of_ble_eq_true rfl) ?_
        exact tloop (fun s' d' h1 h2 => hno s' d' h1 h2 (by omega)) _ 0 m' _ rfl (Nat.zero_le _) hM' (fun a' b' _ _ h => absurd h (Nat.not_lt_zero a'))
      · refine V.iconst (nI 0) dX7_betters_15 (by decide +kernel) ?_
        refine V.istn 3 dX7_betters_16 rfl (Nat.le_of_ble_eq_true rfl) ?_
        exact inner c12 _ 0 m' rfl (Nat.zero_le _) hM' (fun a' b' h1 h2 h3 => hno a' b' h1 h2 (by omega))
  refine V.aldn 0 dX7_betters_0 rfl rfl ?_
  refine V.cVi ((t_costAll hM.1 : Mt (dp + 8 + 5) 0 0 _ _ _ _)) dX7_betters_1 k_X7_160 rfl rfl rfl (Nat.le_of_ble_eq_true rfl) rfl ?_
  refine V.istn 1 dX7_betters_4 rfl (Nat.le_of_ble_eq_true rfl) ?_
  refine V.iconst (nI 0) dX7_betters_5 (by decide +kernel) ?_
  refine V.istn 2 dX7_betters_6 rfl (Nat.le_of_ble_eq_true rfl) ?_
  exact sloop _ 0 m _ rfl (Nat.zero_le _) hM (fun a' b' _ _ h => absurd h (Nat.not_lt_zero a'))
theorem t_better (hB : FB F) (hM : MS F n nd R D m) : Mt (dp + 15) 0 0 mX7_better [.ref 45] (HH f ro rs rw rb m) (fun r h' => ∃ m' c R' D', r = some (.int (nI c)) ∧ h' = HH f ro rs rw rb m' ∧ BIt F n nd 20 R D c R' D' ∧ MS F n nd R' D' m') := by
  refine Mt.of rfl rfl (Nat.le_of_ble_eq_true rfl) rfl ?_
  generalize hQ : (fun (r : Option Value) (h' : List AC) => ∃ m' c R' D', r = some (.int (nI c)) ∧ h' = HH f ro rs rw rb m' ∧ BIt F n nd 20 R D c R' D' ∧ MS F n nd R' D' m') = Q
  have loop : ∀ (j k : Nat) (R1 : Nat → List Nat) (D1 : Nat → Option Nat) (m' : Nat → Nat → Int32), k + j = 20 → MS F n nd R1 D1 m' → (∀ c R' D', BIt F n nd j R1 D1 c R' D' → BIt F n nd 20 R D (k + c) R' D') → V mX7_better (dp + 15) 0 0 2 [some (.ref 45), some (.int (nI k))] [] (HH f ro rs rw rb m') Q := by
    intro j
    induction j with
    | zero =>
      intro k R1 D1 m' hj hM' hc
      refine V.ildn 1 dX7_better_2 rfl rfl ?_
      refine V.bipush (nI 20) dX7_better_3 (by decide +kernel) ?_
      first | refine V.icmp_geN 21 dX7_better_5 (by decide) (by omega) (by omega) (fun c5 => ?_) (fun c5 => ?_) | refine V.icmp_ge 21 dX7_better_5 (by decide) (fun c5 => ?_) (fun c5 => ?_)
      · refine V.ildn 1 dX7_better_21 rfl rfl ?_
        exact V.ireturn dX7_better_22 rfl (by first | rfl | decide +kernel) (by rw [← hQ]; exact ⟨m', k, R1, D1, rfl, rfl, hc 0 R1 D1 ⟨rfl, rfl, rfl⟩, hM'⟩)
      · exact absurd c5 (by omega)
    | succ j ih =>
      intro k R1 D1 m' hj hM' hc
      refine V.ildn 1 dX7_better_2 rfl rfl ?_
      refine V.bipush (nI 20) dX7_better_3 (by decide +kernel) ?_
      first | refine V.icmp_geN 21 dX7_better_5 (by decide) (by omega) (by omega) (fun c5 => ?_) (fun c5 => ?_) | refine V.icmp_ge 21 dX7_better_5 (by decide) (fun c5 => ?_) (fun c5 => ?_)
      · exact absurd c5 (by omega)
      · refine V.aldn 0 dX7_better_8 rfl rfl ?_
        refine V.cVe (t_betters (dp := dp) hB hM') dX7_better_9 k_X7_195 rfl rfl rfl (Nat.le_of_ble_eq_true rfl) rfl ?_
        rintro _ _ ⟨m2, res, R2, D2, rfl, rfl, hbs, hM2⟩
        refine V.eqs (st' := [.int (bI res)]) rfl ?_
        first | refine V.if_eqB 21 dX7_better_12 (by decide) (fun c12 => ?_) (fun c12 => ?_) | refine V.if_eqN 21 dX7_better_12 (by decide) (by omega) (fun c12 => ?_) (fun c12 => ?_) | refine V.if_eq 21 dX7_better_12 (by decide) (fun c12 => ?_) (fun c12 => ?_)
        · refine V.ildn 1 dX7_better_21 rfl rfl ?_
          exact V.ireturn dX7_better_22 rfl (by first | rfl | decide +kernel) (by rw [← hQ]; exact ⟨m2, k, R2, D2, rfl, rfl, hc 0 R2 D2 ⟨res, R2, D2, hbs, Or.inr ⟨c12, rfl, rfl, rfl⟩⟩, hM2⟩)
        · first | refine V.iincN dX7_better_15 rfl ?_ | refine V.iinc dX7_better_15 rfl rfl ?_
          refine V.goto 2 dX7_better_18 (by decide) ?_
          exact ih (k + 1) R2 D2 m2 (by omega) hM2 (fun c R' D' h => by have := hc (c + 1) R' D' ⟨res, R2, D2, hbs, Or.inl ⟨c12, c, rfl, h⟩⟩; rw [show k + 1 + c = k + (c + 1) by omega]; exact this)
  refine V.iconst (nI 0) dX7_better_0 (by decide +kernel) ?_
  refine V.istn 1 dX7_better_1 rfl (Nat.le_of_ble_eq_true rfl) ?_
  exact loop 20 0 R D m rfl hM (fun c R' D' h => by rw [Nat.zero_add]; exact h)
end MODEL
