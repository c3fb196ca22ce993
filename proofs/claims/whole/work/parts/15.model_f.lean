/-! bits (pasted: the kit's laws, Int32 by its bits), lists without doubles, the search by places, trades -/
def bt (x : Int32) (i : Nat) : Bool := x.toBitVec.getLsbD i
theorem b_ext {x y : Int32} (h : ∀ i, i < 32 → bt x i = bt y i) : x = y := Int32.toBitVec_inj.mp (BitVec.eq_of_getLsbD_eq (fun i hi => h i hi))
theorem b_or (x y : Int32) (i : Nat) : bt (x ||| y) i = (bt x i || bt y i) := by unfold bt; rw [Int32.toBitVec_or, BitVec.getLsbD_or]
theorem b_and (x y : Int32) (i : Nat) : bt (x &&& y) i = (bt x i && bt y i) := by unfold bt; rw [Int32.toBitVec_and, BitVec.getLsbD_and]
theorem b_xor (x y : Int32) (i : Nat) : bt (x ^^^ y) i = (bt x i ^^ bt y i) := by unfold bt; rw [Int32.toBitVec_xor, BitVec.getLsbD_xor]
theorem b_big {x : Int32} {i : Nat} (h : 32 ≤ i) : bt x i = false := BitVec.getLsbD_of_ge _ _ h
theorem b_m1 : ∀ i, i < 32 → bt (-1) i = true := by decide +kernel
theorem b_0 (i : Nat) : bt 0 i = false := BitVec.getLsbD_zero
theorem s_l : ∀ n, n < 32 → ((nI n &&& 31).toBitVec.smod 32).toNat = n := by decide +kernel
theorem b_shl (n : Nat) (hn : n < 32) (x : Int32) {i : Nat} (hi : i < 32) : bt (x <<< (nI n &&& 31)) i = (decide (n ≤ i) && bt x (i - n)) := by
  unfold bt
  rw [Int32.toBitVec_shiftLeft]
  show (x.toBitVec <<< ((nI n &&& 31).toBitVec.smod 32).toNat).getLsbD i = _
  rw [s_l n hn, BitVec.getLsbD_shiftLeft]
  rcases Nat.lt_or_ge i n with h | h
  · simp [h, Nat.not_le.mpr h]
  · simp [hi, h, Nat.not_lt.mpr h]
theorem b_sshr (n : Nat) (hn : n < 32) (x : Int32) {i : Nat} (hi : i < 32) : bt (x >>> (nI n &&& 31)) i = if n + i < 32 then bt x (n + i) else bt x 31 := by
  unfold bt
  rw [Int32.toBitVec_shiftRight]
  show (x.toBitVec.sshiftRight ((nI n &&& 31).toBitVec.smod 32).toNat).getLsbD i = _
  rw [s_l n hn, BitVec.getLsbD_sshiftRight, BitVec.msb_eq_getLsbD_last]
  simp [hi]
theorem b_1 : ∀ i, i < 32 → bt (nI 1) i = decide (i = 0) := by decide +kernel
theorem btB_bt {x : Int32} {p : Nat} (hp : p < 32) : btB x p = bt x p := by
  have h0 : ∀ i, i < 32 → bt (x >>> (nI p &&& 31) &&& nI 1) i = (bt x p && decide (i = 0)) := by
    intro i hi
    rw [b_and, b_1 i hi, b_sshr p hp x hi]
    by_cases e : i = 0
    · subst e; rw [if_pos (by omega)]; rfl
    · rw [decide_eq_false e, Bool.and_false, Bool.and_false]
  cases hb : bt x p with
  | true =>
    refine decide_eq_true (b_ext (fun i hi => ?_))
    rw [h0 i hi, hb, b_1 i hi]; rfl
  | false =>
    refine decide_eq_false (fun e => ?_)
    have := h0 0 (by decide)
    rw [hb, e, b_1 0 (by decide)] at this
    simp at this
theorem bt_one {i j : Nat} (hi : i < 32) (hj : j < 32) : bt (nI 1 <<< (nI i &&& 31)) j = decide (j = i) := by
  rw [b_shl i hi _ hj]
  rcases Nat.lt_or_ge j i with h | h
  · rw [decide_eq_false (by omega), decide_eq_false (by omega)]; rfl
  · rw [decide_eq_true h, b_1 (j - i) (by omega), Bool.true_and]
    by_cases e : j = i
    · rw [decide_eq_true e, decide_eq_true (by omega)]
    · rw [decide_eq_false e, decide_eq_false (by omega)]
theorem btB_set {x : Int32} {i j : Nat} (hi : i < 32) (hj : j < 32) : btB (x ||| (nI 1 <<< (nI i &&& 31))) j = (btB x j || j == i) := by
  rw [btB_bt hj, btB_bt hj, b_or, bt_one hi hj]
  by_cases e : j = i
  · subst e; simp
  · simp [e]
theorem btB_0 {j : Nat} (hj : j < 32) : btB (nI 0) j = false := by rw [btB_bt hj, nI_0, b_0]
theorem nd_sub : ∀ (l l' : List Nat), l.Nodup → (∀ x, x ∈ l → x ∈ l') → l.length ≤ l'.length
  | [], _, _, _ => Nat.zero_le _
  | a :: l, l', hn, hs => by
    have ha := hs a List.mem_cons_self
    obtain ⟨h1, h2⟩ := List.nodup_cons.mp hn
    have h3 := nd_sub l (l'.erase a) h2 (fun x hx => (List.mem_erase_of_ne (fun e => h1 (by rw [← e]; exact hx))).mpr (hs x (List.mem_cons_of_mem _ hx)))
    rw [List.length_erase_of_mem ha] at h3
    have : 0 < l'.length := List.length_pos_of_mem ha
    show l.length + 1 ≤ _
    omega
theorem nd_lt {l : List Nat} {z : Nat} (hn : l.Nodup) (h : ∀ x, x ∈ l → x < z) : l.length ≤ z := by
  have := nd_sub l (List.range z) hn (fun x hx => List.mem_range.mpr (h x hx))
  rwa [List.length_range] at this
theorem nd_all {l : List Nat} {z : Nat} (hn : l.Nodup) (h : ∀ x, x ∈ l → x < z) (hl : l.length = z) : ∀ i, i < z → i ∈ l := by
  intro i hi
  by_cases hm : i ∈ l
  · exact hm
  · have := nd_lt (l := i :: l) (z := z) (List.nodup_cons.mpr ⟨hm, hn⟩) (fun x hx => by rcases List.mem_cons.mp hx with q | q; rw [q]; exact hi; exact h x q)
    simp at this
    omega
/-- the search by places: all orders of 0 .. z-1, the least place first -/
def tr {β : Type} (z : Nat) (step : List Nat → β → β) : Nat → (Nat → Bool) → List Nat → β → β
  | 0, _, pre, b => step pre b
  | k + 1, us, pre, b => fo (fun i b => if us i = true then b else tr z step k (fun j => us j || j == i) (pre ++ [i]) b) b z
def sw (a b d : Nat) : Nat := if d = a then b else if d = b then a else d
theorem sw_sw (a b d : Nat) : sw a b (sw a b d) = d := by unfold sw; split <;> split <;> (try split) <;> omega
theorem sw_lt {a b d nd : Nat} (ha : a < nd) (hb : b < nd) : sw a b d < nd ↔ d < nd := by unfold sw; split <;> (try split) <;> omega
theorem DR.swp {n nd : Nat} {R : Nat → List Nat} {D : Nat → Option Nat} {a b : Nat} (ha : a < nd) (hb : b < nd) (h : DR n nd R D) : DR n nd (fun d => R (sw a b d)) (fun s => (D s).map (sw a b)) := by
  obtain ⟨hn, d1, d2, d3⟩ := h
  refine ⟨hn, fun s d hs hd => ?_, fun s d hd hm => ?_, fun d hd => d3 _ ((sw_lt ha hb).mpr hd)⟩
  · have hd : (D s).map (sw a b) = some d := hd
    cases hD : D s with
    | none => rw [hD] at hd; cases hd
    | some e =>
      rw [hD] at hd
      cases hd
      obtain ⟨q1, q2⟩ := d1 s e hs hD
      exact ⟨(sw_lt ha hb).mpr q1, by show s ∈ R (sw a b (sw a b e)); rw [sw_sw]; exact q2⟩
  · obtain ⟨q1, q2⟩ := d2 s _ ((sw_lt ha hb).mpr hd) hm
    exact ⟨q1, by show (D s).map (sw a b) = some d; rw [q2]; show some (sw a b (sw a b d)) = some d; rw [sw_sw]⟩
theorem tr_cell {g : Nat → Int32} {a b d i k : Nat} (hab : a ≠ b) (hk : k ≤ 5) (hi : i < 5) (hk5 : k < 5) : (if 17 = 17 ∧ 5 * d + i = 5 * b + k then g (5 * a + k) else if 17 = 17 ∧ 5 * d + i = 5 * a + k then g (5 * b + k) else if i < k then g (5 * sw a b d + i) else g (5 * d + i)) = if i < k + 1 then g (5 * sw a b d + i) else g (5 * d + i) := by
  by_cases e1 : 5 * d + i = 5 * b + k
  · obtain ⟨rfl, rfl⟩ : d = b ∧ i = k := by omega
    rw [if_pos ⟨rfl, rfl⟩, if_pos (by omega)]
    unfold sw
    rw [if_neg (fun e => hab e.symm), if_pos rfl]
  · rw [if_neg (fun q => e1 q.2)]
    by_cases e2 : 5 * d + i = 5 * a + k
    · obtain ⟨rfl, rfl⟩ : d = a ∧ i = k := by omega
      rw [if_pos ⟨rfl, rfl⟩, if_pos (by omega)]
      unfold sw
      rw [if_pos rfl]
    · rw [if_neg (fun q => e2 q.2)]
      by_cases e3 : i < k
      · rw [if_pos e3, if_pos (by omega)]
      · rw [if_neg e3]
        by_cases e4 : i < k + 1
        · rw [if_pos e4]
          unfold sw
          rw [if_neg (by omega), if_neg (by omega)]
        · rw [if_neg e4]
section MODEL
variable {f ro rs : Nat → Nat → Int32} {rw rb : Nat → Nat} {m : Nat → Nat → Int32} {dp : Nat} {F : Nat → Nat → Int32} {n nd : Nat} {R : Nat → List Nat} {D : Nat → Option Nat}
theorem t_trades (hM : MS F n nd R D m) {a b : Nat} (ha : a < nd) (hb : b < nd) (hab : a ≠ b) : Mt (dp + 1) 0 0 mX7_trades [.ref 45, .int (nI a), .int (nI b)] (HH f ro rs rw rb m) (fun r h' => ∃ m', r = none ∧ h' = HH f ro rs rw rb m' ∧ Sm [8, 16, 17] m m' ∧ MS F n nd (fun d => R (sw a b d)) (fun s => (D s).map (sw a b)) m') := by
  refine Mt.of rfl rfl (Nat.le_of_ble_eq_true rfl) rfl ?_
  obtain ⟨⟨hnd, h13, hF, hp, hR⟩, hD, h1, h8⟩ := hM
  have hDR := hD
  obtain ⟨hn20, d1, d2, d3⟩ := hD
  generalize hQ : (fun (r : Option Value) (h' : List AC) => ∃ m', r = none ∧ h' = HH f ro rs rw rb m' ∧ Sm [8, 16, 17] m m' ∧ MS F n nd (fun d => R (sw a b d)) (fun s => (D s).map (sw a b)) m') = Q
  have loop2 : ∀ (j k : Nat) (m' : Nat → Nat → Int32) (o3 : Option Value), n - k = j → k ≤ n → Sm [8, 16, 17] m m' → (∀ d, m' 16 d = m 16 (sw a b d)) → (∀ d i, i < 5 → m' 17 (5 * d + i) = m 17 (5 * sw a b d + i)) → (∀ s, s < n → m' 8 s = if s < k then dI ((D s).map (sw a b)) else dI (D s)) → V mX7_trades (dp + 1) 0 0 86 [some (.ref 45), some (.int (nI a)), some (.int (nI b)), o3, some (.int (nI k))] [] (HH f ro rs rw rb m') Q := by
    intro j
    induction j using Nat.strongRecOn with
    | _ j ih =>
      intro k m' o3 hj hk hS a16 a17 a8
      have nxt : k < n → ∀ v, v = dI ((D k).map (sw a b)) → V mX7_trades (dp + 1) 0 0 138 [some (.ref 45), some (.int (nI a)), some (.int (nI b)), o3, some (.int (nI k))] [.int v, .int (nI k), .ref 52] (HH f ro rs rw rb m') Q := by
        intro hkn v hv
        refine V.ast_52 dX7_trades_138 (ix_nI (by omega) (by decide)) ?_
        first | refine V.iincN dX7_trades_139 rfl ?_ | refine V.iinc dX7_trades_139 rfl rfl ?_
        refine V.goto 86 dX7_trades_142 (by decide) ?_
        refine ih _ (by omega) (k + 1) _ _ rfl (by omega) (hS.up (by decide)) (fun d => by rw [up2_at, if_neg (by omega)]; exact a16 d) (fun d i hi => by rw [up2_at, if_neg (by omega)]; exact a17 d i hi) (fun s hs => ?_)
        rw [up2_at]
        split
        · rename_i q; rw [if_pos (by omega), q.2]; exact hv
        · rename_i q; rw [a8 s hs]; by_cases e : s < k; rw [if_pos e, if_pos (by omega)]; rw [if_neg e, if_neg (by omega)]
      have body : k < n → V mX7_trades (dp + 1) 0 0 95 [some (.ref 45), some (.int (nI a)), some (.int (nI b)), o3, some (.int (nI k))] [] (HH f ro rs rw rb m') Q := by
        intro hkn
        have h8k := a8 k hkn
        rw [if_neg (Nat.lt_irrefl k)] at h8k
        cases hDk : D k with
        | none =>
          rw [hDk] at h8k
          refine V.aldn 0 dX7_trades_95 rfl rfl ?_
          refine V.gf7_8 dX7_trades_96 f_X7_29 ?_
          refine V.iload dX7_trades_99 rfl ?_
          refine V.aldn 0 dX7_trades_101 rfl rfl ?_
          refine V.gf7_8 dX7_trades_102 f_X7_29 ?_
          refine V.iload dX7_trades_105 rfl ?_
          refine V.ald_52 dX7_trades_107 (ix_nI (by omega) (by decide)) ?_
          refine V.top (y := -1) h8k ?_
          refine V.ildn 1 dX7_trades_108 rfl rfl ?_
          refine V.icmp_ne 116 dX7_trades_109 (by decide) (fun c109 => ?_) (fun c109 => ?_)
          · refine V.aldn 0 dX7_trades_116 rfl rfl ?_
            refine V.gf7_8 dX7_trades_117 f_X7_29 ?_
            refine V.iload dX7_trades_120 rfl ?_
            refine V.ald_52 dX7_trades_122 (ix_nI (by omega) (by decide)) ?_
            refine V.top (y := -1) h8k ?_
            refine V.ildn 2 dX7_trades_123 rfl rfl ?_
            refine V.icmp_ne 131 dX7_trades_124 (by decide) (fun c124 => ?_) (fun c124 => ?_)
            · refine V.aldn 0 dX7_trades_131 rfl rfl ?_
              refine V.gf7_8 dX7_trades_132 f_X7_29 ?_
              refine V.iload dX7_trades_135 rfl ?_
              refine V.ald_52 dX7_trades_137 (ix_nI (by omega) (by decide)) ?_
              refine V.top (y := -1) h8k ?_
              exact nxt hkn _ (by rw [hDk]; rfl)
            · exact absurd c124.symm (nI_m1 (by omega))
          · exact absurd c109.symm (nI_m1 (by omega))
        | some e =>
          rw [hDk] at h8k
          have he := d1 k e hkn hDk
          refine V.aldn 0 dX7_trades_95 rfl rfl ?_
          refine V.gf7_8 dX7_trades_96 f_X7_29 ?_
          refine V.iload dX7_trades_99 rfl ?_
          refine V.aldn 0 dX7_trades_101 rfl rfl ?_
          refine V.gf7_8 dX7_trades_102 f_X7_29 ?_
          refine V.iload dX7_trades_105 rfl ?_
          refine V.ald_52 dX7_trades_107 (ix_nI (by omega) (by decide)) ?_
          refine V.top (y := nI e) h8k ?_
          refine V.ildn 1 dX7_trades_108 rfl rfl ?_
          first | refine V.icmp_neN 116 dX7_trades_109 (by decide) (by omega) (by omega) (fun c109 => ?_) (fun c109 => ?_) | refine V.icmp_ne 116 dX7_trades_109 (by decide) (fun c109 => ?_) (fun c109 => ?_)
          · refine V.aldn 0 dX7_trades_116 rfl rfl ?_
            refine V.gf7_8 dX7_trades_117 f_X7_29 ?_
            refine V.iload dX7_trades_120 rfl ?_
            refine V.ald_52 dX7_trades_122 (ix_nI (by omega) (by decide)) ?_
            refine V.top (y := nI e) h8k ?_
            refine V.ildn 2 dX7_trades_123 rfl rfl ?_
            first | refine V.icmp_neN 131 dX7_trades_124 (by decide) (by omega) (by omega) (fun c124 => ?_) (fun c124 => ?_) | refine V.icmp_ne 131 dX7_trades_124 (by decide) (fun c124 => ?_) (fun c124 => ?_)
            · refine V.aldn 0 dX7_trades_131 rfl rfl ?_
              refine V.gf7_8 dX7_trades_132 f_X7_29 ?_
              refine V.iload dX7_trades_135 rfl ?_
              refine V.ald_52 dX7_trades_137 (ix_nI (by omega) (by decide)) ?_
              refine V.top (y := nI e) h8k ?_
              exact nxt hkn _ (by rw [hDk]; show _ = nI (sw a b e); unfold sw; first | rw [if_pos c109] | rw [if_neg c109, if_pos c124] | rw [if_neg c109, if_neg c124])
            · refine V.ildn 1 dX7_trades_127 rfl rfl ?_
              refine V.goto 138 dX7_trades_128 (by decide) ?_
              exact nxt hkn _ (by rw [hDk]; show _ = nI (sw a b e); unfold sw; first | rw [if_pos c109] | rw [if_neg c109, if_pos c124] | rw [if_neg c109, if_neg c124])
          · refine V.ildn 2 dX7_trades_112 rfl rfl ?_
            refine V.goto 138 dX7_trades_113 (by decide) ?_
            exact nxt hkn _ (by rw [hDk]; show _ = nI (sw a b e); unfold sw; first | rw [if_pos c109] | rw [if_neg c109, if_pos c124] | rw [if_neg c109, if_neg c124])
      refine V.iload dX7_trades_86 rfl ?_
      refine V.aldn 0 dX7_trades_88 rfl rfl ?_
      refine V.gf7_1 dX7_trades_89 f_X7_84 ?_
      refine V.top (y := nI n) (by rw [hS 1 (by decide)]; exact h1) ?_
      first | refine V.icmp_geN 145 dX7_trades_92 (by decide) (by omega) (by omega) (fun c92 => ?_) (fun c92 => ?_) | refine V.icmp_ge 145 dX7_trades_92 (by decide) (fun c92 => ?_) (fun c92 => ?_)
      · exact V.vreturn dX7_trades_145 rfl (by rw [← hQ]; exact ⟨m', rfl, rfl, hS, ⟨hnd, (congrFun (hS 13 (by decide)) 0).trans h13, film_congr hS (isF_no (by decide)) hF, hp, fun d hd => ⟨(a16 d).trans (hR _ ((sw_lt ha hb).mpr hd)).1, (hR _ ((sw_lt ha hb).mpr hd)).2.1, fun i hi => ⟨(a17 d i (by have := (hR _ ((sw_lt ha hb).mpr hd)).2.1; have hi2 : i < (R (sw a b d)).length := hi; omega)).trans ((hR _ ((sw_lt ha hb).mpr hd)).2.2 i hi).1, ((hR _ ((sw_lt ha hb).mpr hd)).2.2 i hi).2⟩⟩⟩, DR.swp ha hb hDR, (congrFun (hS 1 (by decide)) 0).trans h1, fun s hs => by rw [a8 s hs, if_pos (by omega)]⟩)
      · exact body c92
  have loop1 : ∀ (j k : Nat) (m' : Nat → Nat → Int32) (o4 : Option Value), 5 - k = j → k ≤ 5 → Sm [8, 16, 17] m m' → (∀ d, m' 16 d = m 16 d) → (∀ s, m' 8 s = m 8 s) → (∀ d i, i < 5 → m' 17 (5 * d + i) = if i < k then m 17 (5 * sw a b d + i) else m 17 (5 * d + i)) → V mX7_trades (dp + 1) 0 0 2 [some (.ref 45), some (.int (nI a)), some (.int (nI b)), some (.int (nI k)), o4] [] (HH f ro rs rw rb m') Q := by
    intro j
    induction j using Nat.strongRecOn with
    | _ j ih =>
      intro k m' o4 hj hk hS a16 a8 a17
      refine V.ildn 3 dX7_trades_2 rfl rfl ?_
      refine V.iconst (nI 5) dX7_trades_3 (by decide +kernel) ?_
      first | refine V.icmp_geN 57 dX7_trades_4 (by decide) (by omega) (by omega) (fun c4 => ?_) (fun c4 => ?_) | refine V.icmp_ge 57 dX7_trades_4 (by decide) (fun c4 => ?_) (fun c4 => ?_)
      · refine V.aldn 0 dX7_trades_57 rfl rfl ?_
        refine V.gf7_16 dX7_trades_58 f_X7_50 ?_
        refine V.ildn 1 dX7_trades_61 rfl rfl ?_
        refine V.ald_59 dX7_trades_62 (ix_nI (by omega) (by decide)) ?_
        refine V.top (a16 a) ?_
        refine V.istn 3 dX7_trades_63 rfl (Nat.le_of_ble_eq_true rfl) ?_
        refine V.aldn 0 dX7_trades_64 rfl rfl ?_
        refine V.gf7_16 dX7_trades_65 f_X7_50 ?_
        refine V.ildn 1 dX7_trades_68 rfl rfl ?_
        refine V.aldn 0 dX7_trades_69 rfl rfl ?_
        refine V.gf7_16 dX7_trades_70 f_X7_50 ?_
        refine V.ildn 2 dX7_trades_73 rfl rfl ?_
        refine V.ald_59 dX7_trades_74 (ix_nI (by omega) (by decide)) ?_
        refine V.top (a16 b) ?_
        refine V.ast_59 dX7_trades_75 (ix_nI (by omega) (by decide)) ?_
        refine V.aldn 0 dX7_trades_76 rfl rfl ?_
        refine V.gf7_16 dX7_trades_77 f_X7_50 ?_
        refine V.ildn 2 dX7_trades_80 rfl rfl ?_
        refine V.ildn 3 dX7_trades_81 rfl rfl ?_
        refine V.ast_59 dX7_trades_82 (ix_nI (by omega) (by decide)) ?_
        refine V.iconst (nI 0) dX7_trades_83 (by decide +kernel) ?_
        refine V.istore dX7_trades_84 (Nat.le_of_ble_eq_true rfl) ?_
        refine loop2 _ 0 _ _ rfl (Nat.zero_le _) ((hS.up (by decide)).up (by decide)) (fun d => ?_) (fun d i hi => ?_) (fun s hs => ?_)
        · rw [up2_at, up2_at, a16]; unfold sw; split; rename_i q; rw [q.2]; rw [if_neg (fun e => hab e.symm), if_pos rfl]; rename_i q; split; rename_i q2; rw [if_pos q2.2]; rename_i q2; rw [if_neg (fun e => q2 ⟨rfl, e⟩), if_neg (fun e => q ⟨rfl, e⟩)]
        · rw [up2_at, if_neg (by omega), up2_at, if_neg (by omega), a17 d i hi, if_pos (by omega)]
        · rw [up2_at, if_neg (by omega), up2_at, if_neg (by omega), a8 s, if_neg (Nat.not_lt_zero s)]; exact h8 s hs
      · refine V.aldn 0 dX7_trades_7 rfl rfl ?_
        refine V.gf7_17 dX7_trades_8 f_X7_53 ?_
        refine V.iconst (nI 5) dX7_trades_11 (by decide +kernel) ?_
        refine V.ildn 1 dX7_trades_12 rfl rfl ?_
        first | refine V.imulN dX7_trades_13 ?_ | refine V.imul dX7_trades_13 ?_
        refine V.ildn 3 dX7_trades_14 rfl rfl ?_
        first | refine V.iaddN dX7_trades_15 ?_ | refine V.iadd dX7_trades_15 ?_
        refine V.ald_60 dX7_trades_16 (ix_nI (by omega) (by decide)) ?_
        refine V.top (y := m 17 (5 * a + k)) (by rw [a17 a k c4, if_neg (Nat.lt_irrefl k)]) ?_
        refine V.istore dX7_trades_17 (Nat.le_of_ble_eq_true rfl) ?_
        refine V.aldn 0 dX7_trades_19 rfl rfl ?_
        refine V.gf7_17 dX7_trades_20 f_X7_53 ?_
        refine V.iconst (nI 5) dX7_trades_23 (by decide +kernel) ?_
        refine V.ildn 1 dX7_trades_24 rfl rfl ?_
        first | refine V.imulN dX7_trades_25 ?_ | refine V.imul dX7_trades_25 ?_
        refine V.ildn 3 dX7_trades_26 rfl rfl ?_
        first | refine V.iaddN dX7_trades_27 ?_ | refine V.iadd dX7_trades_27 ?_
        refine V.aldn 0 dX7_trades_28 rfl rfl ?_
        refine V.gf7_17 dX7_trades_29 f_X7_53 ?_
        refine V.iconst (nI 5) dX7_trades_32 (by decide +kernel) ?_
        refine V.ildn 2 dX7_trades_33 rfl rfl ?_
        first | refine V.imulN dX7_trades_34 ?_ | refine V.imul dX7_trades_34 ?_
        refine V.ildn 3 dX7_trades_35 rfl rfl ?_
        first | refine V.iaddN dX7_trades_36 ?_ | refine V.iadd dX7_trades_36 ?_
        refine V.ald_60 dX7_trades_37 (ix_nI (by omega) (by decide)) ?_
        refine V.top (y := m 17 (5 * b + k)) (by rw [a17 b k c4, if_neg (Nat.lt_irrefl k)]) ?_
        refine V.ast_60 dX7_trades_38 (ix_nI (by omega) (by decide)) ?_
        refine V.aldn 0 dX7_trades_39 rfl rfl ?_
        refine V.gf7_17 dX7_trades_40 f_X7_53 ?_
        refine V.iconst (nI 5) dX7_trades_43 (by decide +kernel) ?_
        refine V.ildn 2 dX7_trades_44 rfl rfl ?_
        first | refine V.imulN dX7_trades_45 ?_ | refine V.imul dX7_trades_45 ?_
        refine V.ildn 3 dX7_trades_46 rfl rfl ?_
        first | refine V.iaddN dX7_trades_47 ?_ | refine V.iadd dX7_trades_47 ?_
        refine V.iload dX7_trades_48 rfl ?_
        refine V.ast_60 dX7_trades_50 (ix_nI (by omega) (by decide)) ?_
        first | refine V.iincN dX7_trades_51 rfl ?_ | refine V.iinc dX7_trades_51 rfl rfl ?_
        refine V.goto 2 dX7_trades_54 (by decide) ?_
        refine ih _ (by omega) (k + 1) _ _ rfl (by omega) ((hS.up (by decide)).up (by decide)) (fun d => by rw [up2_at, if_neg (by omega), up2_at, if_neg (by omega)]; exact a16 d) (fun s => by rw [up2_at, if_neg (by omega), up2_at, if_neg (by omega)]; exact a8 s) (fun d i hi => ?_)
        rw [up2_at, up2_at, a17 d i hi]
        exact tr_cell hab hk hi c4
  refine V.iconst (nI 0) dX7_trades_0 (by decide +kernel) ?_
  refine V.istn 3 dX7_trades_1 rfl (Nat.le_of_ble_eq_true rfl) ?_
  exact loop1 5 0 m none (by omega) (by omega) Sm.rf (fun _ => rfl) (fun _ => rfl) (fun d i hi => by rw [if_neg (Nat.not_lt_zero i)])
end MODEL
