/-! the class: the search for a day's order -/
def wyN (F : Nat → Nat → Int32) (a b : Nat) : Nat := min 120 (wy F a b).toNatClampNeg
def wN (F : Nat → Nat → Int32) (l : List Nat) : Nat → Nat
  | 0 => 0
  | k + 1 => wN F l k + (if k = 0 then 0 else wyN F (l.getD (k - 1) 0) (l.getD k 0))
theorem wN_bd (F : Nat → Nat → Int32) (l : List Nat) : ∀ k, wN F l k ≤ 120 * k
  | 0 => Nat.le_refl _
  | k + 1 => by
    have := wN_bd F l k
    rw [wN]
    split
    · omega
    · have : wyN F (l.getD (k - 1) 0) (l.getD k 0) ≤ 120 := Nat.min_le_left _ _
      omega
theorem wN_pre {F : Nat → Nat → Int32} {l l' : List Nat} : ∀ {k : Nat}, (∀ i, i < k → l.getD i 0 = l'.getD i 0) → wN F l k = wN F l' k
  | 0, _ => rfl
  | k + 1, h => by rw [wN, wN, wN_pre (fun i hi => h i (by omega)), h k (by omega), h (k - 1) (by omega)]
theorem wN_mono (F : Nat → Nat → Int32) (l : List Nat) {k : Nat} : ∀ {k' : Nat}, k ≤ k' → wN F l k ≤ wN F l k'
  | 0, h => by rw [show k = 0 by omega]; exact Nat.le_refl _
  | k' + 1, h => by
    rcases Nat.eq_or_lt_of_le h with e | e
    · rw [e]; exact Nat.le_refl _
    · have := wN_mono F l (k := k) (k' := k') (by omega)
      rw [wN]
      omega
theorem wy_nI {F : Nat → Nat → Int32} (hB : FB F) (hp : PlV F) {a b : Nat} (ha : a < 20) (hb : b < 20) : wy F a b = nI (wyN F a b) := by
  obtain ⟨w, h1, h2⟩ := wy_bd hB hp ha hb
  rw [wyN, h2, nI_clamp (by omega), Nat.min_eq_right h1]
def okp (F : Nat → Nat → Int32) (z : Nat) (P : Nat → Nat) (q : List Nat) : Prop := ∀ i, i < q.length → ∀ j, j < z → btB (F 7 (P (q.getD i 0))) (P j) = true → ∃ i', i' < i ∧ q.getD i' 0 = j
def fwN (F : Nat → Nat → Int32) (b : Option (List Nat)) : Nat := match b with
  | none => 2147483647
  | some r => wN F r r.length
noncomputable def stC (F : Nat → Nat → Int32) (z : Nat) (P : Nat → Nat) (pre : List Nat) (b : Option (List Nat)) : Option (List Nat) :=
  if dB (okp F z P pre) = true ∧ wN F (pre.map P) pre.length < fwN F b then some (pre.map P) else b
theorem getD_pre {p q : List Nat} (h : p <+: q) {i : Nat} (hi : i < p.length) : q.getD i 0 = p.getD i 0 := by
  obtain ⟨r, rfl⟩ := h
  rw [List.getD_eq_getElem?_getD, List.getD_eq_getElem?_getD, List.getElem?_append_left hi]
theorem tr_id {β : Type} {z : Nat} {step : List Nat → β → β} {b : β} : ∀ (k : Nat) (us : Nat → Bool) (pre : List Nat), pre.length + k = z → PX z pre → (∀ i, i < z → (us i = true ↔ i ∈ pre)) → (∀ q, PX z q → q.length = z → pre <+: q → step q b = b) → tr z step k us pre b = b
  | 0, us, pre, hl, hp, hu, hst => hst pre hp (by omega) (List.prefix_refl _)
  | k + 1, us, pre, hl, hp, hu, hst => by
    have go : ∀ q, q ≤ z → fo (fun i b => if us i = true then b else tr z step k (fun j => us j || j == i) (pre ++ [i]) b) b q = b := by
      intro q
      induction q with
      | zero => intro _; rfl
      | succ q ih =>
        intro hq
        show (if us q = true then _ else _) = b
        rw [ih (by omega)]
        split
        · rfl
        · rename_i hn
          have hnm : q ∉ pre := fun h => hn ((hu q (by omega)).mpr h)
          refine tr_id k _ _ (by rw [List.length_append]; simp; omega) (hp.add (by omega) hnm) (fun i hi => ?_) (fun p h1 h2 h3 => hst p h1 h2 ((List.prefix_append _ _).trans h3))
          rw [Bool.or_eq_true, hu i hi, List.mem_append]
          simp
    exact go z (Nat.le_refl z)
theorem and_0 {x y : Int32} : (x &&& y = 0) ↔ ∀ i, i < 32 → ¬ (btB x i = true ∧ btB y i = true) := by
  constructor
  · intro h i hi ⟨q1, q2⟩
    rw [btB_bt hi] at q1 q2
    have := b_and x y i
    rw [h, b_0, q1, q2] at this
    cases this
  · intro h
    refine b_ext (fun i hi => ?_)
    rw [b_and, b_0]
    have := h i hi
    rw [btB_bt hi, btB_bt hi] at this
    cases h1 : bt x i <;> cases h2 : bt y i <;> simp_all
theorem btB_and {x y : Int32} {p : Nat} (hp : p < 32) : btB (x &&& y) p = (btB x p && btB y p) := by rw [btB_bt hp, btB_bt hp, btB_bt hp, b_and]
theorem btB_not {x : Int32} {p : Nat} (hp : p < 32) : btB (x ^^^ (-1)) p = !btB x p := by rw [btB_bt hp, btB_bt hp, b_xor, b_m1 p hp, Bool.xor_true]
def AX (F : Nat → Nat → Int32) (z : Nat) (P : Nat → Nat) (f : Nat → Nat → Int32) : Prop := z ≤ 5 ∧ f 41 4 = nI z ∧ (∀ x, x < 32 → (btB (f 41 5) x = true ↔ ∃ j, j < z ∧ P j = x)) ∧ (∀ i, i < z → f 42 i = nI (P i) ∧ P i < 20) ∧ (∀ i j, i < z → j < z → P i = P j → i = j) ∧ CF F f ∧ FB F ∧ PlV F
def BC (F : Nat → Nat → Int32) (z : Nat) (f : Nat → Nat → Int32) (b : Option (List Nat)) : Prop := f 41 6 = nI (fwN F b) ∧ ∀ r, b = some r → r.length = z ∧ ∀ i, i < z → f 44 i = nI (r.getD i 0) ∧ r.getD i 0 < 20
theorem BC.bd {F : Nat → Nat → Int32} {z : Nat} {f : Nat → Nat → Int32} {b : Option (List Nat)} (h : BC F z f b) (hz : z ≤ 5) : fwN F b < 2 ^ 31 := by
  cases b with
  | none => show 2147483647 < 2 ^ 31; decide
  | some r => have := wN_bd F r r.length; have := (h.2 r rfl).1; show wN F r r.length < _; omega
theorem CF.sm {F f f' : Nat → Nat → Int32} {ks : List Nat} (h : CF F f) (hS : Sm ks f f') (hk : ks.all (fun k => !isC k) = true) : CF F f' := fun i hi => by
  rw [hS i (fun q => by have := List.all_eq_true.mp hk i q; rw [hi] at this; cases this)]
  exact h i hi
theorem AX.sm {F : Nat → Nat → Int32} {z : Nat} {P : Nat → Nat} {f f' : Nat → Nat → Int32} (h : AX F z P f) (hS : Sm [41, 43, 44] f f') (h41 : ∀ j, j ≠ 6 → f' 41 j = f 41 j) : AX F z P f' := by
  obtain ⟨h1, h2, h3, h4, h5, h6, h7⟩ := h
  refine ⟨h1, by rw [h41 4 (by decide)]; exact h2, by rw [h41 5 (by decide)]; exact h3, by rw [hS 42 (by decide)]; exact h4, h5, h6.sm hS rfl, h7⟩
section CLASS
variable {ro rs : Nat → Nat → Int32} {rw rb : Nat → Nat} {m : Nat → Nat → Int32} {dp : Nat} {F : Nat → Nat → Int32} {z : Nat} {P : Nat → Nat}
def upA (f : Nat → Nat → Int32) (i : Nat) (g : Nat → Int32) : Nat → Nat → Int32 := fun a => if a = i then g else f a
theorem upA_s (f : Nat → Nat → Int32) (i : Nat) (g : Nat → Int32) : upA f i g i = g := if_pos rfl
theorem upA_n {f : Nat → Nat → Int32} {i a : Nat} {g : Nat → Int32} (h : a ≠ i) : upA f i g a = f a := if_neg h
def TQ (F : Nat → Nat → Int32) (z : Nat) (ro rs : Nat → Nat → Int32) (rw rb : Nat → Nat) (m f : Nat → Nat → Int32) (a : Nat) (b : Option (List Nat)) : Option Value → List AC → Prop := fun r h' => ∃ f', r = none ∧ h' = HH f' ro rs rw rb m ∧ Sm [41, 43, 44] f f' ∧ (∀ j, j ≠ 6 → f' 41 j = f 41 j) ∧ (∀ q, q < a → f' 43 q = f 43 q) ∧ BC F z f' b
def TE (F : Nat → Nat → Int32) (z : Nat) (P : Nat → Nat) (ro rs : Nat → Nat → Int32) (rw rb : Nat → Nat) (m : Nat → Nat → Int32) (dpt k : Nat) : Prop :=
  ∀ (f : Nat → Nat → Int32) (us : Nat → Bool) (uI : Int32) (pre : List Nat) (a : Nat) (b : Option (List Nat)), a = pre.length → a + k = z → PX z pre → (∀ i, i < z → (us i = true ↔ i ∈ pre)) → (∀ i, i < z → btB uI (P i) = us i) → okp F z P pre → AX F z P f → (∀ i, i < a → f 43 i = nI (P (pre.getD i 0))) → BC F z f b → wN F (pre.map P) a < fwN F b →
    Mt dpt 0 0 mX0_tryEach [.ref 41, .int (nI a), .int uI, .int (nI (wN F (pre.map P) a))] (HH f ro rs rw rb m) (TQ F z ro rs rw rb m f a (tr z (stC F z P) k us pre b))
theorem c_tryNext {k : Nat} (IH : TE F z P ro rs rw rb m (dp + (2 * k + 2)) k) {f : Nat → Nat → Int32} {us : Nat → Bool} {uI : Int32} {pre : List Nat} {a i : Nat} {b : Option (List Nat)} (ha : a = pre.length) (hak : a + (k + 1) = z) (hpx : PX z pre) (hus : ∀ i, i < z → (us i = true ↔ i ∈ pre)) (hub : ∀ i, i < z → btB uI (P i) = us i) (hA : AX F z P f) (h43 : ∀ i, i < a → f 43 i = nI (P (pre.getD i 0))) (hB : BC F z f b) (hi : i < z) (hnm : i ∉ pre) (hok : okp F z P (pre ++ [i])) :
    Mt (dp + (2 * k + 2) + 1) 0 0 mX0_tryNext [.ref 41, .int (nI (P i)), .int (nI a), .int uI, .int (nI (wN F (pre.map P) a))] (HH f ro rs rw rb m) (TQ F z ro rs rw rb m f a (tr z (stC F z P) k (fun j => us j || j == i) (pre ++ [i]) b)) := by
  refine Mt.of rfl rfl (Nat.le_of_ble_eq_true rfl) rfl ?_
  obtain ⟨hz, a4, a5, a42, ainj, hC, hFB, hPl⟩ := id hA
  have hPi := (a42 i hi).2
  have fb := hB.bd hz
  have hlen : ((pre ++ [i]).map P).length = a + 1 := by simp [ha]
  have gl : ∀ q, q < a → ((pre ++ [i]).map P).getD q 0 = P (pre.getD q 0) := fun q hq => by
    rw [map_getD (by simp; omega), getD_pre (List.prefix_append pre [i]) (by omega)]
  have ge : (pre ++ [i]).getD a 0 = i := by rw [List.getD_eq_getElem?_getD, List.getElem?_append_right (by omega), ha]; simp
  have gs : ((pre ++ [i]).map P).getD a 0 = P i := by rw [map_getD (by simp; omega), ge]
  have w0 : wN F ((pre ++ [i]).map P) a = wN F (pre.map P) a := wN_pre (fun q hq => by rw [gl q hq, map_getD (by omega)])
  have wb := wN_bd F ((pre ++ [i]).map P) (a + 1)
  generalize hw : wN F ((pre ++ [i]).map P) (a + 1) = w at wb
  have ws : w = wN F (pre.map P) a + (if a = 0 then 0 else wyN F (((pre ++ [i]).map P).getD (a - 1) 0) (P i)) := by rw [← hw, wN, w0, gs]
  have mid : V mX0_tryNext (dp + (2 * k + 2) + 1) 0 0 30 [some (.ref 41), some (.int (nI (P i))), some (.int (nI a)), some (.int uI), some (.int (nI (wN F (pre.map P) a))), some (.int (nI w))] [] (HH f ro rs rw rb m) (TQ F z ro rs rw rb m f a (tr z (stC F z P) k (fun j => us j || j == i) (pre ++ [i]) b)) := by
    have hpx' := hpx.add hi hnm
    have hus' : ∀ j, j < z → ((us j || j == i) = true ↔ j ∈ pre ++ [i]) := fun j hj => by rw [Bool.or_eq_true, hus j hj, List.mem_append]; simp
    refine V.iload dX0_tryNext_30 rfl ?_
    refine V.aldn 0 dX0_tryNext_32 rfl rfl ?_
    refine V.gf0_6 dX0_tryNext_33 f_X0_32 ?_
    refine V.top hB.1 ?_
    first | refine V.icmp_geN 60 dX0_tryNext_36 (by decide) (by omega) (by omega) (fun c36 => ?_) (fun c36 => ?_) | refine V.icmp_ge 60 dX0_tryNext_36 (by decide) (fun c36 => ?_) (fun c36 => ?_)
    · have e : tr z (stC F z P) k (fun j => us j || j == i) (pre ++ [i]) b = b := tr_id k _ _ (by simp; omega) hpx' hus' (fun q h1 h2 h3 => by rw [stC, if_neg]; rintro ⟨-, q2⟩; have g1 := wN_mono F (q.map P) (k := a + 1) (k' := q.length) (by omega); have g2 : wN F (q.map P) (a + 1) = w := (by rw [← hw]; exact wN_pre (fun y hy => by rw [map_getD (by omega), map_getD (by simp; omega), getD_pre h3 (by simp; omega)])); omega)
      exact V.vreturn dX0_tryNext_60 rfl (by rw [e]; exact ⟨f, rfl, rfl, Sm.rf, fun _ _ => rfl, fun _ _ => rfl, hB⟩)
    · refine V.aldn 0 dX0_tryNext_39 rfl rfl ?_
      refine V.gf0_2 dX0_tryNext_40 f_X0_15 ?_
      refine V.ildn 2 dX0_tryNext_43 rfl rfl ?_
      refine V.ildn 1 dX0_tryNext_44 rfl rfl ?_
      refine V.ast_43 dX0_tryNext_45 (ix_nI (by omega) (by decide)) ?_
      refine V.aldn 0 dX0_tryNext_46 rfl rfl ?_
      refine V.ildn 2 dX0_tryNext_47 rfl rfl ?_
      refine V.iconst (nI 1) dX0_tryNext_48 (by decide +kernel) ?_
      first | refine V.iaddN dX0_tryNext_49 ?_ | refine V.iadd dX0_tryNext_49 ?_
      refine V.ildn 3 dX0_tryNext_50 rfl rfl ?_
      refine V.iconst (nI 1) dX0_tryNext_51 (by decide +kernel) ?_
      refine V.ildn 1 dX0_tryNext_52 rfl rfl ?_
      refine V.ishl dX0_tryNext_53 ?_
      refine V.ior dX0_tryNext_54 ?_
      refine V.iload dX0_tryNext_55 rfl ?_
      refine V.cVe (IH (up2 f 43 a (nI (P i))) (fun j => us j || j == i) (uI ||| (nI 1 <<< (nI (P i) &&& 31))) (pre ++ [i]) (a + 1) b (by simp; omega) (by omega) hpx' hus' (fun j hj => by rw [btB_set (by omega) (by have := (a42 j hj).2; omega), hub j hj]; congr 1; rw [Bool.eq_iff_iff, beq_iff_eq, beq_iff_eq]; exact ⟨fun q => ainj j i hj hi q, fun q => by rw [q]⟩) hok (hA.sm (Sm.rf.up (by decide)) (fun j _ => by rw [up2_ne (by decide)])) (fun q hq => by rw [up2_at]; split; (rename_i e; rw [e.2, ge]); (rename_i e; rw [h43 q (by omega), getD_pre (List.prefix_append pre [i]) (by omega)])) ⟨by rw [up2_ne (by decide)]; exact hB.1, by rw [up2_ne (by decide)]; exact hB.2⟩ (by rw [hw]; exact c36)) dX0_tryNext_57 k_X0_36 rfl (by rw [hw]; rfl) rfl (Nat.le_of_ble_eq_true rfl) rfl ?_
      rintro _ _ ⟨f2, rfl, rfl, g1, g2, g3, g4⟩
      refine V.eqs (st' := []) rfl ?_
      exact V.vreturn dX0_tryNext_60 rfl (⟨f2, rfl, rfl, Sm.tr (Sm.rf.up (by decide)) g1, fun j hj => by rw [g2 j hj, up2_ne (by decide)], fun q hq => by rw [g3 q (by omega), up2_at, if_neg (by omega)], g4⟩)
  refine V.ildn 2 dX0_tryNext_0 rfl rfl ?_
  first | refine V.if_leN 26 dX0_tryNext_1 (by decide) (by omega) (fun c1 => ?_) (fun c1 => ?_) | refine V.if_le 26 dX0_tryNext_1 (by decide) (fun c1 => ?_) (fun c1 => ?_)
  · rw [if_pos c1, Nat.add_zero] at ws
    refine V.iload dX0_tryNext_26 rfl ?_
    refine V.istore dX0_tryNext_28 (Nat.le_of_ble_eq_true rfl) ?_
    first | exact mid | exact V.eql (by rw [ws]; rfl) mid
  · rw [if_neg (by omega), gl (a - 1) (by omega)] at ws
    have hp20 : P (pre.getD (a - 1) 0) < 20 := (a42 _ (hpx.2 _ (getD_mem (by omega)))).2
    refine V.iload dX0_tryNext_4 rfl ?_
    refine V.aldn 0 dX0_tryNext_6 rfl rfl ?_
    refine V.gf0_0 dX0_tryNext_7 f_X0_21 ?_
    refine V.aldn 0 dX0_tryNext_10 rfl rfl ?_
    refine V.gf0_2 dX0_tryNext_11 f_X0_15 ?_
    refine V.ildn 2 dX0_tryNext_14 rfl rfl ?_
    refine V.iconst (nI 1) dX0_tryNext_15 (by decide +kernel) ?_
    first | refine V.isubN dX0_tryNext_16 (by omega) ?_ | refine V.isub dX0_tryNext_16 ?_
    refine V.ald_43 dX0_tryNext_17 (ix_nI (by omega) (by decide)) ?_
    refine V.top (h43 (a - 1) (by omega)) ?_
    refine V.ildn 1 dX0_tryNext_18 rfl rfl ?_
    refine V.cVi ((c_way hC hFB hPl hp20 hPi : Mt (dp + (2 * k + 1) + 1) 0 0 _ _ _ _)) dX0_tryNext_19 k_X0_80 rfl rfl rfl (Nat.le_of_ble_eq_true rfl) rfl ?_
    refine V.iadd dX0_tryNext_22 (V.top (y := nI w) (by rw [wy_nI hFB hPl hp20 hPi, nI_add, ← ws]) ?_)
    refine V.goto 28 dX0_tryNext_23 (by decide) ?_
    refine V.istore dX0_tryNext_28 (Nat.le_of_ble_eq_true rfl) ?_
    first | exact mid | exact V.eql (by rw [ws]; rfl) mid
theorem c_tryEach : ∀ (k : Nat), TE F z P ro rs rw rb m (dp + (2 * k + 2)) k := by
  intro k
  induction k with
  | zero =>
    intro f us uI pre a b ha hak hpx hus hub hok hA h43 hB hlt
    refine Mt.of rfl rfl (Nat.le_of_ble_eq_true rfl) rfl ?_
    obtain ⟨hz, a4, a5, a42, ainj, hC, hFB, hPl⟩ := id hA
    obtain rfl : a = z := by omega
    have e : tr a (stC F a P) 0 us pre b = some (pre.map P) := by
      show stC F a P pre b = _
      rw [stC, if_pos ⟨dB_t hok, by rw [← ha]; exact hlt⟩]
    rw [e]
    refine V.ildn 1 dX0_tryEach_0 rfl rfl ?_
    refine V.aldn 0 dX0_tryEach_1 rfl rfl ?_
    refine V.gf0_4 dX0_tryEach_2 f_X0_45 ?_
    refine V.top a4 ?_
    first | refine V.icmp_ltN 31 dX0_tryEach_5 (by decide) (by omega) (by omega) (fun c5 => ?_) (fun c5 => ?_) | refine V.icmp_lt 31 dX0_tryEach_5 (by decide) (fun c5 => ?_) (fun c5 => ?_)
    · exact absurd c5 (Nat.lt_irrefl a)
    · refine V.aldn 0 dX0_tryEach_8 rfl rfl ?_
      refine V.ildn 3 dX0_tryEach_9 rfl rfl ?_
      refine V.pf0_6 dX0_tryEach_10 (fp_X0_32 rfl) ?_
      refine V.aldn 0 dX0_tryEach_13 rfl rfl ?_
      refine V.gf0_2 dX0_tryEach_14 f_X0_15 ?_
      refine V.iconst (nI 0) dX0_tryEach_17 (by decide +kernel) ?_
      refine V.aldn 0 dX0_tryEach_18 rfl rfl ?_
      refine V.gf0_3 dX0_tryEach_19 f_X0_18 ?_
      refine V.iconst (nI 0) dX0_tryEach_22 (by decide +kernel) ?_
      refine V.aldn 0 dX0_tryEach_23 rfl rfl ?_
      refine V.gf0_4 dX0_tryEach_24 f_X0_45 ?_
      refine V.top (y := nI a) a4 ?_
      refine V.acopy (sp' := 0) (dp' := 0) (n' := a) dX0_tryEach_27 a_X0_67 a_native a_static a_init rfl rfl (by decide +kernel) (by decide +kernel) (nI_pos (by omega)) (by decide +kernel) (by decide +kernel) (nI_clamp (by omega)) (by omega) (by omega) (Nat.le_of_ble_eq_true rfl) (Nat.le_of_ble_eq_true rfl) ?_
      exact V.vreturn dX0_tryEach_30 rfl ⟨upA (up2 f 41 6 (nI (wN F (pre.map P) a))) 44 (va_cpy (f 43) (f 44) 0 0 a), rfl, rfl, fun i hi => by rw [upA_n (fun q => hi (by rw [q]; decide)), up2_ne (fun q => hi (by rw [q]; decide))], fun j hj => by rw [upA_n (by decide), up2_at, if_neg (by omega)], fun q hq => by rw [upA_n (by decide), up2_ne (by decide)], by rw [upA_n (by decide), up2_at, if_pos ⟨rfl, rfl⟩]; show _ = nI (wN F (pre.map P) (pre.map P).length); rw [List.length_map, ← ha], fun r hr => by cases hr; refine ⟨by rw [List.length_map]; exact ha.symm, fun i hi => ?_⟩; rw [upA_s, va_cpy, if_pos (by omega), show 0 + (i - 0) = i by omega, map_getD (by omega)]; exact ⟨h43 i hi, (a42 _ (hpx.2 _ (getD_mem (by omega)))).2⟩⟩
  | succ k IH =>
    intro f us uI pre a b ha hak hpx hus hub hok hA h43 hB hlt
    refine Mt.of rfl rfl (Nat.le_of_ble_eq_true rfl) rfl ?_
    obtain ⟨hz, a4, a5, a42, ainj, hC, hFB, hPl⟩ := id hA
    generalize hst : (fun (i : Nat) (b : Option (List Nat)) => if us i = true then b else tr z (stC F z P) k (fun j => us j || j == i) (pre ++ [i]) b) = g
    have hres : tr z (stC F z P) (k + 1) us pre b = fo g b z := by rw [tr, hst]
    rw [hres]
    have hg : ∀ i b, g i b = if us i = true then b else tr z (stC F z P) k (fun j => us j || j == i) (pre ++ [i]) b := fun i b => by rw [← hst]
    generalize hQ : TQ F z ro rs rw rb m f a (fo g b z) = Q
    have loop : ∀ (j i : Nat) (f' : Nat → Nat → Int32) (o5 : Option Value), z - i = j → i ≤ z → Sm [41, 43, 44] f f' → (∀ j, j ≠ 6 → f' 41 j = f 41 j) → (∀ q, q < a → f' 43 q = f 43 q) → BC F z f' (fo g b i) → V mX0_tryEach (dp + (2 * (k + 1) + 2)) 0 0 34 [some (.ref 41), some (.int (nI a)), some (.int uI), some (.int (nI (wN F (pre.map P) a))), some (.int (nI i)), o5] [] (HH f' ro rs rw rb m) Q := by
      intro j
      induction j using Nat.strongRecOn with
      | _ j ih =>
        intro i f' o5 hj hi hS s41 s43 hB'
        have hA' := hA.sm hS s41
        obtain ⟨-, a4', a5', a42', -, hC', -, -⟩ := id hA'
        have nxt : ∀ (f2 : Nat → Nat → Int32) (o5 : Option Value), i < z → Sm [41, 43, 44] f f2 → (∀ j, j ≠ 6 → f2 41 j = f 41 j) → (∀ q, q < a → f2 43 q = f 43 q) → BC F z f2 (g i (fo g b i)) → V mX0_tryEach (dp + (2 * (k + 1) + 2)) 0 0 102 [some (.ref 41), some (.int (nI a)), some (.int uI), some (.int (nI (wN F (pre.map P) a))), some (.int (nI i)), o5] [] (HH f2 ro rs rw rb m) Q := by
          intro f2 o5 hi' q1 q2 q3 q4
          first | refine V.iincN dX0_tryEach_102 rfl ?_ | refine V.iinc dX0_tryEach_102 rfl rfl ?_
          refine V.goto 34 dX0_tryEach_105 (by decide) ?_
          exact ih _ (by omega) (i + 1) f2 o5 rfl (by omega) q1 q2 q3 q4
        have hokw : i < z → (F 7 (P i) &&& f' 41 5 &&& (uI ^^^ (-1))) = 0 → okp F z P (pre ++ [i]) := by
          intro hiz hc y hy j hj hb
          have ge : (pre ++ [i]).getD a 0 = i := by rw [List.getD_eq_getElem?_getD, List.getElem?_append_right (by omega), ha]; simp
          by_cases e : y < a
          · rw [getD_pre (List.prefix_append pre [i]) (by omega)] at hb
            obtain ⟨i', h1, h2⟩ := hok y (by omega) j hj hb
            exact ⟨i', h1, by rw [getD_pre (List.prefix_append pre [i]) (by omega)]; exact h2⟩
          · obtain rfl : y = a := by simp at hy; omega
            rw [ge] at hb
            have hP2 := (a42 j hj).2
            have := and_0.mp hc (P j) (by omega)
            rw [btB_and (by omega), Bool.and_eq_true, btB_not (by omega), Bool.not_eq_true'] at this
            have hu2 : us j = true := by
              cases h : us j with
              | true => rfl
              | false => exact absurd ⟨⟨hb, (a5' (P j) (by omega)).mpr ⟨j, hj, rfl⟩⟩, by rw [hub j hj]; exact h⟩ this
            obtain ⟨i', h1, h2⟩ := mem_getD ((hus j hj).mp hu2)
            exact ⟨i', by omega, by rw [getD_pre (List.prefix_append pre [i]) h1]; exact h2⟩
        refine V.iload dX0_tryEach_34 rfl ?_
        refine V.aldn 0 dX0_tryEach_36 rfl rfl ?_
        refine V.gf0_4 dX0_tryEach_37 f_X0_45 ?_
        refine V.top a4' ?_
        first | refine V.icmp_geN 108 dX0_tryEach_40 (by decide) (by omega) (by omega) (fun c40 => ?_) (fun c40 => ?_) | refine V.icmp_ge 108 dX0_tryEach_40 (by decide) (fun c40 => ?_) (fun c40 => ?_)
        · exact V.vreturn dX0_tryEach_108 rfl (by rw [← hQ]; obtain rfl : i = z := (by omega); exact ⟨f', rfl, rfl, hS, s41, s43, hB'⟩)
        · have hPi := (a42 i c40).2
          have e42 := (a42' i c40).1
          refine V.aldn 0 dX0_tryEach_43 rfl rfl ?_
          refine V.gf0_0 dX0_tryEach_44 f_X0_21 ?_
          refine V.gf2_5 dX0_tryEach_47 f_X0_73 ?_
          refine V.aldn 0 dX0_tryEach_50 rfl rfl ?_
          refine V.gf0_1 dX0_tryEach_51 f_X0_9 ?_
          refine V.iload dX0_tryEach_54 rfl ?_
          refine V.ald_42 dX0_tryEach_56 (ix_nI (by omega) (by decide)) ?_
          refine V.top e42 ?_
          refine V.ald_7 dX0_tryEach_57 (ix_nI (by omega) (by decide)) ?_
          refine V.top (y := F 7 (P i)) (congrFun (hC' 7 rfl) (P i)) ?_
          refine V.aldn 0 dX0_tryEach_58 rfl rfl ?_
          refine V.gf0_5 dX0_tryEach_59 f_X0_55 ?_
          refine V.iand dX0_tryEach_62 ?_
          refine V.ildn 2 dX0_tryEach_63 rfl rfl ?_
          refine V.iconst (-1) dX0_tryEach_64 (by decide +kernel) ?_
          refine V.ixor dX0_tryEach_65 ?_
          refine V.iand dX0_tryEach_66 ?_
          refine V.istore dX0_tryEach_67 (Nat.le_of_ble_eq_true rfl) ?_
          refine V.ildn 2 dX0_tryEach_69 rfl rfl ?_
          refine V.aldn 0 dX0_tryEach_70 rfl rfl ?_
          refine V.gf0_1 dX0_tryEach_71 f_X0_9 ?_
          refine V.iload dX0_tryEach_74 rfl ?_
          refine V.ald_42 dX0_tryEach_76 (ix_nI (by omega) (by decide)) ?_
          refine V.top e42 ?_
          refine V.cSi ((c_hasBit uI (P i) : Mt (dp + (2 * k + 2) + 1) 0 0 _ _ _ _)) dX0_tryEach_77 k_X0_63 rfl rfl (Nat.le_of_ble_eq_true rfl) rfl ?_
          first | refine V.if_neB 102 dX0_tryEach_80 (by decide) (fun c80 => ?_) (fun c80 => ?_) | refine V.if_neN 102 dX0_tryEach_80 (by decide) (by omega) (fun c80 => ?_) (fun c80 => ?_) | refine V.if_ne 102 dX0_tryEach_80 (by decide) (fun c80 => ?_) (fun c80 => ?_)
          · refine nxt _ _ c40 hS s41 s43 ?_
            rw [hg, if_pos (by rw [← hub i c40]; exact c80)]
            exact hB'
          · have hui : us i = false := by rw [← hub i c40]; exact c80
            have hnm : i ∉ pre := fun q => by rw [(hus i c40).mpr q] at hui; cases hui
            have hpx' := hpx.add c40 hnm
            have hus' : ∀ j, j < z → ((us j || j == i) = true ↔ j ∈ pre ++ [i]) := fun j hj => by rw [Bool.or_eq_true, hus j hj, List.mem_append]; simp
            have ge : (pre ++ [i]).getD a 0 = i := by rw [List.getD_eq_getElem?_getD, List.getElem?_append_right (by omega), ha]; simp
            refine V.iload dX0_tryEach_83 rfl ?_
            refine V.if_ne 102 dX0_tryEach_85 (by decide) (fun c85 => ?_) (fun c85 => ?_)
            · refine nxt _ _ c40 hS s41 s43 ?_
              rw [hg, if_neg (by rw [hui]; decide), tr_id k _ _ (by simp; omega) hpx' hus' (fun q h1 h2 h3 => ?_)]
              · exact hB'
              rw [stC, if_neg]
              rintro ⟨q1, -⟩
              refine c85 (and_0.mpr (fun x hx hb => ?_))
              rw [btB_and hx, Bool.and_eq_true, btB_not hx, Bool.not_eq_true'] at hb
              obtain ⟨j, hj, rfl⟩ := (a5' x hx).mp hb.1.2
              obtain ⟨i', hi1, hi2⟩ := of_dB q1 a (by omega) j hj (by rw [getD_pre h3 (by simp; omega), ge]; exact hb.1.1)
              have hjm : j ∈ pre := by rw [← hi2, getD_pre h3 (by simp; omega), getD_pre (List.prefix_append pre [i]) (by omega)]; exact getD_mem (by omega)
              rw [hub j hj, (hus j hj).mpr hjm] at hb
              cases hb.2
            · have hok' := hokw c40 c85
              refine V.aldn 0 dX0_tryEach_88 rfl rfl ?_
              refine V.aldn 0 dX0_tryEach_89 rfl rfl ?_
              refine V.gf0_1 dX0_tryEach_90 f_X0_9 ?_
              refine V.iload dX0_tryEach_93 rfl ?_
              refine V.ald_42 dX0_tryEach_95 (ix_nI (by omega) (by decide)) ?_
              refine V.top e42 ?_
              refine V.ildn 1 dX0_tryEach_96 rfl rfl ?_
              refine V.ildn 2 dX0_tryEach_97 rfl rfl ?_
              refine V.ildn 3 dX0_tryEach_98 rfl rfl ?_
              refine V.cVe (c_tryNext IH ha (by omega) hpx hus hub hA' (fun q hq => by rw [s43 q hq]; exact h43 q hq) hB' c40 hnm hok') dX0_tryEach_99 k_X0_76 rfl rfl rfl (Nat.le_of_ble_eq_true rfl) rfl ?_
              rintro _ _ ⟨f2, rfl, rfl, g1, g2, g3, g4⟩
              refine V.eqs (st' := []) rfl ?_
              refine nxt _ _ c40 (hS.tr g1) (fun j hj => (g2 j hj).trans (s41 j hj)) (fun q hq => (g3 q hq).trans (s43 q hq)) ?_
              rw [hg, if_neg (by rw [hui]; decide)]
              exact g4
    refine V.ildn 1 dX0_tryEach_0 rfl rfl ?_
    refine V.aldn 0 dX0_tryEach_1 rfl rfl ?_
    refine V.gf0_4 dX0_tryEach_2 f_X0_45 ?_
    refine V.top a4 ?_
    first | refine V.icmp_ltN 31 dX0_tryEach_5 (by decide) (by omega) (by omega) (fun c5 => ?_) (fun c5 => ?_) | refine V.icmp_lt 31 dX0_tryEach_5 (by decide) (fun c5 => ?_) (fun c5 => ?_)
    · refine V.iconst (nI 0) dX0_tryEach_31 (by decide +kernel) ?_
      refine V.istore dX0_tryEach_32 (Nat.le_of_ble_eq_true rfl) ?_
      exact loop _ 0 f _ rfl (Nat.zero_le _) Sm.rf (fun _ _ => rfl) (fun _ _ => rfl) hB
    · exact absurd c5 (by omega)
end CLASS
