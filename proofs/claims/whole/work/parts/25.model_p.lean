/-! the reference: what is told of scenes, players, places, days -/
theorem up2_back (g : Nat → Nat → Int32) (i j : Nat) (v w : Int32) (h : w = g i j) : up2 (up2 g i j v) i j w = g := by
  funext a b
  rw [up2_at, up2_at]
  by_cases e : a = i ∧ b = j
  · rw [if_pos e, e.1, e.2, h]
  · rw [if_neg e, if_neg e]
theorem up2_comm (g : Nat → Nat → Int32) {i j i' j' : Nat} (v w : Int32) (h : i ≠ i') : up2 (up2 g i j v) i' j' w = up2 (up2 g i' j' w) i j v := by
  funext a b
  rw [up2_at, up2_at, up2_at, up2_at]
  by_cases e : a = i' ∧ b = j'
  · rw [if_pos e, if_neg (by omega), if_pos e]
  · rw [if_neg e, if_neg e]
theorem film_up {F m : Nat → Nat → Int32} {i j : Nat} {v : Int32} (h : ∀ k, isF k = true → m k = F k) : ∀ k, isF k = true → up2 m i j v k = up2 F i j v k := by
  intro k hk
  funext b
  rw [up2_at, up2_at, h k hk]
theorem film_no {F m : Nat → Nat → Int32} {i j : Nat} {v : Int32} (hi : isF i = false) (h : ∀ k, isF k = true → m k = F k) : ∀ k, isF k = true → up2 m i j v k = F k := by
  intro k hk
  rw [up2_ne (fun e => by rw [e, hi] at hk; cases hk)]
  exact h k hk
theorem PlV.up {F : Nat → Nat → Int32} {i j : Nat} {v : Int32} (h : PlV F) (hi : i ≠ 3) : PlV (up2 F i j v) := by
  intro s hs
  unfold pl
  rw [up2_ne (fun e => hi e.symm)]
  exact h s hs
theorem MS.up {F : Nat → Nat → Int32} {n nd : Nat} {R : Nat → List Nat} {D : Nat → Option Nat} {m : Nat → Nat → Int32} {i j : Nat} {v : Int32} (h : MS F n nd R D m) (hi : isF i = true) (h3 : i ≠ 3) : MS (up2 F i j v) n nd R D (up2 m i j v) := by
  obtain ⟨⟨hnd, h13, hF, hp, hR⟩, hD, h1, h8⟩ := h
  have ne : ∀ k, isF k = false → k ≠ i := fun k hk e => by rw [e, hi] at hk; cases hk
  exact ⟨⟨hnd, by rw [up2_ne (ne 13 rfl)]; exact h13, film_up hF, hp.up h3, fun a ha => rowM_congr (by rw [up2_ne (ne 16 rfl)]) (fun k hk => by rw [up2_ne (ne 17 rfl)]) (hR a ha)⟩, hD, by rw [up2_ne (ne 1 rfl)]; exact h1, fun s hs => by rw [up2_ne (ne 8 rfl)]; exact h8 s hs⟩
def inr1 (F : Nat → Nat → Int32) (x : Int32) : Nat → Int32
  | 0 => x
  | s + 1 => if btB (inr1 F x s) s = true then inr1 F x s ||| F 7 s else inr1 F x s
def clo (F : Nat → Nat → Int32) (n : Nat) (x : Int32) : Nat → Int32
  | 0 => x
  | r + 1 => inr1 F (clo F n x r) n
/-- what aheads becomes, and what days become -/
def fAh (F : Nat → Nat → Int32) (a b : Nat) : Nat → Nat → Int32 := up2 F 7 b (F 7 b ||| (nI 1 <<< (nI a &&& 31)))
def fDay (F : Nat → Nat → Int32) (d : Nat) (a b : Int32) : Nat → Nat → Int32 := up2 (up2 F 14 d a) 15 d b
def fScene (F : Nat → Nat → Int32) (n : Nat) (a b c o w : Int32) : Nat → Nat → Int32 := up2 (up2 (up2 (up2 (up2 F 2 n a) 3 n b) 4 n c) 5 n o) 6 n w
theorem ah_back {y : Int32} {a : Nat} (ha : a < 32) (h : btB y a = false) : ((y ||| (nI 1 <<< (nI a &&& 31))) &&& ((nI 1 <<< (nI a &&& 31)) ^^^ (-1))) = y := by
  refine b_ext (fun i hi => ?_)
  rw [b_and, b_or, b_xor, b_m1 i hi, bt_one ha hi]
  by_cases e : i = a
  · subst e
    rw [btB_bt hi] at h
    rw [h]; simp
  · rw [decide_eq_false e]; simp
section MODEL
variable {f ro rs : Nat → Nat → Int32} {rw rb : Nat → Nat} {m : Nat → Nat → Int32} {dp : Nat} {F : Nat → Nat → Int32} {n nd : Nat} {R : Nat → List Nat} {D : Nat → Option Nat}
theorem t_player_none {x a g : Int32} (h : isIn x 8 = false) : Mt (dp + 2) 0 0 mX7_player [.ref 45, .int x, .int a, .int g] (HH f ro rs rw rb m) (RI (-1) (HH f ro rs rw rb m)) := by
  refine Mt.of rfl rfl (Nat.le_of_ble_eq_true rfl) rfl ?_
  refine V.ildn 1 dX7_player_0 rfl rfl ?_
  refine V.iconst (nI 0) dX7_player_1 (by decide +kernel) ?_
  refine V.bipush (nI 7) dX7_player_2 (by decide +kernel) ?_
  refine V.cSi (t_in x (nI 0) (nI 7)) dX7_player_4 k_X7_87 rfl rfl (Nat.le_of_ble_eq_true rfl) rfl ?_
  rw [inB_7, h]
  first | refine V.if_neB 12 dX7_player_7 (by decide) (fun c7 => ?_) (fun c7 => ?_) | refine V.if_neN 12 dX7_player_7 (by decide) (by omega) (fun c7 => ?_) (fun c7 => ?_) | refine V.if_ne 12 dX7_player_7 (by decide) (fun c7 => ?_) (fun c7 => ?_)
  · cases c7
  · refine V.iconst (-1) dX7_player_10 (by decide +kernel) ?_
    exact V.ireturn dX7_player_11 rfl (by first | rfl | decide +kernel) (⟨rfl, rfl⟩)
theorem t_player_bad {x a g : Int32} (hx : isIn x 8 = true) (h : inB a (nI 0) (nI 1000) = false ∨ inB g (nI 0) (nI 10) = false) : Mt (dp + 2) 0 0 mX7_player [.ref 45, .int x, .int a, .int g] (HH f ro rs rw rb m) (RI (-2) (HH f ro rs rw rb m)) := by
  refine Mt.of rfl rfl (Nat.le_of_ble_eq_true rfl) rfl ?_
  refine V.ildn 1 dX7_player_0 rfl rfl ?_
  refine V.iconst (nI 0) dX7_player_1 (by decide +kernel) ?_
  refine V.bipush (nI 7) dX7_player_2 (by decide +kernel) ?_
  refine V.cSi (t_in x (nI 0) (nI 7)) dX7_player_4 k_X7_87 rfl rfl (Nat.le_of_ble_eq_true rfl) rfl ?_
  rw [inB_7, hx]
  first | refine V.if_neB 12 dX7_player_7 (by decide) (fun c7 => ?_) (fun c7 => ?_) | refine V.if_neN 12 dX7_player_7 (by decide) (by omega) (fun c7 => ?_) (fun c7 => ?_) | refine V.if_ne 12 dX7_player_7 (by decide) (fun c7 => ?_) (fun c7 => ?_)
  · refine V.ildn 2 dX7_player_12 rfl rfl ?_
    refine V.iconst (nI 0) dX7_player_13 (by decide +kernel) ?_
    refine V.sipush (nI 1000) dX7_player_14 (by decide +kernel) ?_
    refine V.cSi (t_in a (nI 0) (nI 1000)) dX7_player_17 k_X7_87 rfl rfl (Nat.le_of_ble_eq_true rfl) rfl ?_
    first | refine V.if_eqB 33 dX7_player_20 (by decide) (fun c20 => ?_) (fun c20 => ?_) | refine V.if_eqN 33 dX7_player_20 (by decide) (by omega) (fun c20 => ?_) (fun c20 => ?_) | refine V.if_eq 33 dX7_player_20 (by decide) (fun c20 => ?_) (fun c20 => ?_)
    · refine V.bipush (-2) dX7_player_33 (by decide +kernel) ?_
      exact V.ireturn dX7_player_35 rfl (by first | rfl | decide +kernel) (⟨rfl, rfl⟩)
    · refine V.ildn 3 dX7_player_23 rfl rfl ?_
      refine V.iconst (nI 0) dX7_player_24 (by decide +kernel) ?_
      refine V.bipush (nI 10) dX7_player_25 (by decide +kernel) ?_
      refine V.cSi (t_in g (nI 0) (nI 10)) dX7_player_27 k_X7_87 rfl rfl (Nat.le_of_ble_eq_true rfl) rfl ?_
      first | refine V.if_neB 36 dX7_player_30 (by decide) (fun c30 => ?_) (fun c30 => ?_) | refine V.if_neN 36 dX7_player_30 (by decide) (by omega) (fun c30 => ?_) (fun c30 => ?_) | refine V.if_ne 36 dX7_player_30 (by decide) (fun c30 => ?_) (fun c30 => ?_)
      · rw [c20, c30] at h
        rcases h with h | h <;> cases h
      · refine V.bipush (-2) dX7_player_33 (by decide +kernel) ?_
        exact V.ireturn dX7_player_35 rfl (by first | rfl | decide +kernel) (⟨rfl, rfl⟩)
  · cases c7
theorem t_player (hM : MS F n nd R D m) {p : Nat} (hp : p < 8) {a g : Int32} (h1 : inB a (nI 0) (nI 1000) = true) (h2 : inB g (nI 0) (nI 10) = true) : Mt (dp + 2) 0 0 mX7_player [.ref 45, .int (nI p), .int a, .int g] (HH f ro rs rw rb m) (fun r h' => ∃ m', r = some (.int (nI 0)) ∧ h' = HH f ro rs rw rb m' ∧ MS (up2 (up2 F 9 p a) 10 p g) n nd R D m') := by
  refine Mt.of rfl rfl (Nat.le_of_ble_eq_true rfl) rfl ?_
  refine V.ildn 1 dX7_player_0 rfl rfl ?_
  refine V.iconst (nI 0) dX7_player_1 (by decide +kernel) ?_
  refine V.bipush (nI 7) dX7_player_2 (by decide +kernel) ?_
  refine V.cSi (t_in (nI p) (nI 0) (nI 7)) dX7_player_4 k_X7_87 rfl rfl (Nat.le_of_ble_eq_true rfl) rfl ?_
  rw [inB_7, isIn_nI hp (by decide)]
  first | refine V.if_neB 12 dX7_player_7 (by decide) (fun c7 => ?_) (fun c7 => ?_) | refine V.if_neN 12 dX7_player_7 (by decide) (by omega) (fun c7 => ?_) (fun c7 => ?_) | refine V.if_ne 12 dX7_player_7 (by decide) (fun c7 => ?_) (fun c7 => ?_)
  · refine V.ildn 2 dX7_player_12 rfl rfl ?_
    refine V.iconst (nI 0) dX7_player_13 (by decide +kernel) ?_
    refine V.sipush (nI 1000) dX7_player_14 (by decide +kernel) ?_
    refine V.cSi (t_in a (nI 0) (nI 1000)) dX7_player_17 k_X7_87 rfl rfl (Nat.le_of_ble_eq_true rfl) rfl ?_
    first | refine V.if_eqB 33 dX7_player_20 (by decide) (fun c20 => ?_) (fun c20 => ?_) | refine V.if_eqN 33 dX7_player_20 (by decide) (by omega) (fun c20 => ?_) (fun c20 => ?_) | refine V.if_eq 33 dX7_player_20 (by decide) (fun c20 => ?_) (fun c20 => ?_)
    · rw [h1] at c20
      cases c20
    · refine V.ildn 3 dX7_player_23 rfl rfl ?_
      refine V.iconst (nI 0) dX7_player_24 (by decide +kernel) ?_
      refine V.bipush (nI 10) dX7_player_25 (by decide +kernel) ?_
      refine V.cSi (t_in g (nI 0) (nI 10)) dX7_player_27 k_X7_87 rfl rfl (Nat.le_of_ble_eq_true rfl) rfl ?_
      first | refine V.if_neB 36 dX7_player_30 (by decide) (fun c30 => ?_) (fun c30 => ?_) | refine V.if_neN 36 dX7_player_30 (by decide) (by omega) (fun c30 => ?_) (fun c30 => ?_) | refine V.if_ne 36 dX7_player_30 (by decide) (fun c30 => ?_) (fun c30 => ?_)
      · refine V.aldn 0 dX7_player_36 rfl rfl ?_
        refine V.gf7_9 dX7_player_37 f_X7_32 ?_
        refine V.ildn 1 dX7_player_40 rfl rfl ?_
        refine V.ildn 2 dX7_player_41 rfl rfl ?_
        refine V.ast_53 dX7_player_42 (ix_nI (by omega) (by decide)) ?_
        refine V.aldn 0 dX7_player_43 rfl rfl ?_
        refine V.gf7_10 dX7_player_44 f_X7_35 ?_
        refine V.ildn 1 dX7_player_47 rfl rfl ?_
        refine V.ildn 3 dX7_player_48 rfl rfl ?_
        refine V.ast_54 dX7_player_49 (ix_nI (by omega) (by decide)) ?_
        refine V.iconst (nI 0) dX7_player_50 (by decide +kernel) ?_
        exact V.ireturn dX7_player_51 rfl (by first | rfl | decide +kernel) (⟨_, rfl, rfl, (hM.up rfl (by decide)).up rfl (by decide)⟩)
      · rw [h2] at c30
        cases c30
  · cases c7
theorem t_rent_none {x a : Int32} (h : isIn x 8 = false) : Mt (dp + 2) 0 0 mX7_rent [.ref 45, .int x, .int a] (HH f ro rs rw rb m) (RI (-1) (HH f ro rs rw rb m)) := by
  refine Mt.of rfl rfl (Nat.le_of_ble_eq_true rfl) rfl ?_
  refine V.ildn 1 dX7_rent_0 rfl rfl ?_
  refine V.iconst (nI 0) dX7_rent_1 (by decide +kernel) ?_
  refine V.bipush (nI 7) dX7_rent_2 (by decide +kernel) ?_
  refine V.cSi (t_in x (nI 0) (nI 7)) dX7_rent_4 k_X7_87 rfl rfl (Nat.le_of_ble_eq_true rfl) rfl ?_
  rw [inB_7, h]
  first | refine V.if_neB 12 dX7_rent_7 (by decide) (fun c7 => ?_) (fun c7 => ?_) | refine V.if_neN 12 dX7_rent_7 (by decide) (by omega) (fun c7 => ?_) (fun c7 => ?_) | refine V.if_ne 12 dX7_rent_7 (by decide) (fun c7 => ?_) (fun c7 => ?_)
  · cases c7
  · refine V.iconst (-1) dX7_rent_10 (by decide +kernel) ?_
    exact V.ireturn dX7_rent_11 rfl (by first | rfl | decide +kernel) (⟨rfl, rfl⟩)
theorem t_rent_bad {x a : Int32} (hx : isIn x 8 = true) (h : inB a (nI 0) (nI 1000) = false) : Mt (dp + 2) 0 0 mX7_rent [.ref 45, .int x, .int a] (HH f ro rs rw rb m) (RI (-2) (HH f ro rs rw rb m)) := by
  refine Mt.of rfl rfl (Nat.le_of_ble_eq_true rfl) rfl ?_
  refine V.ildn 1 dX7_rent_0 rfl rfl ?_
  refine V.iconst (nI 0) dX7_rent_1 (by decide +kernel) ?_
  refine V.bipush (nI 7) dX7_rent_2 (by decide +kernel) ?_
  refine V.cSi (t_in x (nI 0) (nI 7)) dX7_rent_4 k_X7_87 rfl rfl (Nat.le_of_ble_eq_true rfl) rfl ?_
  rw [inB_7, hx]
  first | refine V.if_neB 12 dX7_rent_7 (by decide) (fun c7 => ?_) (fun c7 => ?_) | refine V.if_neN 12 dX7_rent_7 (by decide) (by omega) (fun c7 => ?_) (fun c7 => ?_) | refine V.if_ne 12 dX7_rent_7 (by decide) (fun c7 => ?_) (fun c7 => ?_)
  · refine V.ildn 2 dX7_rent_12 rfl rfl ?_
    refine V.iconst (nI 0) dX7_rent_13 (by decide +kernel) ?_
    refine V.sipush (nI 1000) dX7_rent_14 (by decide +kernel) ?_
    refine V.cSi (t_in a (nI 0) (nI 1000)) dX7_rent_17 k_X7_87 rfl rfl (Nat.le_of_ble_eq_true rfl) rfl ?_
    first | refine V.if_neB 26 dX7_rent_20 (by decide) (fun c20 => ?_) (fun c20 => ?_) | refine V.if_neN 26 dX7_rent_20 (by decide) (by omega) (fun c20 => ?_) (fun c20 => ?_) | refine V.if_ne 26 dX7_rent_20 (by decide) (fun c20 => ?_) (fun c20 => ?_)
    · rw [h] at c20
      cases c20
    · refine V.bipush (-2) dX7_rent_23 (by decide +kernel) ?_
      exact V.ireturn dX7_rent_25 rfl (by first | rfl | decide +kernel) (⟨rfl, rfl⟩)
  · cases c7
theorem t_rent (hM : MS F n nd R D m) {p : Nat} (hp : p < 8) {a : Int32} (h1 : inB a (nI 0) (nI 1000) = true) : Mt (dp + 2) 0 0 mX7_rent [.ref 45, .int (nI p), .int a] (HH f ro rs rw rb m) (fun r h' => ∃ m', r = some (.int (F 11 p)) ∧ h' = HH f ro rs rw rb m' ∧ MS (up2 F 11 p a) n nd R D m') := by
  refine Mt.of rfl rfl (Nat.le_of_ble_eq_true rfl) rfl ?_
  refine V.ildn 1 dX7_rent_0 rfl rfl ?_
  refine V.iconst (nI 0) dX7_rent_1 (by decide +kernel) ?_
  refine V.bipush (nI 7) dX7_rent_2 (by decide +kernel) ?_
  refine V.cSi (t_in (nI p) (nI 0) (nI 7)) dX7_rent_4 k_X7_87 rfl rfl (Nat.le_of_ble_eq_true rfl) rfl ?_
  rw [inB_7, isIn_nI hp (by decide)]
  first | refine V.if_neB 12 dX7_rent_7 (by decide) (fun c7 => ?_) (fun c7 => ?_) | refine V.if_neN 12 dX7_rent_7 (by decide) (by omega) (fun c7 => ?_) (fun c7 => ?_) | refine V.if_ne 12 dX7_rent_7 (by decide) (fun c7 => ?_) (fun c7 => ?_)
  · refine V.ildn 2 dX7_rent_12 rfl rfl ?_
    refine V.iconst (nI 0) dX7_rent_13 (by decide +kernel) ?_
    refine V.sipush (nI 1000) dX7_rent_14 (by decide +kernel) ?_
    refine V.cSi (t_in a (nI 0) (nI 1000)) dX7_rent_17 k_X7_87 rfl rfl (Nat.le_of_ble_eq_true rfl) rfl ?_
    first | refine V.if_neB 26 dX7_rent_20 (by decide) (fun c20 => ?_) (fun c20 => ?_) | refine V.if_neN 26 dX7_rent_20 (by decide) (by omega) (fun c20 => ?_) (fun c20 => ?_) | refine V.if_ne 26 dX7_rent_20 (by decide) (fun c20 => ?_) (fun c20 => ?_)
    · refine V.aldn 0 dX7_rent_26 rfl rfl ?_
      refine V.gf7_11 dX7_rent_27 f_X7_38 ?_
      refine V.ildn 1 dX7_rent_30 rfl rfl ?_
      refine V.ald_55 dX7_rent_31 (ix_nI (by omega) (by decide)) ?_
      refine V.top (congrFun (hM.1.2.2.1 11 rfl) p) ?_
      refine V.istn 3 dX7_rent_32 rfl (Nat.le_of_ble_eq_true rfl) ?_
      refine V.aldn 0 dX7_rent_33 rfl rfl ?_
      refine V.gf7_11 dX7_rent_34 f_X7_38 ?_
      refine V.ildn 1 dX7_rent_37 rfl rfl ?_
      refine V.ildn 2 dX7_rent_38 rfl rfl ?_
      refine V.ast_55 dX7_rent_39 (ix_nI (by omega) (by decide)) ?_
      refine V.ildn 3 dX7_rent_40 rfl rfl ?_
      exact V.ireturn dX7_rent_41 rfl (by first | rfl | decide +kernel) (⟨_, rfl, rfl, hM.up rfl (by decide)⟩)
    · rw [h1] at c20
      cases c20
  · cases c7
theorem t_spot_none {x a : Int32} (h : isIn x 8 = false) : Mt (dp + 4) 0 0 mX7_spot [.ref 45, .int x, .int a] (HH f ro rs rw rb m) (RI (-1) (HH f ro rs rw rb m)) := by
  refine Mt.of rfl rfl (Nat.le_of_ble_eq_true rfl) rfl ?_
  refine V.ildn 1 dX7_spot_0 rfl rfl ?_
  refine V.iconst (nI 0) dX7_spot_1 (by decide +kernel) ?_
  refine V.bipush (nI 7) dX7_spot_2 (by decide +kernel) ?_
  refine V.cSi ((t_in x (nI 0) (nI 7) : Mt (dp + 2 + 1) 0 0 _ _ _ _)) dX7_spot_4 k_X7_87 rfl rfl (Nat.le_of_ble_eq_true rfl) rfl ?_
  rw [inB_7, h]
  first | refine V.if_neB 12 dX7_spot_7 (by decide) (fun c7 => ?_) (fun c7 => ?_) | refine V.if_neN 12 dX7_spot_7 (by decide) (by omega) (fun c7 => ?_) (fun c7 => ?_) | refine V.if_ne 12 dX7_spot_7 (by decide) (fun c7 => ?_) (fun c7 => ?_)
  · cases c7
  · refine V.iconst (-1) dX7_spot_10 (by decide +kernel) ?_
    exact V.ireturn dX7_spot_11 rfl (by first | rfl | decide +kernel) (⟨rfl, rfl⟩)
theorem t_spot_bad {x a : Int32} (hx : isIn x 8 = true) (h : inB a (nI 0) (nI 120) = false) : Mt (dp + 4) 0 0 mX7_spot [.ref 45, .int x, .int a] (HH f ro rs rw rb m) (RI (-2) (HH f ro rs rw rb m)) := by
  refine Mt.of rfl rfl (Nat.le_of_ble_eq_true rfl) rfl ?_
  refine V.ildn 1 dX7_spot_0 rfl rfl ?_
  refine V.iconst (nI 0) dX7_spot_1 (by decide +kernel) ?_
  refine V.bipush (nI 7) dX7_spot_2 (by decide +kernel) ?_
  refine V.cSi ((t_in x (nI 0) (nI 7) : Mt (dp + 2 + 1) 0 0 _ _ _ _)) dX7_spot_4 k_X7_87 rfl rfl (Nat.le_of_ble_eq_true rfl) rfl ?_
  rw [inB_7, hx]
  first | refine V.if_neB 12 dX7_spot_7 (by decide) (fun c7 => ?_) (fun c7 => ?_) | refine V.if_neN 12 dX7_spot_7 (by decide) (by omega) (fun c7 => ?_) (fun c7 => ?_) | refine V.if_ne 12 dX7_spot_7 (by decide) (fun c7 => ?_) (fun c7 => ?_)
  · refine V.ildn 2 dX7_spot_12 rfl rfl ?_
    refine V.iconst (nI 0) dX7_spot_13 (by decide +kernel) ?_
    refine V.bipush (nI 120) dX7_spot_14 (by decide +kernel) ?_
    refine V.cSi ((t_in a (nI 0) (nI 120) : Mt (dp + 2 + 1) 0 0 _ _ _ _)) dX7_spot_16 k_X7_87 rfl rfl (Nat.le_of_ble_eq_true rfl) rfl ?_
    first | refine V.if_neB 25 dX7_spot_19 (by decide) (fun c19 => ?_) (fun c19 => ?_) | refine V.if_neN 25 dX7_spot_19 (by decide) (by omega) (fun c19 => ?_) (fun c19 => ?_) | refine V.if_ne 25 dX7_spot_19 (by decide) (fun c19 => ?_) (fun c19 => ?_)
    · rw [h] at c19
      cases c19
    · refine V.bipush (-2) dX7_spot_22 (by decide +kernel) ?_
      exact V.ireturn dX7_spot_24 rfl (by first | rfl | decide +kernel) (⟨rfl, rfl⟩)
  · cases c7
theorem t_spot (hM : MS F n nd R D m) {p : Nat} (hp : p < 8) {a : Int32} (h1 : inB a (nI 0) (nI 120) = true) : Mt (dp + 4) 0 0 mX7_spot [.ref 45, .int (nI p), .int a] (HH f ro rs rw rb m) (fun r h' => ∃ m', h' = HH f ro rs rw rb m' ∧ ((KP (up2 F 12 p a) n nd R D ∧ r = some (.int (F 12 p)) ∧ MS (up2 F 12 p a) n nd R D m') ∨ (¬ KP (up2 F 12 p a) n nd R D ∧ r = some (.int (-3)) ∧ MS F n nd R D m'))) := by
  refine Mt.of rfl rfl (Nat.le_of_ble_eq_true rfl) rfl ?_
  have hM1 : MS (up2 F 12 p a) n nd R D (up2 m 12 p a) := hM.up rfl (by decide)
  have e9 : up2 (up2 m 12 p a) 12 p (F 12 p) = m := up2_back m 12 p a _ (congrFun (hM.1.2.2.1 12 rfl) p).symm
  refine V.ildn 1 dX7_spot_0 rfl rfl ?_
  refine V.iconst (nI 0) dX7_spot_1 (by decide +kernel) ?_
  refine V.bipush (nI 7) dX7_spot_2 (by decide +kernel) ?_
  refine V.cSi ((t_in (nI p) (nI 0) (nI 7) : Mt (dp + 2 + 1) 0 0 _ _ _ _)) dX7_spot_4 k_X7_87 rfl rfl (Nat.le_of_ble_eq_true rfl) rfl ?_
  rw [inB_7, isIn_nI hp (by decide)]
  first | refine V.if_neB 12 dX7_spot_7 (by decide) (fun c7 => ?_) (fun c7 => ?_) | refine V.if_neN 12 dX7_spot_7 (by decide) (by omega) (fun c7 => ?_) (fun c7 => ?_) | refine V.if_ne 12 dX7_spot_7 (by decide) (fun c7 => ?_) (fun c7 => ?_)
  · refine V.ildn 2 dX7_spot_12 rfl rfl ?_
    refine V.iconst (nI 0) dX7_spot_13 (by decide +kernel) ?_
    refine V.bipush (nI 120) dX7_spot_14 (by decide +kernel) ?_
    refine V.cSi ((t_in a (nI 0) (nI 120) : Mt (dp + 2 + 1) 0 0 _ _ _ _)) dX7_spot_16 k_X7_87 rfl rfl (Nat.le_of_ble_eq_true rfl) rfl ?_
    first | refine V.if_neB 25 dX7_spot_19 (by decide) (fun c19 => ?_) (fun c19 => ?_) | refine V.if_neN 25 dX7_spot_19 (by decide) (by omega) (fun c19 => ?_) (fun c19 => ?_) | refine V.if_ne 25 dX7_spot_19 (by decide) (fun c19 => ?_) (fun c19 => ?_)
    · refine V.aldn 0 dX7_spot_25 rfl rfl ?_
      refine V.gf7_12 dX7_spot_26 f_X7_41 ?_
      refine V.ildn 1 dX7_spot_29 rfl rfl ?_
      refine V.ald_56 dX7_spot_30 (ix_nI (by omega) (by decide)) ?_
      refine V.top (congrFun (hM.1.2.2.1 12 rfl) p) ?_
      refine V.istn 3 dX7_spot_31 rfl (Nat.le_of_ble_eq_true rfl) ?_
      refine V.aldn 0 dX7_spot_32 rfl rfl ?_
      refine V.gf7_12 dX7_spot_33 f_X7_41 ?_
      refine V.ildn 1 dX7_spot_36 rfl rfl ?_
      refine V.ildn 2 dX7_spot_37 rfl rfl ?_
      refine V.ast_56 dX7_spot_38 (ix_nI (by omega) (by decide)) ?_
      refine V.aldn 0 dX7_spot_39 rfl rfl ?_
      refine V.cVi (t_keeps hM1.1 hM1.2.1 hM1.2.2) dX7_spot_40 k_X7_94 rfl rfl rfl (Nat.le_of_ble_eq_true rfl) rfl ?_
      first | refine V.if_eqB 48 dX7_spot_43 (by decide) (fun c43 => ?_) (fun c43 => ?_) | refine V.if_eqN 48 dX7_spot_43 (by decide) (by omega) (fun c43 => ?_) (fun c43 => ?_) | refine V.if_eq 48 dX7_spot_43 (by decide) (fun c43 => ?_) (fun c43 => ?_)
      · refine V.aldn 0 dX7_spot_48 rfl rfl ?_
        refine V.gf7_12 dX7_spot_49 f_X7_41 ?_
        refine V.ildn 1 dX7_spot_52 rfl rfl ?_
        refine V.ildn 3 dX7_spot_53 rfl rfl ?_
        refine V.ast_56 dX7_spot_54 (ix_nI (by omega) (by decide)) ?_
        refine V.bipush (-3) dX7_spot_55 (by decide +kernel) ?_
        exact V.ireturn dX7_spot_57 rfl (by first | rfl | decide +kernel) (⟨m, by rw [e9], Or.inr ⟨of_dBf c43, rfl, hM⟩⟩)
      · refine V.ildn 3 dX7_spot_46 rfl rfl ?_
        exact V.ireturn dX7_spot_47 rfl (by first | rfl | decide +kernel) (⟨_, rfl, Or.inl ⟨of_dB c43, rfl, hM1⟩⟩)
    · rw [h1] at c19
      cases c19
  · cases c7
theorem t_mustBe (hM : MS F n nd R D m) {a b : Nat} (ha : a < n) (hb : b < n) : Mt (dp + 1) 0 0 mX7_mustBe [.ref 45, .int (nI a), .int (nI b)] (HH f ro rs rw rb m) (RI (bI (btB (clo F n (F 7 b) n) a)) (HH f ro rs rw rb m)) := by
  refine Mt.of rfl rfl (Nat.le_of_ble_eq_true rfl) rfl ?_
  have hn20 := hM.2.1.1
  have h1 := hM.2.2.1
  have hF := hM.1.2.2.1
  have loop : ∀ (j k : Nat) (o5 : Option Value), n - k = j → k ≤ n → V mX7_mustBe (dp + 1) 0 0 10 [some (.ref 45), some (.int (nI a)), some (.int (nI b)), some (.int (clo F n (F 7 b) k)), some (.int (nI k)), o5] [] (HH f ro rs rw rb m) (RI (bI (btB (clo F n (F 7 b) n) a)) (HH f ro rs rw rb m)) := by
    intro j
    induction j using Nat.strongRecOn with
    | _ j ih =>
      intro k o5 hj hk
      have inner : k < n → ∀ (i s : Nat), n - s = i → s ≤ n → V mX7_mustBe (dp + 1) 0 0 22 [some (.ref 45), some (.int (nI a)), some (.int (nI b)), some (.int (inr1 F (clo F n (F 7 b) k) s)), some (.int (nI k)), some (.int (nI s))] [] (HH f ro rs rw rb m) (RI (bI (btB (clo F n (F 7 b) n) a)) (HH f ro rs rw rb m)) := by
        intro hkn i
        induction i using Nat.strongRecOn with
        | _ i ih2 =>
          intro s hi hs
          refine V.iload dX7_mustBe_22 rfl ?_
          refine V.aldn 0 dX7_mustBe_24 rfl rfl ?_
          refine V.gf7_1 dX7_mustBe_25 f_X7_84 ?_
          refine V.top h1 ?_
          first | refine V.icmp_geN 57 dX7_mustBe_28 (by decide) (by omega) (by omega) (fun c28 => ?_) (fun c28 => ?_) | refine V.icmp_ge 57 dX7_mustBe_28 (by decide) (fun c28 => ?_) (fun c28 => ?_)
          · obtain rfl : s = n := by omega
            refine V.iincN dX7_mustBe_57 rfl ?_
            refine V.goto 10 dX7_mustBe_60 (by decide) ?_
            exact ih _ (by omega) (k + 1) _ rfl (by omega)
          · refine V.ildn 3 dX7_mustBe_31 rfl rfl ?_
            refine V.iload dX7_mustBe_32 rfl ?_
            refine V.ishr dX7_mustBe_34 ?_
            refine V.iconst (nI 1) dX7_mustBe_35 (by decide +kernel) ?_
            refine V.iand dX7_mustBe_36 ?_
            refine V.iconst (nI 1) dX7_mustBe_37 (by decide +kernel) ?_
            refine V.icmp_ne 51 dX7_mustBe_38 (by decide) (fun c38 => ?_) (fun c38 => ?_)
            · have e : inr1 F (clo F n (F 7 b) k) s = inr1 F (clo F n (F 7 b) k) (s + 1) := by rw [inr1, if_neg (show ¬ btB _ s = true from fun q => c38 (of_decide_eq_true q))]
              rw [e]
              refine V.iincN dX7_mustBe_51 rfl ?_
              refine V.goto 22 dX7_mustBe_54 (by decide) ?_
              exact ih2 _ (by omega) (s + 1) rfl (by omega)
            · refine V.ildn 3 dX7_mustBe_41 rfl rfl ?_
              refine V.aldn 0 dX7_mustBe_42 rfl rfl ?_
              refine V.gf7_7 dX7_mustBe_43 f_X7_26 ?_
              refine V.iload dX7_mustBe_46 rfl ?_
              refine V.ald_51 dX7_mustBe_48 (ix_nI (by omega) (by decide)) ?_
              refine V.top (congrFun (hF 7 rfl) s) ?_
              refine V.ior dX7_mustBe_49 ?_
              refine V.top (y := inr1 F (clo F n (F 7 b) k) (s + 1)) (by rw [inr1, if_pos (show btB _ s = true from decide_eq_true c38)]) ?_
              refine V.istn 3 dX7_mustBe_50 rfl (Nat.le_of_ble_eq_true rfl) ?_
              first | refine V.iincN dX7_mustBe_51 rfl ?_ | refine V.iinc dX7_mustBe_51 rfl rfl ?_
              refine V.goto 22 dX7_mustBe_54 (by decide) ?_
              exact ih2 _ (by omega) (s + 1) rfl (by omega)
      refine V.iload dX7_mustBe_10 rfl ?_
      refine V.aldn 0 dX7_mustBe_12 rfl rfl ?_
      refine V.gf7_1 dX7_mustBe_13 f_X7_84 ?_
      refine V.top h1 ?_
      first | refine V.icmp_geN 63 dX7_mustBe_16 (by decide) (by omega) (by omega) (fun c16 => ?_) (fun c16 => ?_) | refine V.icmp_ge 63 dX7_mustBe_16 (by decide) (fun c16 => ?_) (fun c16 => ?_)
      · obtain rfl : k = n := by omega
        refine V.ildn 3 dX7_mustBe_63 rfl rfl ?_
        refine V.ildn 1 dX7_mustBe_64 rfl rfl ?_
        refine V.ishr dX7_mustBe_65 ?_
        refine V.iconst (nI 1) dX7_mustBe_66 (by decide +kernel) ?_
        refine V.iand dX7_mustBe_67 ?_
        refine V.iconst (nI 1) dX7_mustBe_68 (by decide +kernel) ?_
        refine V.icmp_ne 76 dX7_mustBe_69 (by decide) (fun c69 => ?_) (fun c69 => ?_)
        · refine V.iconst (nI 0) dX7_mustBe_76 (by decide +kernel) ?_
          exact V.ireturn dX7_mustBe_77 rfl (by first | rfl | decide +kernel) (⟨congrArg (fun x => some (Value.int x)) (bI_f (decide_eq_false c69)), rfl⟩)
        · refine V.iconst (nI 1) dX7_mustBe_72 (by decide +kernel) ?_
          refine V.goto 77 dX7_mustBe_73 (by decide) ?_
          exact V.ireturn dX7_mustBe_77 rfl (by first | rfl | decide +kernel) (⟨congrArg (fun x => some (Value.int x)) (bI_t (decide_eq_true c69)), rfl⟩)
      · refine V.iconst (nI 0) dX7_mustBe_19 (by decide +kernel) ?_
        refine V.istore dX7_mustBe_20 (Nat.le_of_ble_eq_true rfl) ?_
        exact inner c16 _ 0 rfl (Nat.zero_le _)
  refine V.aldn 0 dX7_mustBe_0 rfl rfl ?_
  refine V.gf7_7 dX7_mustBe_1 f_X7_26 ?_
  refine V.ildn 2 dX7_mustBe_4 rfl rfl ?_
  refine V.ald_51 dX7_mustBe_5 (ix_nI (by omega) (by decide)) ?_
  refine V.top (congrFun (hF 7 rfl) b) ?_
  refine V.istn 3 dX7_mustBe_6 rfl (Nat.le_of_ble_eq_true rfl) ?_
  refine V.iconst (nI 0) dX7_mustBe_7 (by decide +kernel) ?_
  refine V.istore dX7_mustBe_8 (Nat.le_of_ble_eq_true rfl) ?_
  exact loop _ 0 _ rfl (Nat.zero_le _)
theorem t_ahead_none (hM : MS F n nd R D m) {x w : Int32} (h : isIn x n = false ∨ isIn w n = false) : Mt (dp + 4) 0 0 mX7_ahead [.ref 45, .int x, .int w] (HH f ro rs rw rb m) (RI (-1) (HH f ro rs rw rb m)) := by
  refine Mt.of rfl rfl (Nat.le_of_ble_eq_true rfl) rfl ?_
  refine V.aldn 0 dX7_ahead_0 rfl rfl ?_
  refine V.ildn 1 dX7_ahead_1 rfl rfl ?_
  refine V.cVi ((t_isScene hM.2.1.1 hM.2.2.1 x : Mt (dp + 1 + 2) 0 0 _ _ _ _)) dX7_ahead_2 k_X7_98 rfl rfl rfl (Nat.le_of_ble_eq_true rfl) rfl ?_
  first | refine V.if_eqB 16 dX7_ahead_5 (by decide) (fun c5 => ?_) (fun c5 => ?_) | refine V.if_eqN 16 dX7_ahead_5 (by decide) (by omega) (fun c5 => ?_) (fun c5 => ?_) | refine V.if_eq 16 dX7_ahead_5 (by decide) (fun c5 => ?_) (fun c5 => ?_)
  · refine V.iconst (-1) dX7_ahead_16 (by decide +kernel) ?_
    exact V.ireturn dX7_ahead_17 rfl (by first | rfl | decide +kernel) (⟨rfl, rfl⟩)
  · refine V.aldn 0 dX7_ahead_8 rfl rfl ?_
    refine V.ildn 2 dX7_ahead_9 rfl rfl ?_
    refine V.cVi ((t_isScene hM.2.1.1 hM.2.2.1 w : Mt (dp + 1 + 2) 0 0 _ _ _ _)) dX7_ahead_10 k_X7_98 rfl rfl rfl (Nat.le_of_ble_eq_true rfl) rfl ?_
    first | refine V.if_neB 18 dX7_ahead_13 (by decide) (fun c13 => ?_) (fun c13 => ?_) | refine V.if_neN 18 dX7_ahead_13 (by decide) (by omega) (fun c13 => ?_) (fun c13 => ?_) | refine V.if_ne 18 dX7_ahead_13 (by decide) (fun c13 => ?_) (fun c13 => ?_)
    · rw [c5, c13] at h
      rcases h with h | h <;> cases h
    · refine V.iconst (-1) dX7_ahead_16 (by decide +kernel) ?_
      exact V.ireturn dX7_ahead_17 rfl (by first | rfl | decide +kernel) (⟨rfl, rfl⟩)
theorem t_ahead (hM : MS F n nd R D m) {a b : Nat} (ha : a < n) (hb : b < n) : Mt (dp + 4) 0 0 mX7_ahead [.ref 45, .int (nI a), .int (nI b)] (HH f ro rs rw rb m) (fun r h' => ∃ m', h' = HH f ro rs rw rb m' ∧ (((a = b ∨ btB (clo F n (F 7 a) n) b = true) ∧ r = some (.int (-2)) ∧ MS F n nd R D m') ∨ (a ≠ b ∧ btB (clo F n (F 7 a) n) b = false ∧ ((btB (F 7 b) a = true ∧ r = some (.int (nI 0)) ∧ MS F n nd R D m') ∨ (btB (F 7 b) a = false ∧ ((KP (fAh F a b) n nd R D ∧ r = some (.int (nI 1)) ∧ MS (fAh F a b) n nd R D m') ∨ (¬ KP (fAh F a b) n nd R D ∧ r = some (.int (-3)) ∧ MS F n nd R D m'))))))) := by
  refine Mt.of rfl rfl (Nat.le_of_ble_eq_true rfl) rfl ?_
  have hn20 := hM.2.1.1
  have hM1 : MS (fAh F a b) n nd R D (up2 m 7 b (F 7 b ||| (nI 1 <<< (nI a &&& 31)))) := hM.up rfl (by decide)
  refine V.aldn 0 dX7_ahead_0 rfl rfl ?_
  refine V.ildn 1 dX7_ahead_1 rfl rfl ?_
  refine V.cVi ((t_isScene hM.2.1.1 hM.2.2.1 (nI a) : Mt (dp + 1 + 2) 0 0 _ _ _ _)) dX7_ahead_2 k_X7_98 rfl rfl rfl (Nat.le_of_ble_eq_true rfl) rfl ?_
  first | refine V.if_eqB 16 dX7_ahead_5 (by decide) (fun c5 => ?_) (fun c5 => ?_) | refine V.if_eqN 16 dX7_ahead_5 (by decide) (by omega) (fun c5 => ?_) (fun c5 => ?_) | refine V.if_eq 16 dX7_ahead_5 (by decide) (fun c5 => ?_) (fun c5 => ?_)
  · rw [isIn_nI ha (by omega)] at c5
    cases c5
  · refine V.aldn 0 dX7_ahead_8 rfl rfl ?_
    refine V.ildn 2 dX7_ahead_9 rfl rfl ?_
    refine V.cVi ((t_isScene hM.2.1.1 hM.2.2.1 (nI b) : Mt (dp + 1 + 2) 0 0 _ _ _ _)) dX7_ahead_10 k_X7_98 rfl rfl rfl (Nat.le_of_ble_eq_true rfl) rfl ?_
    first | refine V.if_neB 18 dX7_ahead_13 (by decide) (fun c13 => ?_) (fun c13 => ?_) | refine V.if_neN 18 dX7_ahead_13 (by decide) (by omega) (fun c13 => ?_) (fun c13 => ?_) | refine V.if_ne 18 dX7_ahead_13 (by decide) (fun c13 => ?_) (fun c13 => ?_)
    · refine V.ildn 1 dX7_ahead_18 rfl rfl ?_
      refine V.ildn 2 dX7_ahead_19 rfl rfl ?_
      first | refine V.icmp_eqN 32 dX7_ahead_20 (by decide) (by omega) (by omega) (fun c20 => ?_) (fun c20 => ?_) | refine V.icmp_eq 32 dX7_ahead_20 (by decide) (fun c20 => ?_) (fun c20 => ?_)
      · refine V.bipush (-2) dX7_ahead_32 (by decide +kernel) ?_
        exact V.ireturn dX7_ahead_34 rfl (by first | rfl | decide +kernel) (⟨m, rfl, Or.inl ⟨Or.inl c20, rfl, hM⟩⟩)
      · refine V.aldn 0 dX7_ahead_23 rfl rfl ?_
        refine V.ildn 2 dX7_ahead_24 rfl rfl ?_
        refine V.ildn 1 dX7_ahead_25 rfl rfl ?_
        refine V.cVi ((t_mustBe hM hb ha : Mt (dp + 2 + 1) 0 0 _ _ _ _)) dX7_ahead_26 k_X7_102 rfl rfl rfl (Nat.le_of_ble_eq_true rfl) rfl ?_
        first | refine V.if_eqB 35 dX7_ahead_29 (by decide) (fun c29 => ?_) (fun c29 => ?_) | refine V.if_eqN 35 dX7_ahead_29 (by decide) (by omega) (fun c29 => ?_) (fun c29 => ?_) | refine V.if_eq 35 dX7_ahead_29 (by decide) (fun c29 => ?_) (fun c29 => ?_)
        · refine V.aldn 0 dX7_ahead_35 rfl rfl ?_
          refine V.gf7_7 dX7_ahead_36 f_X7_26 ?_
          refine V.ildn 2 dX7_ahead_39 rfl rfl ?_
          refine V.ald_51 dX7_ahead_40 (ix_nI (by omega) (by decide)) ?_
          refine V.top (congrFun (hM.1.2.2.1 7 rfl) b) ?_
          refine V.ildn 1 dX7_ahead_41 rfl rfl ?_
          refine V.ishr dX7_ahead_42 ?_
          refine V.iconst (nI 1) dX7_ahead_43 (by decide +kernel) ?_
          refine V.iand dX7_ahead_44 ?_
          refine V.iconst (nI 1) dX7_ahead_45 (by decide +kernel) ?_
          refine V.icmp_ne 51 dX7_ahead_46 (by decide) (fun c46 => ?_) (fun c46 => ?_)
          · refine V.aldn 0 dX7_ahead_51 rfl rfl ?_
            refine V.gf7_7 dX7_ahead_52 f_X7_26 ?_
            refine V.ildn 2 dX7_ahead_55 rfl rfl ?_
            refine V.dup2 dX7_ahead_56 ?_
            refine V.ald_51 dX7_ahead_57 (ix_nI (by omega) (by decide)) ?_
            refine V.top (congrFun (hM.1.2.2.1 7 rfl) b) ?_
            refine V.iconst (nI 1) dX7_ahead_58 (by decide +kernel) ?_
            refine V.ildn 1 dX7_ahead_59 rfl rfl ?_
            refine V.ishl dX7_ahead_60 ?_
            refine V.ior dX7_ahead_61 ?_
            refine V.ast_51 dX7_ahead_62 (ix_nI (by omega) (by decide)) ?_
            refine V.aldn 0 dX7_ahead_63 rfl rfl ?_
            refine V.cVi (t_keeps hM1.1 hM1.2.1 hM1.2.2) dX7_ahead_64 k_X7_94 rfl rfl rfl (Nat.le_of_ble_eq_true rfl) rfl ?_
            first | refine V.if_eqB 72 dX7_ahead_67 (by decide) (fun c67 => ?_) (fun c67 => ?_) | refine V.if_eqN 72 dX7_ahead_67 (by decide) (by omega) (fun c67 => ?_) (fun c67 => ?_) | refine V.if_eq 72 dX7_ahead_67 (by decide) (fun c67 => ?_) (fun c67 => ?_)
            · refine V.aldn 0 dX7_ahead_72 rfl rfl ?_
              refine V.gf7_7 dX7_ahead_73 f_X7_26 ?_
              refine V.ildn 2 dX7_ahead_76 rfl rfl ?_
              refine V.dup2 dX7_ahead_77 ?_
              refine V.ald_51 dX7_ahead_78 (ix_nI (by omega) (by decide)) ?_
              refine V.top (y := F 7 b ||| (nI 1 <<< (nI a &&& 31))) (by rw [up2_at, if_pos ⟨rfl, rfl⟩]) ?_
              refine V.iconst (nI 1) dX7_ahead_79 (by decide +kernel) ?_
              refine V.ildn 1 dX7_ahead_80 rfl rfl ?_
              refine V.ishl dX7_ahead_81 ?_
              refine V.iconst (-1) dX7_ahead_82 (by decide +kernel) ?_
              refine V.ixor dX7_ahead_83 ?_
              refine V.iand dX7_ahead_84 ?_
              refine V.top (ah_back (by omega) (show btB (F 7 b) a = false from decide_eq_false c46)) ?_
              refine V.ast_51 dX7_ahead_85 (ix_nI (by omega) (by decide)) ?_
              refine V.bipush (-3) dX7_ahead_86 (by decide +kernel) ?_
              exact V.ireturn dX7_ahead_88 rfl (by first | rfl | decide +kernel) (⟨m, by rw [up2_back m 7 b _ _ (congrFun (hM.1.2.2.1 7 rfl) b).symm], Or.inr ⟨c20, c29, Or.inr ⟨decide_eq_false c46, Or.inr ⟨of_dBf c67, rfl, hM⟩⟩⟩⟩)
            · refine V.iconst (nI 1) dX7_ahead_70 (by decide +kernel) ?_
              exact V.ireturn dX7_ahead_71 rfl (by first | rfl | decide +kernel) (⟨_, rfl, Or.inr ⟨c20, c29, Or.inr ⟨decide_eq_false c46, Or.inl ⟨of_dB c67, rfl, hM1⟩⟩⟩⟩)
          · refine V.iconst (nI 0) dX7_ahead_49 (by decide +kernel) ?_
            exact V.ireturn dX7_ahead_50 rfl (by first | rfl | decide +kernel) (⟨m, rfl, Or.inr ⟨c20, c29, Or.inl ⟨decide_eq_true c46, rfl, hM⟩⟩⟩)
        · refine V.bipush (-2) dX7_ahead_32 (by decide +kernel) ?_
          exact V.ireturn dX7_ahead_34 rfl (by first | rfl | decide +kernel) (⟨m, rfl, Or.inl ⟨Or.inr c29, rfl, hM⟩⟩)
    · rw [isIn_nI hb (by omega)] at c13
      cases c13
theorem t_day_bad {a b : Int32} (h : inB a (nI 60) (nI 900) = false ∨ inB b (nI 0) (nI 900) = false) : Mt (dp + 2) 0 0 mX7_day [.ref 45, .int a, .int b] (HH f ro rs rw rb m) (RI (-2) (HH f ro rs rw rb m)) := by
  refine Mt.of rfl rfl (Nat.le_of_ble_eq_true rfl) rfl ?_
  refine V.ildn 1 dX7_day_0 rfl rfl ?_
  refine V.bipush (nI 60) dX7_day_1 (by decide +kernel) ?_
  refine V.sipush (nI 900) dX7_day_3 (by decide +kernel) ?_
  refine V.cSi (t_in a (nI 60) (nI 900)) dX7_day_6 k_X7_87 rfl rfl (Nat.le_of_ble_eq_true rfl) rfl ?_
  first | refine V.if_eqB 23 dX7_day_9 (by decide) (fun c9 => ?_) (fun c9 => ?_) | refine V.if_eqN 23 dX7_day_9 (by decide) (by omega) (fun c9 => ?_) (fun c9 => ?_) | refine V.if_eq 23 dX7_day_9 (by decide) (fun c9 => ?_) (fun c9 => ?_)
  · refine V.bipush (-2) dX7_day_23 (by decide +kernel) ?_
    exact V.ireturn dX7_day_25 rfl (by first | rfl | decide +kernel) (⟨rfl, rfl⟩)
  · refine V.ildn 2 dX7_day_12 rfl rfl ?_
    refine V.iconst (nI 0) dX7_day_13 (by decide +kernel) ?_
    refine V.sipush (nI 900) dX7_day_14 (by decide +kernel) ?_
    refine V.cSi (t_in b (nI 0) (nI 900)) dX7_day_17 k_X7_87 rfl rfl (Nat.le_of_ble_eq_true rfl) rfl ?_
    first | refine V.if_neB 26 dX7_day_20 (by decide) (fun c20 => ?_) (fun c20 => ?_) | refine V.if_neN 26 dX7_day_20 (by decide) (by omega) (fun c20 => ?_) (fun c20 => ?_) | refine V.if_ne 26 dX7_day_20 (by decide) (fun c20 => ?_) (fun c20 => ?_)
    · rw [c9, c20] at h
      rcases h with h | h <;> cases h
    · refine V.bipush (-2) dX7_day_23 (by decide +kernel) ?_
      exact V.ireturn dX7_day_25 rfl (by first | rfl | decide +kernel) (⟨rfl, rfl⟩)
theorem t_day_full (h13 : m 13 0 = nI 8) {a b : Int32} (h1 : inB a (nI 60) (nI 900) = true) (h2 : inB b (nI 0) (nI 900) = true) : Mt (dp + 2) 0 0 mX7_day [.ref 45, .int a, .int b] (HH f ro rs rw rb m) (RI (-4) (HH f ro rs rw rb m)) := by
  refine Mt.of rfl rfl (Nat.le_of_ble_eq_true rfl) rfl ?_
  refine V.ildn 1 dX7_day_0 rfl rfl ?_
  refine V.bipush (nI 60) dX7_day_1 (by decide +kernel) ?_
  refine V.sipush (nI 900) dX7_day_3 (by decide +kernel) ?_
  refine V.cSi (t_in a (nI 60) (nI 900)) dX7_day_6 k_X7_87 rfl rfl (Nat.le_of_ble_eq_true rfl) rfl ?_
  first | refine V.if_eqB 23 dX7_day_9 (by decide) (fun c9 => ?_) (fun c9 => ?_) | refine V.if_eqN 23 dX7_day_9 (by decide) (by omega) (fun c9 => ?_) (fun c9 => ?_) | refine V.if_eq 23 dX7_day_9 (by decide) (fun c9 => ?_) (fun c9 => ?_)
  · rw [h1] at c9
    cases c9
  · refine V.ildn 2 dX7_day_12 rfl rfl ?_
    refine V.iconst (nI 0) dX7_day_13 (by decide +kernel) ?_
    refine V.sipush (nI 900) dX7_day_14 (by decide +kernel) ?_
    refine V.cSi (t_in b (nI 0) (nI 900)) dX7_day_17 k_X7_87 rfl rfl (Nat.le_of_ble_eq_true rfl) rfl ?_
    first | refine V.if_neB 26 dX7_day_20 (by decide) (fun c20 => ?_) (fun c20 => ?_) | refine V.if_neN 26 dX7_day_20 (by decide) (by omega) (fun c20 => ?_) (fun c20 => ?_) | refine V.if_ne 26 dX7_day_20 (by decide) (fun c20 => ?_) (fun c20 => ?_)
    · refine V.aldn 0 dX7_day_26 rfl rfl ?_
      refine V.gf7_13 dX7_day_27 f_X7_91 ?_
      refine V.top h13 ?_
      refine V.bipush (nI 8) dX7_day_30 (by decide +kernel) ?_
      first | refine V.icmp_neN 38 dX7_day_32 (by decide) (by omega) (by omega) (fun c32 => ?_) (fun c32 => ?_) | refine V.icmp_ne 38 dX7_day_32 (by decide) (fun c32 => ?_) (fun c32 => ?_)
      · exact absurd rfl c32
      · refine V.bipush (-4) dX7_day_35 (by decide +kernel) ?_
        exact V.ireturn dX7_day_37 rfl (by first | rfl | decide +kernel) (⟨rfl, rfl⟩)
    · rw [h2] at c20
      cases c20
theorem DR.day {n nd : Nat} {R : Nat → List Nat} {D : Nat → Option Nat} (h : DR n nd R D) : DR n (nd + 1) (upR R nd []) D := by
  obtain ⟨hn, d1, d2, d3⟩ := h
  refine ⟨hn, fun s d hs hd => ?_, fun s d hd hm => ?_, fun d hd => ?_⟩
  · obtain ⟨q1, q2⟩ := d1 s d hs hd
    exact ⟨by omega, by rw [upR_n (by omega)]; exact q2⟩
  · by_cases e : d = nd
    · subst e; rw [upR_s] at hm; exact absurd hm List.not_mem_nil
    · rw [upR_n e] at hm; exact d2 s d (by omega) hm
  · by_cases e : d = nd
    · subst e; rw [upR_s]; exact List.nodup_nil
    · rw [upR_n e]; exact d3 d (by omega)
theorem t_day (hM : MS F n nd R D m) (h8 : nd < 8) {a b : Int32} (h1 : inB a (nI 60) (nI 900) = true) (h2 : inB b (nI 0) (nI 900) = true) : Mt (dp + 2) 0 0 mX7_day [.ref 45, .int a, .int b] (HH f ro rs rw rb m) (fun r h' => ∃ m', r = some (.int (nI nd)) ∧ h' = HH f ro rs rw rb m' ∧ MS (fDay F nd a b) n (nd + 1) (upR R nd []) D m') := by
  refine Mt.of rfl rfl (Nat.le_of_ble_eq_true rfl) rfl ?_
  obtain ⟨⟨hnd, h13, hF, hp, hR⟩, hD, k1, k8⟩ := hM
  have hfin : MS (fDay F nd a b) n (nd + 1) (upR R nd []) D (up2 (up2 (up2 (up2 m 14 nd a) 15 nd b) 16 nd (nI 0)) 13 0 (nI (nd + 1))) := by
    refine ⟨⟨by omega, by rw [up2_at, if_pos ⟨rfl, rfl⟩], film_no rfl (film_no rfl (film_up (film_up hF))), (hp.up (by decide)).up (by decide), fun d hd => ?_⟩, hD.day, by rw [up2_at, if_neg (by omega), up2_at, if_neg (by omega), up2_at, if_neg (by omega), up2_at, if_neg (by omega)]; exact k1, fun s hs => by rw [up2_at, if_neg (by omega), up2_at, if_neg (by omega), up2_at, if_neg (by omega), up2_at, if_neg (by omega)]; exact k8 s hs⟩
    by_cases e : d = nd
    · subst e
      rw [upR_s]
      exact ⟨by rw [up2_at, if_neg (by omega), up2_at, if_pos ⟨rfl, rfl⟩]; rfl, by simp, fun k hk => absurd hk (Nat.not_lt_zero k)⟩
    · rw [upR_n e]
      exact rowM_congr (by rw [up2_at, if_neg (by omega), up2_at, if_neg (by omega), up2_at, if_neg (by omega), up2_at, if_neg (by omega)]) (fun k hk => by rw [up2_at, if_neg (by omega), up2_at, if_neg (by omega), up2_at, if_neg (by omega), up2_at, if_neg (by omega)]) (hR d (by omega))
  refine V.ildn 1 dX7_day_0 rfl rfl ?_
  refine V.bipush (nI 60) dX7_day_1 (by decide +kernel) ?_
  refine V.sipush (nI 900) dX7_day_3 (by decide +kernel) ?_
  refine V.cSi (t_in a (nI 60) (nI 900)) dX7_day_6 k_X7_87 rfl rfl (Nat.le_of_ble_eq_true rfl) rfl ?_
  first | refine V.if_eqB 23 dX7_day_9 (by decide) (fun c9 => ?_) (fun c9 => ?_) | refine V.if_eqN 23 dX7_day_9 (by decide) (by omega) (fun c9 => ?_) (fun c9 => ?_) | refine V.if_eq 23 dX7_day_9 (by decide) (fun c9 => ?_) (fun c9 => ?_)
  · rw [h1] at c9
    cases c9
  · refine V.ildn 2 dX7_day_12 rfl rfl ?_
    refine V.iconst (nI 0) dX7_day_13 (by decide +kernel) ?_
    refine V.sipush (nI 900) dX7_day_14 (by decide +kernel) ?_
    refine V.cSi (t_in b (nI 0) (nI 900)) dX7_day_17 k_X7_87 rfl rfl (Nat.le_of_ble_eq_true rfl) rfl ?_
    first | refine V.if_neB 26 dX7_day_20 (by decide) (fun c20 => ?_) (fun c20 => ?_) | refine V.if_neN 26 dX7_day_20 (by decide) (by omega) (fun c20 => ?_) (fun c20 => ?_) | refine V.if_ne 26 dX7_day_20 (by decide) (fun c20 => ?_) (fun c20 => ?_)
    · refine V.aldn 0 dX7_day_26 rfl rfl ?_
      refine V.gf7_13 dX7_day_27 f_X7_91 ?_
      refine V.top h13 ?_
      refine V.bipush (nI 8) dX7_day_30 (by decide +kernel) ?_
      first | refine V.icmp_neN 38 dX7_day_32 (by decide) (by omega) (by omega) (fun c32 => ?_) (fun c32 => ?_) | refine V.icmp_ne 38 dX7_day_32 (by decide) (fun c32 => ?_) (fun c32 => ?_)
      · refine V.aldn 0 dX7_day_38 rfl rfl ?_
        refine V.gf7_14 dX7_day_39 f_X7_44 ?_
        refine V.aldn 0 dX7_day_42 rfl rfl ?_
        refine V.gf7_13 dX7_day_43 f_X7_91 ?_
        refine V.top h13 ?_
        refine V.ildn 1 dX7_day_46 rfl rfl ?_
        refine V.ast_57 dX7_day_47 (ix_nI (by omega) (by decide)) ?_
        refine V.aldn 0 dX7_day_48 rfl rfl ?_
        refine V.gf7_15 dX7_day_49 f_X7_47 ?_
        refine V.aldn 0 dX7_day_52 rfl rfl ?_
        refine V.gf7_13 dX7_day_53 f_X7_91 ?_
        refine V.top (y := nI nd) (by rw [up2_at, if_neg (by omega)]; exact h13) ?_
        refine V.ildn 2 dX7_day_56 rfl rfl ?_
        refine V.ast_58 dX7_day_57 (ix_nI (by omega) (by decide)) ?_
        refine V.aldn 0 dX7_day_58 rfl rfl ?_
        refine V.gf7_16 dX7_day_59 f_X7_50 ?_
        refine V.aldn 0 dX7_day_62 rfl rfl ?_
        refine V.gf7_13 dX7_day_63 f_X7_91 ?_
        refine V.top (y := nI nd) (by rw [up2_at, if_neg (by omega), up2_at, if_neg (by omega)]; exact h13) ?_
        refine V.iconst (nI 0) dX7_day_66 (by decide +kernel) ?_
        refine V.ast_59 dX7_day_67 (ix_nI (by omega) (by decide)) ?_
        refine V.aldn 0 dX7_day_68 rfl rfl ?_
        refine V.dupr dX7_day_69 ?_
        refine V.gf7_13 dX7_day_70 f_X7_91 ?_
        refine V.top (y := nI nd) (by rw [up2_at, if_neg (by omega), up2_at, if_neg (by omega), up2_at, if_neg (by omega)]; exact h13) ?_
        refine V.iconst (nI 1) dX7_day_73 (by decide +kernel) ?_
        first | refine V.iaddN dX7_day_74 ?_ | refine V.iadd dX7_day_74 ?_
        refine V.pf7_13 dX7_day_75 (fp_X7_91 rfl) ?_
        refine V.aldn 0 dX7_day_78 rfl rfl ?_
        refine V.gf7_13 dX7_day_79 f_X7_91 ?_
        refine V.top (y := nI (nd + 1)) (by rw [up2_at, if_pos ⟨rfl, rfl⟩]) ?_
        refine V.iconst (nI 1) dX7_day_82 (by decide +kernel) ?_
        refine V.isubN dX7_day_83 (by omega) ?_
        exact V.ireturn dX7_day_84 rfl (by first | rfl | decide +kernel) (⟨_, by rw [Nat.add_sub_cancel], rfl, hfin⟩)
      · exact absurd c32 (by omega)
    · rw [h2] at c20
      cases c20
theorem t_change_none (hM : MS F n nd R D m) {x a b : Int32} (h : isIn x nd = false) : Mt (dp + 4) 0 0 mX7_change [.ref 45, .int x, .int a, .int b] (HH f ro rs rw rb m) (RI (-1) (HH f ro rs rw rb m)) := by
  refine Mt.of rfl rfl (Nat.le_of_ble_eq_true rfl) rfl ?_
  have hnd := hM.1.1
  refine V.aldn 0 dX7_change_0 rfl rfl ?_
  refine V.ildn 1 dX7_change_1 rfl rfl ?_
  refine V.cVi ((t_isDay (by omega) hM.1.2.1 x : Mt (dp + 1 + 2) 0 0 _ _ _ _)) dX7_change_2 k_X7_106 rfl rfl rfl (Nat.le_of_ble_eq_true rfl) rfl ?_
  first | refine V.if_neB 10 dX7_change_5 (by decide) (fun c5 => ?_) (fun c5 => ?_) | refine V.if_neN 10 dX7_change_5 (by decide) (by omega) (fun c5 => ?_) (fun c5 => ?_) | refine V.if_ne 10 dX7_change_5 (by decide) (fun c5 => ?_) (fun c5 => ?_)
  · rw [h] at c5
    cases c5
  · refine V.iconst (-1) dX7_change_8 (by decide +kernel) ?_
    exact V.ireturn dX7_change_9 rfl (by first | rfl | decide +kernel) (⟨rfl, rfl⟩)
theorem t_change_bad (hM : MS F n nd R D m) {x a b : Int32} (hx : isIn x nd = true) (h : inB a (nI 60) (nI 900) = false ∨ inB b (nI 0) (nI 900) = false) : Mt (dp + 4) 0 0 mX7_change [.ref 45, .int x, .int a, .int b] (HH f ro rs rw rb m) (RI (-2) (HH f ro rs rw rb m)) := by
  refine Mt.of rfl rfl (Nat.le_of_ble_eq_true rfl) rfl ?_
  have hnd := hM.1.1
  refine V.aldn 0 dX7_change_0 rfl rfl ?_
  refine V.ildn 1 dX7_change_1 rfl rfl ?_
  refine V.cVi ((t_isDay (by omega) hM.1.2.1 x : Mt (dp + 1 + 2) 0 0 _ _ _ _)) dX7_change_2 k_X7_106 rfl rfl rfl (Nat.le_of_ble_eq_true rfl) rfl ?_
  first | refine V.if_neB 10 dX7_change_5 (by decide) (fun c5 => ?_) (fun c5 => ?_) | refine V.if_neN 10 dX7_change_5 (by decide) (by omega) (fun c5 => ?_) (fun c5 => ?_) | refine V.if_ne 10 dX7_change_5 (by decide) (fun c5 => ?_) (fun c5 => ?_)
  · refine V.ildn 2 dX7_change_10 rfl rfl ?_
    refine V.bipush (nI 60) dX7_change_11 (by decide +kernel) ?_
    refine V.sipush (nI 900) dX7_change_13 (by decide +kernel) ?_
    refine V.cSi ((t_in a (nI 60) (nI 900) : Mt (dp + 2 + 1) 0 0 _ _ _ _)) dX7_change_16 k_X7_87 rfl rfl (Nat.le_of_ble_eq_true rfl) rfl ?_
    first | refine V.if_eqB 33 dX7_change_19 (by decide) (fun c19 => ?_) (fun c19 => ?_) | refine V.if_eqN 33 dX7_change_19 (by decide) (by omega) (fun c19 => ?_) (fun c19 => ?_) | refine V.if_eq 33 dX7_change_19 (by decide) (fun c19 => ?_) (fun c19 => ?_)
    · refine V.bipush (-2) dX7_change_33 (by decide +kernel) ?_
      exact V.ireturn dX7_change_35 rfl (by first | rfl | decide +kernel) (⟨rfl, rfl⟩)
    · refine V.ildn 3 dX7_change_22 rfl rfl ?_
      refine V.iconst (nI 0) dX7_change_23 (by decide +kernel) ?_
      refine V.sipush (nI 900) dX7_change_24 (by decide +kernel) ?_
      refine V.cSi ((t_in b (nI 0) (nI 900) : Mt (dp + 2 + 1) 0 0 _ _ _ _)) dX7_change_27 k_X7_87 rfl rfl (Nat.le_of_ble_eq_true rfl) rfl ?_
      first | refine V.if_neB 36 dX7_change_30 (by decide) (fun c30 => ?_) (fun c30 => ?_) | refine V.if_neN 36 dX7_change_30 (by decide) (by omega) (fun c30 => ?_) (fun c30 => ?_) | refine V.if_ne 36 dX7_change_30 (by decide) (fun c30 => ?_) (fun c30 => ?_)
      · rw [c19, c30] at h
        rcases h with h | h <;> cases h
      · refine V.bipush (-2) dX7_change_33 (by decide +kernel) ?_
        exact V.ireturn dX7_change_35 rfl (by first | rfl | decide +kernel) (⟨rfl, rfl⟩)
  · rw [hx] at c5
    cases c5
theorem t_change (hM : MS F n nd R D m) {d : Nat} (hd : d < nd) {a b : Int32} (h1 : inB a (nI 60) (nI 900) = true) (h2 : inB b (nI 0) (nI 900) = true) : Mt (dp + 4) 0 0 mX7_change [.ref 45, .int (nI d), .int a, .int b] (HH f ro rs rw rb m) (fun r h' => ∃ m', h' = HH f ro rs rw rb m' ∧ ((KP (fDay F d a b) n nd R D ∧ r = some (.int (nI 0)) ∧ MS (fDay F d a b) n nd R D m') ∨ (¬ KP (fDay F d a b) n nd R D ∧ r = some (.int (-3)) ∧ MS F n nd R D m'))) := by
  refine Mt.of rfl rfl (Nat.le_of_ble_eq_true rfl) rfl ?_
  have hnd := hM.1.1
  have hM1 : MS (fDay F d a b) n nd R D (up2 (up2 m 14 d a) 15 d b) := (hM.up rfl (by decide)).up rfl (by decide)
  have e14 := congrFun (hM.1.2.2.1 14 rfl) d
  have e15 := congrFun (hM.1.2.2.1 15 rfl) d
  have e9 : up2 (up2 (up2 (up2 m 14 d a) 15 d b) 14 d (F 14 d)) 15 d (F 15 d) = m := by
    rw [up2_comm (up2 m 14 d a) b (F 14 d) (by decide), up2_back m 14 d a _ e14.symm]
    exact up2_back m 15 d b _ e15.symm
  refine V.aldn 0 dX7_change_0 rfl rfl ?_
  refine V.ildn 1 dX7_change_1 rfl rfl ?_
  refine V.cVi ((t_isDay (by omega) hM.1.2.1 (nI d) : Mt (dp + 1 + 2) 0 0 _ _ _ _)) dX7_change_2 k_X7_106 rfl rfl rfl (Nat.le_of_ble_eq_true rfl) rfl ?_
  first | refine V.if_neB 10 dX7_change_5 (by decide) (fun c5 => ?_) (fun c5 => ?_) | refine V.if_neN 10 dX7_change_5 (by decide) (by omega) (fun c5 => ?_) (fun c5 => ?_) | refine V.if_ne 10 dX7_change_5 (by decide) (fun c5 => ?_) (fun c5 => ?_)
  · refine V.ildn 2 dX7_change_10 rfl rfl ?_
    refine V.bipush (nI 60) dX7_change_11 (by decide +kernel) ?_
    refine V.sipush (nI 900) dX7_change_13 (by decide +kernel) ?_
    refine V.cSi ((t_in a (nI 60) (nI 900) : Mt (dp + 2 + 1) 0 0 _ _ _ _)) dX7_change_16 k_X7_87 rfl rfl (Nat.le_of_ble_eq_true rfl) rfl ?_
    first | refine V.if_eqB 33 dX7_change_19 (by decide) (fun c19 => ?_) (fun c19 => ?_) | refine V.if_eqN 33 dX7_change_19 (by decide) (by omega) (fun c19 => ?_) (fun c19 => ?_) | refine V.if_eq 33 dX7_change_19 (by decide) (fun c19 => ?_) (fun c19 => ?_)
    · rw [h1] at c19
      cases c19
    · refine V.ildn 3 dX7_change_22 rfl rfl ?_
      refine V.iconst (nI 0) dX7_change_23 (by decide +kernel) ?_
      refine V.sipush (nI 900) dX7_change_24 (by decide +kernel) ?_
      refine V.cSi ((t_in b (nI 0) (nI 900) : Mt (dp + 2 + 1) 0 0 _ _ _ _)) dX7_change_27 k_X7_87 rfl rfl (Nat.le_of_ble_eq_true rfl) rfl ?_
      first | refine V.if_neB 36 dX7_change_30 (by decide) (fun c30 => ?_) (fun c30 => ?_) | refine V.if_neN 36 dX7_change_30 (by decide) (by omega) (fun c30 => ?_) (fun c30 => ?_) | refine V.if_ne 36 dX7_change_30 (by decide) (fun c30 => ?_) (fun c30 => ?_)
      · refine V.aldn 0 dX7_change_36 rfl rfl ?_
        refine V.gf7_14 dX7_change_37 f_X7_44 ?_
        refine V.ildn 1 dX7_change_40 rfl rfl ?_
        refine V.ald_57 dX7_change_41 (ix_nI (by omega) (by decide)) ?_
        refine V.top e14 ?_
        refine V.istore dX7_change_42 (Nat.le_of_ble_eq_true rfl) ?_
        refine V.aldn 0 dX7_change_44 rfl rfl ?_
        refine V.gf7_15 dX7_change_45 f_X7_47 ?_
        refine V.ildn 1 dX7_change_48 rfl rfl ?_
        refine V.ald_58 dX7_change_49 (ix_nI (by omega) (by decide)) ?_
        refine V.top e15 ?_
        refine V.istore dX7_change_50 (Nat.le_of_ble_eq_true rfl) ?_
        refine V.aldn 0 dX7_change_52 rfl rfl ?_
        refine V.gf7_14 dX7_change_53 f_X7_44 ?_
        refine V.ildn 1 dX7_change_56 rfl rfl ?_
        refine V.ildn 2 dX7_change_57 rfl rfl ?_
        refine V.ast_57 dX7_change_58 (ix_nI (by omega) (by decide)) ?_
        refine V.aldn 0 dX7_change_59 rfl rfl ?_
        refine V.gf7_15 dX7_change_60 f_X7_47 ?_
        refine V.ildn 1 dX7_change_63 rfl rfl ?_
        refine V.ildn 3 dX7_change_64 rfl rfl ?_
        refine V.ast_58 dX7_change_65 (ix_nI (by omega) (by decide)) ?_
        refine V.aldn 0 dX7_change_66 rfl rfl ?_
        refine V.cVi (t_keeps hM1.1 hM1.2.1 hM1.2.2) dX7_change_67 k_X7_94 rfl rfl rfl (Nat.le_of_ble_eq_true rfl) rfl ?_
        first | refine V.if_eqB 75 dX7_change_70 (by decide) (fun c70 => ?_) (fun c70 => ?_) | refine V.if_eqN 75 dX7_change_70 (by decide) (by omega) (fun c70 => ?_) (fun c70 => ?_) | refine V.if_eq 75 dX7_change_70 (by decide) (fun c70 => ?_) (fun c70 => ?_)
        · refine V.aldn 0 dX7_change_75 rfl rfl ?_
          refine V.gf7_14 dX7_change_76 f_X7_44 ?_
          refine V.ildn 1 dX7_change_79 rfl rfl ?_
          refine V.iload dX7_change_80 rfl ?_
          refine V.ast_57 dX7_change_82 (ix_nI (by omega) (by decide)) ?_
          refine V.aldn 0 dX7_change_83 rfl rfl ?_
          refine V.gf7_15 dX7_change_84 f_X7_47 ?_
          refine V.ildn 1 dX7_change_87 rfl rfl ?_
          refine V.iload dX7_change_88 rfl ?_
          refine V.ast_58 dX7_change_90 (ix_nI (by omega) (by decide)) ?_
          refine V.bipush (-3) dX7_change_91 (by decide +kernel) ?_
          exact V.ireturn dX7_change_93 rfl (by first | rfl | decide +kernel) (⟨m, by rw [e9], Or.inr ⟨of_dBf c70, rfl, hM⟩⟩)
        · refine V.iconst (nI 0) dX7_change_73 (by decide +kernel) ?_
          exact V.ireturn dX7_change_74 rfl (by first | rfl | decide +kernel) (⟨_, rfl, Or.inl ⟨of_dB c70, rfl, hM1⟩⟩)
      · rw [h2] at c30
        cases c30
  · rw [isIn_nI hd (by omega)] at c5
    cases c5
end MODEL
