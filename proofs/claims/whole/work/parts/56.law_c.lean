/-! THE LAW, its loop and its start -/
theorem lp_gt {j L : Nat} (hL : L ≤ 3072) (hj : j ≤ L) (h : L < j + 6) : Int32.ofNat L - nI 6 < nI j := by
  by_cases q : 6 ≤ L
  · rw [show Int32.ofNat L = nI L from rfl, pk_sub q]
    exact nI_lt (by omega) (by omega)
  · have key : ∀ a : Fin 6, ∀ b : Fin 6, Int32.ofNat a.val - nI 6 < nI b.val := by decide +kernel
    exact key ⟨L, by omega⟩ ⟨j, by omega⟩
section LAW
variable {p : Program} {l : Launch} {e : Env} {s : State} {m : MethodId} {below : List Frame} {meth : Method} {c : Code} {b L : Nat} {xs : Nat → Int32} {G : GG}
theorem law_loop (hC : lw_At p s m meth c b L xs) (hK : Kn G s) (hL : L ≤ 3072) : ∀ (g j : Nat) (h : List AC), L < j + g → j ≤ L → GH h → LW p l e s m below meth c b G 69 763 18 (lv4 s b (nI j)) [] h
  | 0, j, h, h1, h2, _ => absurd h1 (by omega)
  | g + 1, j, h, h1, h2, hG => by
    obtain ⟨hx, hb, hr, -, -, -, hX, hbl, hlocks, -⟩ := id hC
    intro H locs arr hW hl
    refine lv_iload_n hx hb dL_law_18 rfl (hl.2.2 _ m4_3) ?_
    refine lv_aload_n hx hb dL_law_19 rfl (hl.2.2 _ m4_0) ?_
    refine va_slen hx hb hX hbl (Nat.not_le.mpr hbl) hW.2.2 dL_law_20 ?_
    refine lv_bipush (v := nI 6) hx hb dL_law_21 (by decide +kernel) ?_
    refine lv_isub hx hb dL_law_23 ?_
    refine lv_icmp_gt (tgt := 808) hx hb dL_law_24 (by decide) (fun q => ?_) (fun q => ?_)
    · refine lv_iconst (v := 1) hx hb dL_law_808 (by decide +kernel) ?_
      refine va_forget (fun q hq => hW.2.2.2.2 q hq) ?_
      refine W.widen (k := 600000) (n := 7302250) (by omega) (by omega) ?_
      exact lw_ret hx hb hr hlocks dL_law_809
    · have h6 : j + 6 ≤ L := by
        rcases Nat.lt_or_ge L (j + 6) with z | z
        · exact absurd (lp_gt hL h2 z) q
        · exact z
      have next : ∀ h', GH h' → LW p l e s m below meth c b G 69 763 802 (lv4 s b (nI j)) [] h' := by
        intro h' hG' H locs arr hW hl
        refine lv_iinc (v := nI (j + 6)) (lv' := lv4 s b (nI (j + 6))) (k := 0) hx hb dL_law_802 hl rfl (by rw [← nI_add]; rfl) (by decide) rfl (fun arr' h9 => ?_)
        refine lv_goto (tgt := 18) hx hb dL_law_805 (by decide) ?_
        exact law_loop hC hK hL g (j + 6) h' (by omega) h6 hG' H locs arr' hW h9
      refine lv_aload_n hx hb dL_law_27 rfl (hl.2.2 _ m4_0) ?_
      refine lv_iload_n hx hb dL_law_28 rfl (hl.2.2 _ m4_3) ?_
      refine va_sld hx hb hX hbl (Nat.not_le.mpr hbl) hW.2.2 (vp_in_nI (by omega) (by omega)) dL_law_29 ?_
      refine lv_bipush (v := nI 31) hx hb dL_law_30 (by decide +kernel) ?_
      refine lv_iand hx hb dL_law_32 ?_
      refine lv_topi (fun w _ => ?_)
      have body : LW p l e s m below meth c b G 69 763 33 (lv4 s b (nI j)) [.int w] h := by
        by_cases hw : isIn w 22 = true
        · obtain ⟨t, ht, rfl⟩ := (isIn_iff (by decide)).mp hw
          rcases (show t = 0 ∨ t = 1 ∨ t = 2 ∨ t = 3 ∨ t = 4 ∨ t = 5 ∨ t = 6 ∨ t = 7 ∨ t = 8 ∨ t = 9 ∨ t = 10 ∨ t = 11 ∨ t = 12 ∨ t = 13 ∨ t = 14 ∨ t = 15 ∨ t = 16 ∨ t = 17 ∨ t = 18 ∨ t = 19 ∨ t = 20 ∨ t = 21 by omega) with rfl | rfl | rfl | rfl | rfl | rfl | rfl | rfl | rfl | rfl | rfl | rfl | rfl | rfl | rfl | rfl | rfl | rfl | rfl | rfl | rfl | rfl
          · exact LW.tabIn (off := 103) 136 hC dL_law_33 (by decide +kernel) (by decide +kernel) (by decide +kernel) (by decide) (L_scene hC hK hL h6 hG next)
          · exact LW.tabIn (off := 166) 199 hC dL_law_33 (by decide +kernel) (by decide +kernel) (by decide +kernel) (by decide) (L_player hC hK hL h6 hG next)
          · exact LW.tabIn (off := 209) 242 hC dL_law_33 (by decide +kernel) (by decide +kernel) (by decide +kernel) (by decide) (L_rent hC hK hL h6 hG next)
          · exact LW.tabIn (off := 242) 275 hC dL_law_33 (by decide +kernel) (by decide +kernel) (by decide +kernel) (by decide) (L_spot hC hK hL h6 hG next)
          · exact LW.tabIn (off := 275) 308 hC dL_law_33 (by decide +kernel) (by decide +kernel) (by decide +kernel) (by decide) (L_ahead hC hK hL h6 hG next)
          · exact LW.tabIn (off := 308) 341 hC dL_law_33 (by decide +kernel) (by decide +kernel) (by decide +kernel) (by decide) (L_day hC hK hL h6 hG next)
          · exact LW.tabIn (off := 341) 374 hC dL_law_33 (by decide +kernel) (by decide +kernel) (by decide +kernel) (by decide) (L_about hC hK hL h6 hG next)
          · exact LW.tabIn (off := 374) 407 hC dL_law_33 (by decide +kernel) (by decide +kernel) (by decide +kernel) (by decide) (L_row hC hK hL h6 hG next)
          · exact LW.tabIn (off := 407) 440 hC dL_law_33 (by decide +kernel) (by decide +kernel) (by decide +kernel) (by decide) (L_of hC hK hL h6 hG next)
          · exact LW.tabIn (off := 440) 473 hC dL_law_33 (by decide +kernel) (by decide +kernel) (by decide +kernel) (by decide) (L_held hC hK hL h6 hG next)
          · exact LW.tabIn (off := 473) 506 hC dL_law_33 (by decide +kernel) (by decide +kernel) (by decide +kernel) (by decide) (L_cost hC hK hL h6 hG next)
          · exact LW.tabIn (off := 496) 529 hC dL_law_33 (by decide +kernel) (by decide +kernel) (by decide +kernel) (by decide) (L_below hC hK hL h6 hG next)
          · exact LW.tabIn (off := 509) 542 hC dL_law_33 (by decide +kernel) (by decide +kernel) (by decide +kernel) (by decide) (L_may hC hK hL h6 hG next)
          · exact LW.tabIn (off := 542) 575 hC dL_law_33 (by decide +kernel) (by decide +kernel) (by decide +kernel) (by decide) (L_put hC hK hL h6 hG next)
          · exact LW.tabIn (off := 575) 608 hC dL_law_33 (by decide +kernel) (by decide +kernel) (by decide +kernel) (by decide) (L_take hC hK hL h6 hG next)
          · exact LW.tabIn (off := 598) 631 hC dL_law_33 (by decide +kernel) (by decide +kernel) (by decide +kernel) (by decide) (L_tidy hC hK hL h6 hG next)
          · exact LW.tabIn (off := 621) 654 hC dL_law_33 (by decide +kernel) (by decide +kernel) (by decide +kernel) (by decide) (L_trade hC hK hL h6 hG next)
          · exact LW.tabIn (off := 654) 687 hC dL_law_33 (by decide +kernel) (by decide +kernel) (by decide +kernel) (by decide) (L_better hC hK hL h6 hG next)
          · exact LW.tabIn (off := 667) 700 hC dL_law_33 (by decide +kernel) (by decide +kernel) (by decide +kernel) (by decide) (L_order hC hK hL h6 hG next)
          · exact LW.tabIn (off := 680) 713 hC dL_law_33 (by decide +kernel) (by decide +kernel) (by decide +kernel) (by decide) (L_rain hC hK hL h6 hG next)
          · exact LW.tabIn (off := 703) 736 hC dL_law_33 (by decide +kernel) (by decide +kernel) (by decide +kernel) (by decide) (L_change hC hK hL h6 hG next)
          · exact LW.tabIn (off := 746) 779 hC dL_law_33 (by decide +kernel) (by decide +kernel) (by decide +kernel) (by decide) (L_count hC hK hL h6 hG next)
        · exact LW.tabOut 802 hC dL_law_33 (tabOut_of (k := 22) (by decide) (by simpa using hw)) (by decide) (next h hG)
      exact body H locs arr hW hl
end LAW
def f00 : Nat → Nat → Int32 := fun _ _ => nI 0
def ro0 : Nat → Nat → Int32 := fun _ j => if j = 9 then nI 1 else nI 0
theorem fb0 : FB f00 := ⟨fun _ _ => ⟨0, by omega, rfl⟩, fun _ _ => ⟨0, by omega, rfl⟩⟩
theorem pv0 : PlV f00 := fun s _ => by
  have h : pl f00 s = 0 := nI_clamp (by decide)
  rw [h]
  exact ⟨rfl, by decide⟩
theorem gh0 : GH (HH f00 ro0 f00 (fun j => j) (fun j => j) f00) := by
  have hD : DR 0 0 (fun _ => []) (fun _ => none) := ⟨by omega, fun s d h => absurd h (by omega), fun s d h => absurd h (by omega), fun d h => absurd h (by omega)⟩
  refine ⟨f00, 0, 0, fun _ => [], fun _ => none, f00, ro0, f00, fun j => j, fun j => j, f00, rfl, ⟨⟨⟨⟨fun _ => 0, fun s a hs ha hb => ?_⟩, fun s h => absurd h (by omega), fb0, pv0, fun _ _ => ⟨0, by omega, rfl⟩, fun _ _ => ⟨0, by omega, rfl⟩⟩, by omega, hD, fun d h => absurd h (by omega)⟩, fun _ _ => Or.inl rfl, ⟨fun d h => absurd h (by omega), fun s h => absurd h (by omega)⟩, fun _ _ => rfl⟩, ⟨⟨by omega, by omega, fb0, pv0⟩, rfl, rfl, fun i _ => rfl, ⟨fun d h => h, fun a b _ _ h => h⟩, fun d hd => ?_⟩, ⟨⟨by omega, rfl, fun k _ => rfl, pv0, fun d h => absurd h (by omega)⟩, hD, rfl, fun s h => absurd h (by omega)⟩⟩
  · have hb : btB (nI 0) a = true := hb
    rw [btB_0 ha] at hb
    cases hb
  · refine ⟨⟨rfl, Nat.zero_le _, fun i h => absurd h (Nat.not_lt_zero i)⟩, ⟨rfl, rfl, rfl, rfl, rfl, rfl, rfl⟩, ?_⟩
    have hT : inT f00 [] := fun i h => absurd h (Nat.not_lt_zero i)
    show nI 1 = bI (dB (inT f00 []))
    rw [dB_t hT]
    rfl
theorem qF_10 : ∀ j, j < 10 → qF 10 j = some (16 + 2 * j)
  | 0, _ => rfl
  | 1, _ => rfl
  | 2, _ => rfl
  | 3, _ => rfl
  | 4, _ => rfl
  | 5, _ => rfl
  | 6, _ => rfl
  | 7, _ => rfl
  | 8, _ => rfl
  | 9, _ => rfl
  | j + 10, h => absurd h (by omega)
theorem qF_8 : ∀ j, j < 8 → qF 8 j = some (16 + 2 * j)
  | 0, _ => rfl
  | 1, _ => rfl
  | 2, _ => rfl
  | 3, _ => rfl
  | 4, _ => rfl
  | 5, _ => rfl
  | 6, _ => rfl
  | 7, _ => rfl
  | j + 8, h => absurd h (by omega)
/-- from the entry, for every script of at most 3072 ints, the law comes to its end with true -/
theorem whole_start {p : Program} {e : Env} {s : State} {m : MethodId} {below : List Frame} {meth : Method} {c : Code} (l : Launch) {b L : Nat} {xs : Nat → Int32} (hL : L ≤ 3072) (C0 : lw_At p s m meth c b L xs) : W p l e room_1 s m #[Value.ref b] below meth c s.heap [] 0 0 (lw_Z below #[Value.ref b] s) (entryFrame m ([Value.ref b] : List Value).toArray 4) := by
  obtain ⟨G, hK⟩ := kn0 C0.2.2.2.2.2.1
  have start : LW p l e s m below meth c b G 0 0 0 [(0, .ref b)] [] [] := by
    refine LW.new C0 hK dL_law_0 n_L_7 (by decide) (by decide) ?_
    refine LW.eqs (st' := [.ref 0]) rfl ?_
    refine LW.eqh (h' := [hA0 .null .null .null .null]) rfl ?_
    refine LW.dupr C0 dL_law_3 ?_
    refine LW.callI (i := 0) (As := []) (st := [.ref 0]) C0 hK dL_law_4 k_L_9 rfl rfl (Nat.le_of_ble_eq_true rfl) (Nat.le_of_ble_eq_true rfl) c_X6_init (by decide) (by decide) ?_
    rintro _ _ ⟨rfl, rfl⟩
    refine LW.eqs (st' := [.ref 0]) rfl ?_
    refine LW.astn [(1, .ref (s.heap.size + 0)), (0, .ref b)] C0 dL_law_7 rfl ?_
    refine LW.new C0 hK dL_law_8 n_L_10 (by decide) (by decide) ?_
    refine LW.eqs (st' := [.ref 45]) rfl ?_
    refine LW.dupr C0 dL_law_11 ?_
    refine LW.callI (i := 45) (As := []) (st := [.ref 45]) C0 hK dL_law_12 k_L_12 rfl rfl (Nat.le_of_ble_eq_true rfl) (Nat.le_of_ble_eq_true rfl) c_X7_init (by decide) (by decide) ?_
    rintro _ _ ⟨rfl, rfl⟩
    refine LW.eqs (st' := [.ref 45]) rfl ?_
    refine LW.astn [(2, .ref (s.heap.size + 45)), (1, .ref (s.heap.size + 0)), (0, .ref b)] C0 dL_law_15 rfl ?_
    refine LW.iconst (nI 0) C0 dL_law_16 (by decide +kernel) ?_
    refine LW.istn (lv4 s b (nI 0)) C0 dL_law_17 rfl ?_
    refine LW.rowq (i := 13) (N := 10) (f := qF 10) (f' := fun j => some (16 + 2 * j)) rfl qF_10 ?_
    refine LW.rowq (i := 38) (N := 8) (f := qF 8) (f' := fun j => some (16 + 2 * j)) rfl qF_8 ?_
    refine LW.eqh (h' := HH f00 ro0 f00 (fun j => j) (fun j => j) f00) rfl ?_
    exact law_loop C0 hK hL (L + 1) 0 _ (by omega) (by omega) gh0
  have hl := lv_entry ([.ref b]) (n := 4) (Nat.le_of_ble_eq_true rfl)
  rw [lg_entry_eq]
  generalize (lg_sl ([.ref b]) ++ List.replicate (4 - (lg_sl ([.ref b])).length) Slot.unset).toArray = ls at hl ⊢
  exact start s.heap [] ls ⟨rfl, fun k q h => by simp [wl] at h, va_S.rf⟩ hl
