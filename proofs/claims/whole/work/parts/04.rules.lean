/-! THE FRAME LOGIC'S ROWS: locals, fields, arrays, new cells, calls, ends -/
def CLok (ci : Nat) (C : String) (T : u_T) (N : Nat) (ty0 : Nat → FieldType) : Prop := vwCl[ci]? = some (C, T, N) ∧ (∀ w ∈ u_ws C T N, w ∈ lwg) ∧ (∀ k, k < N → parseFieldDescriptor (T k).2.2.1 = some (ty0 k)) ∧ (∀ a, a < N → ∀ b, b < N → a ≠ b → (T a).2.1 ≠ (T b).2.1)
def FL (own : String) (idx ci k : Nat) : Prop := ∃ (C : String) (T : u_T) (N : Nat) (ty0 : Nat → FieldType), CLok ci C T N ty0 ∧ k < N ∧ Cond.fieldLink own idx (T k).1 (T k).2.1 (T k).2.2.1 ∈ lwg
def FP (M : MD) (idx ci k : Nat) (ty : FieldType) : Prop := ∃ (C : String) (T : u_T) (N : Nat) (ty0 : Nat → FieldType), CLok ci C T N ty0 ∧ k < N ∧ Cond.fieldLink M.2.2.2.2 idx (T k).1 (T k).2.1 (T k).2.2.1 ∈ lwg ∧ ty0 k = ty ∧ ((T k).2.2.2 = false ∨ ((T k).2.2.2 = true ∧ M.1.name = "<init>" ∧ (T k).1 = M.2.2.2.2))
/-- x is the number j, a place of a row of n -/
def ix (x : Int32) (j n : Nat) : Prop := vp_in x n ∧ x.toNatClampNeg = j
theorem ix_nI {j n : Nat} (h : j < n) (hn : n < 2 ^ 31) : ix (nI j) j n := ⟨vp_in_nI h hn, nI_clamp (by omega)⟩
theorem ix_of {x : Int32} {j n : Nat} (e : x = nI j) (h : j < n) (hn : n < 2 ^ 31) : ix x j n := by rw [e]; exact ix_nI h hn
theorem Wd.put {b : Nat} {G : GG} {h : List AC} {s : State} {H H1 : Heap} {locs : List Loc} {i k : Nat} {c0 c : AC} (hw : Wd b G h s H locs) (hc : h[i]? = some c0) (hat : va_at G.1 vwCl (b + i, ce b G c) H1) (z : H1.size = H.size) (oq : ∀ q : Nat, q ≠ b + i → H1[q]? = H[q]?) : Wd b G (h.set i c) s H1 (locs ++ [⟨b + i, k⟩]) := by
  refine ⟨by rw [z, hw.1, List.length_set], ?_, hw.2.2.put z oq (Nat.le_add_right _ _)⟩
  rw [← wl_set]
  exact hw.2.1.set (wl_D b G h) (wl_get hc) hat oq
theorem Wd.push {b : Nat} {G : GG} {h : List AC} {s : State} {H H1 : Heap} {locs : List Loc} {c : AC} (hw : Wd b G h s H locs) (hat : va_at G.1 vwCl (b + h.length, ce b G c) H1) (z : H1.size = H.size + 1) (oq : ∀ q : Nat, q < H.size → H1[q]? = H[q]?) : Wd b G (h ++ [c]) s H1 locs := by
  refine ⟨by rw [z, hw.1, List.length_append]; rfl, fun k q hk => ?_, ⟨by have := hw.2.2.1; omega, fun q h1 h2 => by rw [oq q (Nat.lt_of_lt_of_le h1 hw.2.2.1)]; exact hw.2.2.2.1 q h1 h2, hw.2.2.2.2⟩⟩
  obtain ⟨c', hc', rfl⟩ := wl_inv hk
  by_cases hl : k < h.length
  · rw [List.getElem?_append_left hl] at hc'
    exact (hw.2.1 k _ (wl_get hc')).kept (oq _ (by rw [hw.1]; show b + k < _; omega))
  · have h1 := (List.getElem?_eq_some_iff.mp hc').1
    rw [List.length_append] at h1
    have h2 : k = h.length := by simp at h1; omega
    subst h2
    rw [List.getElem?_append_right (Nat.le_refl _), Nat.sub_self] at hc'
    cases hc'
    exact hat
section RULES
variable {M : MD} {d rc rs pc : Nat} {ls : List (Option Value)} {st : List Value} {h : List AC} {Q : Option Value → List AC → Prop}
theorem V.iload_n {k : Fin 4} {x : Int32} (hd : decode M.2.1 pc = .ok (.iload_n k, 1)) (hl : ls[(k : Nat)]? = some (some (.int x))) (kk : V M d rc rs (pc + 1) ls (.int x :: st) h Q) : V M d rc rs pc ls st h Q :=
  fun p l e R s m args below meth c b G H locs cells slots arr hC hW hL h1 h2 => lv_iload_n hC.1 hC.2.1 hd rfl (hL.at hl) (kk p l e R s m args below meth c b G H locs cells slots arr hC hW hL h1 h2)
theorem V.iload {i : Nat} {x : Int32} (hd : decode M.2.1 pc = .ok (.iload i, 2)) (hl : ls[i]? = some (some (.int x))) (kk : V M d rc rs (pc + 2) ls (.int x :: st) h Q) : V M d rc rs pc ls st h Q :=
  fun p l e R s m args below meth c b G H locs cells slots arr hC hW hL h1 h2 => lv_iload hC.1 hC.2.1 hd (hL.at hl) (kk p l e R s m args below meth c b G H locs cells slots arr hC hW hL h1 h2)
theorem V.aload_n {k : Fin 4} {x : Nat} (hd : decode M.2.1 pc = .ok (.aload_n k, 1)) (hl : ls[(k : Nat)]? = some (some (.ref x))) (kk : V M d rc rs (pc + 1) ls (.ref x :: st) h Q) : V M d rc rs pc ls st h Q :=
  fun p l e R s m args below meth c b G H locs cells slots arr hC hW hL h1 h2 => lv_aload_n hC.1 hC.2.1 hd rfl (hL.at hl) (kk p l e R s m args below meth c b G H locs cells slots arr hC hW hL h1 h2)
theorem V.aload {i : Nat} {x : Nat} (hd : decode M.2.1 pc = .ok (.aload i, 2)) (hl : ls[i]? = some (some (.ref x))) (kk : V M d rc rs (pc + 2) ls (.ref x :: st) h Q) : V M d rc rs pc ls st h Q :=
  fun p l e R s m args below meth c b G H locs cells slots arr hC hW hL h1 h2 => lv_aload hC.1 hC.2.1 hd (hL.at hl) (kk p l e R s m args below meth c b G H locs cells slots arr hC hW hL h1 h2)
theorem V.istore_n {k : Fin 4} {x : Int32} (hd : decode M.2.1 pc = .ok (.istore_n k, 1)) (hk : (k : Nat) < ls.length) (kk : V M d rc rs (pc + 1) (ls.set k (some (.int x))) st h Q) : V M d rc rs pc ls (.int x :: st) h Q :=
  fun p l e R s m args below meth c b G H locs cells slots arr hC hW hL h1 h2 => lv_istore_n hC.1 hC.2.1 hd rfl hL.has (by rw [← hL.2.2.1]; exact hk) rfl (fun arr' h' => kk p l e R s m args below meth c b G H locs cells slots arr' hC hW (hL.set (v := .int x) rfl h') h1 h2)
theorem V.istore {i : Nat} {x : Int32} (hd : decode M.2.1 pc = .ok (.istore i, 2)) (hk : i < ls.length) (kk : V M d rc rs (pc + 2) (ls.set i (some (.int x))) st h Q) : V M d rc rs pc ls (.int x :: st) h Q :=
  fun p l e R s m args below meth c b G H locs cells slots arr hC hW hL h1 h2 => lv_istore hC.1 hC.2.1 hd hL.has (by rw [← hL.2.2.1]; exact hk) rfl (fun arr' h' => kk p l e R s m args below meth c b G H locs cells slots arr' hC hW (hL.set (v := .int x) rfl h') h1 h2)
theorem V.astore_n {k : Fin 4} {x : Nat} (hd : decode M.2.1 pc = .ok (.astore_n k, 1)) (hk : (k : Nat) < ls.length) (kk : V M d rc rs (pc + 1) (ls.set k (some (.ref x))) st h Q) : V M d rc rs pc ls (.ref x :: st) h Q :=
  fun p l e R s m args below meth c b G H locs cells slots arr hC hW hL h1 h2 => lv_astore_n hC.1 hC.2.1 hd rfl hL.has (by rw [← hL.2.2.1]; exact hk) rfl (fun arr' h' => kk p l e R s m args below meth c b G H locs cells slots arr' hC hW (hL.set (v := .ref x) rfl h') h1 h2)
theorem V.astore {i : Nat} {x : Nat} (hd : decode M.2.1 pc = .ok (.astore i, 2)) (hk : i < ls.length) (kk : V M d rc rs (pc + 2) (ls.set i (some (.ref x))) st h Q) : V M d rc rs pc ls (.ref x :: st) h Q :=
  fun p l e R s m args below meth c b G H locs cells slots arr hC hW hL h1 h2 => lv_astore hC.1 hC.2.1 hd hL.has (by rw [← hL.2.2.1]; exact hk) rfl (fun arr' h' => kk p l e R s m args below meth c b G H locs cells slots arr' hC hW (hL.set (v := .ref x) rfl h') h1 h2)
theorem V.iinc {i : Nat} {n : Int} {x v : Int32} (hd : decode M.2.1 pc = .ok (.iinc i n, 3)) (hl : ls[i]? = some (some (.int x))) (hv : x + Int32.ofInt n = v) (kk : V M d rc rs (pc + 3) (ls.set i (some (.int v))) st h Q) : V M d rc rs pc ls st h Q := by
  intro p l e R s m args below meth c b G H locs cells slots arr hC hW hL h1 h2
  obtain ⟨k, hk⟩ := List.getElem?_of_mem ((lcl_mem (b := b) (ls := ls) (q := (i, Value.int x))).mpr ⟨.int x, hl, rfl⟩)
  exact lv_iinc hC.1 hC.2.1 hd hL.has hk hv (by rw [← hL.2.2.1]; exact (List.getElem?_eq_some_iff.mp hl).1) rfl (fun arr' h' => kk p l e R s m args below meth c b G H locs cells slots arr' hC hW (hL.set (v := .int v) rfl h') h1 h2)
theorem V.ldc {idx : Nat} {v : Int32} (hd : decode M.2.1 pc = .ok (.ldc idx, 2)) (hw : Cond.constant M.2.2.2.2 idx v ∈ lwg) (kk : V M d rc rs (pc + 2) ls (.int v :: st) h Q) : V M d rc rs pc ls st h Q :=
  fun p l e R s m args below meth c b G H locs cells slots arr hC hW hL h1 h2 => lv_ldc hC.1 hC.2.1 hC.2.2.2.2.1 (hC.2.2.2.2.2.1 _ (List.mem_cons_of_mem _ hw)) hd (kk p l e R s m args below meth c b G H locs cells slots arr hC hW hL h1 h2)
theorem V.getf {idx ci k i : Nat} {fs : List Value} {v : Value} (hd : decode M.2.1 pc = .ok (.getfield idx, 3)) (hf : FL M.2.2.2.2 idx ci k) (hr : h[i]? = some (.inl (ci, fs))) (hv : fs[k]? = some v) (kk : V M d rc rs (pc + 3) ls (v :: st) h Q) : V M d rc rs pc ls (.ref i :: st) h Q := by
  intro p l e R s m args below meth c b G H locs cells slots arr hC hW hL h1 h2
  obtain ⟨C, T, N, ty0, hcl, hk, hlw⟩ := hf
  have he : (wl b G h)[i]? = some (b + i, .inr (ci, fs.map (cv b))) := wl_get hr
  have hts := hC.2.2.2.2.2.1
  exact va_get (v := cv b v) hC.1 hC.2.1 (Ts := pmW M) hts (fun w hw => List.mem_cons_of_mem _ (hcl.2.1 w hw)) hC.2.2.2.2.1 hC.2.2.2.2.2.2.2.2.2.1.1 hW.2.1 i he hcl.1 k hk (hts _ (List.mem_cons_of_mem _ hlw)) (fun _ h9 => h9) (by rw [List.getElem?_map, hv]; rfl) hd (kk p l e R s m args below meth c b G H locs cells slots arr hC hW hL h1 h2)
theorem V.putf {idx ci k i : Nat} {ty : FieldType} {fs : List Value} {v : Value} (hd : decode M.2.1 pc = .ok (.putfield idx, 3)) (hf : FP M idx ci k ty) (hr : h[i]? = some (.inl (ci, fs))) (hl : k < fs.length) (hn : ∀ b, narrow ty (cv b v) = cv b v ∧ fits ty (cv b v) = true) (kk : V M d rc rs (pc + 3) ls st (h.set i (.inl (ci, fs.set k v))) Q) : V M d rc rs pc ls (v :: .ref i :: st) h Q := by
  intro p l e R s m args below meth c b G H locs cells slots arr hC hW hL h1 h2
  obtain ⟨C, T, N, ty0, hcl, hk, hlw, hty, hfin⟩ := hf
  have he : (wl b G h)[i]? = some (b + i, .inr (ci, fs.map (cv b))) := wl_get hr
  have hts := hC.2.2.2.2.2.1
  have hown := hC.2.2.2.2.1
  have hin : ∀ w ∈ u_ws C T N, w ∈ pmW M := fun w hw => List.mem_cons_of_mem _ (hcl.2.1 w hw)
  have hK := hC.2.2.2.2.2.2.2.2.2.1.1
  have hdty : parseFieldDescriptor (T k).2.2.1 = some ty := by rw [← hty]; exact hcl.2.2.1 k hk
  have hap := va_apart (own := M.2.2.2.2) hts hin ty0 hcl.2.2.1 hcl.2.2.2 hK hcl.1
  obtain ⟨r, g1, cell, q1, q2, q3, q4⟩ := hW.2.1 i _ he
  have hr' : r = (C, T, N) := Option.some.inj (g1.symm.trans hcl.1)
  subst hr'
  obtain ⟨hS, hfc, kC, hkC, hkind⟩ := hK.1 ci _ hcl.1
  obtain ⟨cf, kf, fi, f, hi, hsl⟩ := hS k hk
  have hst := (u_facts hfc hkC (u_lays hts hin hk) hi).1
  have hlink := hts _ (List.mem_cons_of_mem _ hlw)
  have hend : ∀ H' : Heap, H'[b + i]? = some (cell.setSlot f.slot (cv b v)) → H'.size = H.size → (∀ q, q ≠ b + i → H'[q]? = H[q]?) → W p l e R s m args below meth c H' (locs ++ [⟨b + i, f.slot⟩]) cells slots (MQ below (QcA b G Q) args s R.cells R.slots (fun q => b ≤ q)) (F0 m (pc + 3) arr (st.map (cv b))) := by
    intro H' e1 e2 e3
    refine kk p l e R s m args below meth c b G H' _ cells slots arr hC (hW.put hr ?_ e2 e3) hL h1 h2
    rw [hsl] at e1
    refine ⟨_, hcl.1, ?_⟩
    have := t_OB.to (V := updV (vp_V (fs.map (cv b))) k (cv b v)) (V' := vp_V ((fs.map (cv b)).set k (cv b v))) ⟨_, e1, q2, q3, t_set q4 hap hk (cv b v)⟩ (fun j _ => vp_updV_set (by simpa using hl) (cv b v) j)
    show t_OB (b + i) _ _ _ H' (vp_V ((fs.set k v).map (cv b)))
    rw [List.map_set]
    exact this
  rcases hfin with hfin | ⟨hfin, hnm, hdecl⟩
  · have hlay := hts _ (hin _ (u_in_lay hk))
    unfold u_lay at hlay
    rw [if_neg (by rw [hfin]; decide)] at hlay
    have h6 := u_store hfc hkC hkind hlay hi hdty (hn b).1 (hn b).2
    exact W.putK hC.1 hC.2.1 (f := f) ⟨hown, hlink, ⟨_, _, _, hi⟩, hst⟩ (by rw [q2]; exact h6) q1 q3 (by rw [hsl]; exact k2_hasslot (q4 k hk)) rfl rfl hd hend
  · have hlay := hts _ (hin _ (u_in_lay hk))
    unfold u_lay at hlay
    rw [if_pos hfin] at hlay
    have hcf : m.cls = cf := by
      obtain ⟨_, _, c', _, _, _, -, -, hf', -, -, -, hown2, -⟩ := Cond.laysFinal_spec hlay
      have e1 : c' = cf := by have := hi.symm.trans hf'; simp at this; exact this.1.symm
      rw [hdecl] at hown2
      rw [← e1]; exact Option.some.inj (hown.symm.trans hown2)
    have h6 := u_fits hfc hkC hkind (Or.inr hlay) hi hdty (hn b).1 (hn b).2
    exact W.putFinK hC.1 hC.2.1 hown hlink hi hst hcf (by rw [hC.2.2.2.2.2.2.2.1]; exact hnm) (by rw [q2]; exact h6) q1 q3 (by rw [hsl]; exact k2_hasslot (q4 k hk)) rfl rfl hd hend
theorem V.iald {i j n : Nat} {f : Nat → Int32} {x : Int32} (hd : decode M.2.1 pc = .ok (.iaload, 1)) (ha : h[i]? = some (.inr (0, n, .inl f))) (hj : ix x j n) (kk : V M d rc rs (pc + 1) ls (.int (f j) :: st) h Q) : V M d rc rs pc ls (.int x :: .ref i :: st) h Q := by
  intro p l e R s m args below meth c b G H locs cells slots arr hC hW hL h1 h2
  obtain ⟨hj1, rfl⟩ := hj
  exact va_iald (tys := tysG G) hC.1 hC.2.1 hC.2.2.2.2.2.2.2.2.2.1.1 hW.2.1 i 0 (wl_get ha) rfl hj1 hd (kk p l e R s m args below meth c b G H locs cells slots arr hC hW hL h1 h2)
theorem V.zald {i j n : Nat} {f : Nat → Int32} {x : Int32} (hd : decode M.2.1 pc = .ok (.baload, 1)) (ha : h[i]? = some (.inr (1, n, .inl f))) (hj : ix x j n) (kk : V M d rc rs (pc + 1) ls (.int (f j) :: st) h Q) : V M d rc rs pc ls (.int x :: .ref i :: st) h Q := by
  intro p l e R s m args below meth c b G H locs cells slots arr hC hW hL h1 h2
  obtain ⟨hj1, rfl⟩ := hj
  exact va_zald (tys := tysG G) hC.1 hC.2.1 hC.2.2.2.2.2.2.2.2.2.1.1 hW.2.1 i 1 (wl_get ha) rfl hj1 hd (kk p l e R s m args below meth c b G H locs cells slots arr hC hW hL h1 h2)
theorem V.aald {i j n r : Nat} {f : Nat → Option Nat} {x : Int32} (hd : decode M.2.1 pc = .ok (.aaload, 1)) (ha : h[i]? = some (.inr (2, n, .inr f))) (hj : ix x j n) (hr : f j = some r) (kk : V M d rc rs (pc + 1) ls (.ref r :: st) h Q) : V M d rc rs pc ls (.int x :: .ref i :: st) h Q := by
  intro p l e R s m args below meth c b G H locs cells slots arr hC hW hL h1 h2
  obtain ⟨hj1, rfl⟩ := hj
  refine va_aldq (tys := tysG G) hC.1 hC.2.1 hC.2.2.2.2.2.2.2.2.2.1.1 hW.2.1 i 2 (wl_get ha) rfl hj1 hd ?_
  have e9 : va_rf (Option.map (fun i => b + i) (f x.toNatClampNeg)) = .ref (b + r) := by rw [hr]; rfl
  rw [e9]
  exact kk p l e R s m args below meth c b G H locs cells slots arr hC hW hL h1 h2
theorem V.alen {i k n : Nat} {f : (Nat → Int32) ⊕ (Nat → Option Nat)} {v : Int32} (hd : decode M.2.1 pc = .ok (.arraylength, 1)) (hk : k < 3) (ha : h[i]? = some (.inr (k, n, f))) (hv : Int32.ofNat n = v) (kk : V M d rc rs (pc + 1) ls (.int v :: st) h Q) : V M d rc rs pc ls (.ref i :: st) h Q := by
  intro p l e R s m args below meth c b G H locs cells slots arr hC hW hL h1 h2
  have hK := hC.2.2.2.2.2.2.2.2.2.1.1
  have ht : ∃ ty, (tysG G)[k]? = some (G.2 k, ty) := by
    rcases (show k = 0 ∨ k = 1 ∨ k = 2 by omega) with rfl | rfl | rfl <;> exact ⟨_, rfl⟩
  obtain ⟨ty, ht⟩ := ht
  cases f with
  | inl f => exact va_alen (tys := tysG G) hC.1 hC.2.1 hK hW.2.1 i k (wl_get ha) ht hv hd (kk p l e R s m args below meth c b G H locs cells slots arr hC hW hL h1 h2)
  | inr f => exact va_alen (tys := tysG G) hC.1 hC.2.1 hK hW.2.1 i k (wl_get ha) ht hv hd (kk p l e R s m args below meth c b G H locs cells slots arr hC hW hL h1 h2)
theorem V.iast {i j n : Nat} {f : Nat → Int32} {x v : Int32} (hd : decode M.2.1 pc = .ok (.iastore, 1)) (ha : h[i]? = some (.inr (0, n, .inl f))) (hj : ix x j n) (kk : V M d rc rs (pc + 1) ls st (h.set i (.inr (0, n, .inl (upd f j v)))) Q) : V M d rc rs pc ls (.int v :: .int x :: .ref i :: st) h Q := by
  intro p l e R s m args below meth c b G H locs cells slots arr hC hW hL h1 h2
  obtain ⟨hj1, rfl⟩ := hj
  have hK := hC.2.2.2.2.2.2.2.2.2.1.1
  refine W.iast hC.1 hC.2.1 (hW.2.1 i _ (wl_get ha)) ((hK.2 0 _ rfl).1 n (fun j => .int (f j))) (fun q => by cases q) (by show ¬ (x < 0 ∨ (arrV _ _ _).slots.size ≤ _); rw [arrV_size]; exact hj1) rfl rfl hd fun H1 e1 z oq => ?_
  refine kk p l e R s m args below meth c b G H1 _ cells slots arr hC (hW.put ha ?_ z oq) hL h1 h2
  show H1[b + i]? = some (vp_cell _ _)
  rw [e1]
  show some (Cell.setSlot (vp_cell _ (n, .inl f)) _ _) = _
  rw [vp_cell_i, vp_cell_i, arrV_store]
  congr 2
  funext q
  by_cases hq : q = x.toNatClampNeg
  · subst hq
    simp [updV, upd]
  · simp [updV, upd, hq]
theorem V.zast {i j n : Nat} {f : Nat → Int32} {x v : Int32} (hd : decode M.2.1 pc = .ok (.bastore, 1)) (ha : h[i]? = some (.inr (1, n, .inl f))) (hj : ix x j n) (hv : vp_nar .boolean v = v) (kk : V M d rc rs (pc + 1) ls st (h.set i (.inr (1, n, .inl (upd f j v)))) Q) : V M d rc rs pc ls (.int v :: .int x :: .ref i :: st) h Q := by
  intro p l e R s m args below meth c b G H locs cells slots arr hC hW hL h1 h2
  obtain ⟨hj1, rfl⟩ := hj
  have hK := hC.2.2.2.2.2.2.2.2.2.1.1
  refine W.zast hC.1 hC.2.1 (hW.2.1 i _ (wl_get ha)) ((hK.2 1 _ rfl).1 n (fun j => .int (f j))) (fun q => by cases q) (by show ¬ (x < 0 ∨ (arrV _ _ _).slots.size ≤ _); rw [arrV_size]; exact hj1) rfl rfl hd fun H1 e1 z oq => ?_
  refine kk p l e R s m args below meth c b G H1 _ cells slots arr hC (hW.put ha ?_ z oq) hL h1 h2
  show H1[b + i]? = some (vp_cell _ _)
  rw [e1]
  have hnv : narrow .boolean (.int v) = .int v := by
    have h9 : narrow .boolean (.int v) = .int (vp_nar .boolean v) := rfl
    rw [h9, hv]
  rw [hnv]
  show some (Cell.setSlot (vp_cell _ (n, .inl f)) _ _) = _
  rw [vp_cell_i, vp_cell_i, arrV_store]
  congr 2
  funext q
  by_cases hq : q = x.toNatClampNeg
  · subst hq
    simp [updV, upd]
  · simp [updV, upd, hq]
theorem V.aast {i j n v : Nat} {f : Nat → Option Nat} {fs : List Value} {x : Int32} (hd : decode M.2.1 pc = .ok (.aastore, 1)) (ha : h[i]? = some (.inr (2, n, .inr f))) (hv : h[v]? = some (.inl (5, fs))) (hj : ix x j n) (kk : V M d rc rs (pc + 1) ls st (h.set i (.inr (2, n, .inr (va_up f j (some v))))) Q) : V M d rc rs pc ls (.ref v :: .int x :: .ref i :: st) h Q := by
  intro p l e R s m args below meth c b G H locs cells slots arr hC hW hL h1 h2
  obtain ⟨hj1, rfl⟩ := hj
  have hK := hC.2.2.2.2.2.2.2.2.2.1.1
  have hlt : x.toNatClampNeg < n := Nat.not_le.mp fun q => hj1 (Or.inr q)
  have h0 : ¬ x < 0 := fun q => hj1 (Or.inl q)
  obtain ⟨r', hr', cellV, g1, g2, g3, -⟩ := hW.2.1 v _ (wl_get hv)
  have hcls := (hK.1 5 _ (rfl : vwCl[5]? = some (RX5, TX5, 10))).2
  obtain ⟨kA, comp, k1, k2, k3, -⟩ := (hK.2 2 _ (rfl : (tysG G)[2]? = some (G.2 2, .object RX5))).2
  have hcomp : comp = G.1.1 5 := Option.some.inj (k3.symm.trans hcls.1)
  subst hcomp
  obtain ⟨kC, hkC, -⟩ := hcls.2
  refine W.aast hC.1 hC.2.1 (hW.2.1 i _ (wl_get ha)) (fun q h => by cases h) (fun h => by cases h) k1 k2 rfl hkC ⟨h0, by show _ < (arrV _ _ _).slots.size; rw [arrV_size]; exact hlt⟩ g1 (fun q h => by rw [g3] at h; cases h) (by rw [g2]; exact hkC) (by rw [g2]; exact va_assign hcls) rfl rfl hd fun H1 e1 z oq => ?_
  refine kk p l e R s m args below meth c b G H1 _ cells slots arr hC (hW.put ha ?_ z oq) hL h1 h2
  show H1[b + i]? = some (vp_cell _ _)
  rw [e1]
  show some (Cell.setSlot (vp_cell _ (n, .inr (.inr (.inr (.inr (fun j => (f j).map (fun i => b + i))))))) _ _) = _
  rw [vp_cell_q, vp_cell_q, arrV_store]
  congr 2
  funext q
  by_cases hq : q = x.toNatClampNeg
  · subst hq
    simp [updV, va_up, va_rf]
  · simp [updV, va_up, hq]
end RULES
