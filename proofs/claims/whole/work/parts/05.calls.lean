/-! THE FRAME LOGIC'S ROWS: new cells, calls, ends, a copy of a row -/
def NWok (own : String) (idx ci N : Nat) (fs : List Value) : Prop := ∃ (C : String) (T : u_T) (ty0 : Nat → FieldType), CLok ci C T N ty0 ∧ Cond.classLink own idx C ∈ lwg ∧ Cond.instantiable C N ∈ lwg ∧ Cond.initialized C ∈ lwg ∧ (∀ j, j < N → defaultValue (ty0 j) = vp_V fs j) ∧ (∀ b, fs.map (cv b) = fs)
/-- what a call's words say: the callee M' with n arguments -/
def CWok (M' : MD) (n : Nat) : Prop := Cond.code M'.1 M'.2.1 M'.2.2.1 M'.2.2.2.1 ∈ lwg ∧ Cond.initialized M'.1.cls ∈ lwg ∧ (M'.1.cls ≠ "java/lang/invoke/MethodHandle" ∧ M'.1.cls ≠ "java/lang/invoke/VarHandle" ∧ (parseMethodDescriptor M'.1.desc).map (fun d => d.parameters.length) = some n) ∧ M'.2.2.1 ≤ 21
def CVok (own : String) (idx : Nat) (M' : MD) (ci n : Nat) : Prop := CWok M' n ∧ Cond.methodLink own idx M'.1 ∈ lwg ∧ Cond.instanceMethod M'.1 ∈ lwg ∧ Cond.selects M'.1.cls M'.1 M'.1 ∈ lwg ∧ ∃ (T : u_T) (N : Nat), vwCl[ci]? = some (M'.1.cls, T, N)
def CSok (own : String) (idx : Nat) (M' : MD) (n : Nat) : Prop := CWok M' n ∧ Cond.static M'.1 ∈ lwg ∧ (Cond.methodLink own idx M'.1 ∈ lwg ∨ ∃ host, Cond.methodLinkNest own idx M'.1 host ∈ lwn)
def CIok (own : String) (idx : Nat) (M' : MD) (n : Nat) : Prop := CWok M' n ∧ M'.2.2.2.1 = none ∧ M'.1.name = "<init>" ∧ Cond.instanceMethod M'.1 ∈ lwg ∧ (Cond.methodLink own idx M'.1 ∈ lwg ∨ ∃ host, Cond.methodLinkNest own idx M'.1 host ∈ lwn)
theorem map_toList (b : Nat) (r : Option Value) (st : List Value) : (r.map (cv b)).toList ++ st.map (cv b) = (r.toList ++ st).map (cv b) := by cases r <;> rfl
section RULES
variable {M : MD} {d rc rs pc : Nat} {ls : List (Option Value)} {st : List Value} {h : List AC} {Q : Option Value → List AC → Prop}
theorem V.new {idx ci N : Nat} {fs : List Value} (hd : decode M.2.1 pc = .ok (.new idx, 3)) (hn : NWok M.2.2.2.2 idx ci N fs) (kk : V M d rc rs (pc + 3) ls (.ref h.length :: st) (h ++ [.inl (ci, fs)]) Q) : V M d (rc + 1) (rs + N) pc ls st h Q := by
  intro p l e R s m args below meth c b G H locs cells slots arr hC hW hL h1 h2
  obtain ⟨C, T, ty0, hcl, w1, w2, w3, hdf, hfs⟩ := hn
  have hts := hC.2.2.2.2.2.1
  have hK := hC.2.2.2.2.2.2.2.2.2.1.1
  have hKn := hK.1 ci _ hcl.1
  refine W.newcK hC.1 hC.2.1 hC.2.2.2.2.1 (hts _ (List.mem_cons_of_mem _ w1)) (hts _ (List.mem_cons_of_mem _ w2)) (hts _ (List.mem_cons_of_mem _ w3)) rfl hd (by omega) (by omega) hKn.2.1 hW.1 fun H1 kC hkC e1 z1 o1 => ?_
  refine kk p l e R s m args below meth c b G H1 locs (cells + 1) (slots + N) arr hC (hW.push ⟨_, hcl.1, ?_⟩ (by rw [z1, hW.1]) (fun q hq => o1 q (by rw [← hW.1]; exact hq))) hL (by omega) (by omega)
  have := (u_born ty0 hts (fun w hw => List.mem_cons_of_mem _ (hcl.2.1 w hw)) hKn hkC e1 hcl.2.2.1).to hdf
  show t_OB (b + h.length) _ _ _ H1 (vp_V (fs.map (cv b)))
  rw [hfs b]
  exact this
theorem V.newi {n : Int32} {N : Nat} (hd : decode M.2.1 pc = .ok (.newarray .int, 2)) (hw : Cond.arrayClass .int ∈ lwg) (hn : ¬ n < 0) (hN : n.toNatClampNeg = N) (hb : N ≤ 1000) (kk : V M d rc rs (pc + 2) ls (.ref h.length :: st) (h ++ [.inr (0, N, .inl (fun _ => 0))]) Q) : V M d (rc + 1) (rs + N) pc ls (.int n :: st) h Q := by
  intro p l e R s m args below meth c b G H locs cells slots arr hC hW hL h1 h2
  have hts := hC.2.2.2.2.2.1
  have hK := hC.2.2.2.2.2.2.2.2.2.1.1
  refine va_newaK (atype := .int) hC.1 hC.2.1 (hts _ (List.mem_cons_of_mem _ hw)) rfl hd rfl hn hN (by show N * 4 ≤ _; omega) (by omega) (by omega) hW.1 fun H1 cA e1 z1 o1 hAr hNm => ?_
  have hc : cA = G.2 0 := Option.some.inj (hNm.symm.trans (hK.2 0 _ rfl).2)
  subst hc
  refine kk p l e R s m args below meth c b G H1 locs (cells + 1) (slots + N) arr hC (hW.push ?_ (by rw [z1, hW.1]) (fun q hq => o1 q (by rw [← hW.1]; exact hq))) hL (by omega) (by omega)
  show H1[b + h.length]? = some (vp_cell _ _)
  rw [e1]
  rfl
theorem V.newz {n : Int32} {N : Nat} (hd : decode M.2.1 pc = .ok (.newarray .boolean, 2)) (hw : Cond.arrayClass .boolean ∈ lwg) (hn : ¬ n < 0) (hN : n.toNatClampNeg = N) (hb : N ≤ 1000) (kk : V M d rc rs (pc + 2) ls (.ref h.length :: st) (h ++ [.inr (1, N, .inl (fun _ => 0))]) Q) : V M d (rc + 1) (rs + N) pc ls (.int n :: st) h Q := by
  intro p l e R s m args below meth c b G H locs cells slots arr hC hW hL h1 h2
  have hts := hC.2.2.2.2.2.1
  have hK := hC.2.2.2.2.2.2.2.2.2.1.1
  refine va_newaK (atype := .boolean) hC.1 hC.2.1 (hts _ (List.mem_cons_of_mem _ hw)) rfl hd rfl hn hN (by show N * 1 ≤ _; omega) (by omega) (by omega) hW.1 fun H1 cA e1 z1 o1 hAr hNm => ?_
  have hc : cA = G.2 1 := Option.some.inj (hNm.symm.trans (hK.2 1 _ rfl).2)
  subst hc
  refine kk p l e R s m args below meth c b G H1 locs (cells + 1) (slots + N) arr hC (hW.push ?_ (by rw [z1, hW.1]) (fun q hq => o1 q (by rw [← hW.1]; exact hq))) hL (by omega) (by omega)
  show H1[b + h.length]? = some (vp_cell _ _)
  rw [e1]
  rfl
theorem V.newq {n : Int32} {N idx : Nat} (hd : decode M.2.1 pc = .ok (.anewarray idx, 3)) (hw : Cond.classLink M.2.2.2.2 idx RX5 ∈ lwg) (hn : ¬ n < 0) (hN : n.toNatClampNeg = N) (hb : N ≤ 1000) (kk : V M d rc rs (pc + 3) ls (.ref h.length :: st) (h ++ [.inr (2, N, .inr (fun _ => none))]) Q) : V M d (rc + 1) (rs + N) pc ls (.int n :: st) h Q := by
  intro p l e R s m args below meth c b G H locs cells slots arr hC hW hL h1 h2
  subst hN
  have hts := hC.2.2.2.2.2.1
  have hK := hC.2.2.2.2.2.2.2.2.2.1.1
  have hO := hC.2.2.2.2.2.2.2.2.2.1.2.2
  refine W.anew hC.1 hC.2.1 hC.2.2.2.2.1 (hts _ (List.mem_cons_of_mem _ hw)) (va_AO.use hO) rfl hd rfl hn (by omega) (by omega) (by omega) fun cA kA comp f1 f2 f3 f4 => ?_
  obtain ⟨kA', comp', -, -, -, k4⟩ := (hK.2 2 _ (rfl : (tysG G)[2]? = some (G.2 2, .object RX5))).2
  have hc : cA = G.2 2 := Option.some.inj (f1.symm.trans k4)
  subst hc
  generalize hH1 : H.push ({ cls := G.2 2, slots := Array.replicate n.toNatClampNeg .null, vm := .none } : Cell) = H1
  have z1 : H1.size = H.size + 1 := by rw [← hH1, Array.size_push]
  have e1 : H1[H.size]? = some (arrV (G.2 2) n.toNatClampNeg (fun _ => .null)) := by rw [← hH1, Array.getElem?_push_size, ← arrV_new]
  have o1 : ∀ q : Nat, q < H.size → H1[q]? = H[q]? := fun q hq => by rw [← hH1, Array.getElem?_push, if_neg (Nat.ne_of_lt hq)]
  have hk := kk p l e R s m args below meth c b G H1 locs (cells + 1) (slots + n.toNatClampNeg) arr hC (hW.push ?_ z1 o1) hL (by omega) (by omega)
  · rw [hW.1]
    exact hk
  · show H1[b + h.length]? = some (vp_cell _ _)
    rw [← hW.1, e1]
    rfl
theorem V.objInit {idx i : Nat} (hd : decode M.2.1 pc = .ok (.invokespecial idx, 3)) (hw : Cond.methodLink M.2.2.2.2 idx Lib.objectInit ∈ lwg) (hw2 : Cond.instanceMethod Lib.objectInit ∈ lwg) (hw3 : Cond.code Lib.objectInit ⟨#[0xb1]⟩ 1 none ∈ lwg) (hdp : 1 ≤ d) (hs : (st.map fun v => v.category).sum ≤ 8) (kk : V M d rc rs (pc + 3) ls st h Q) : V M d rc rs pc ls (.ref i :: st) h Q := by
  intro p l e R s m args below meth c b G H locs cells slots arr hC hW hL h1 h2
  have hts := hC.2.2.2.2.2.1
  obtain ⟨hfr, hlo⟩ := hC.2.2.2.2.2.2.2.2.2.2
  refine W.objInit hC.1 hC.2.1 hC.2.2.2.2.1 (hts _ (List.mem_cons_of_mem _ hw)) (hts _ (List.mem_cons_of_mem _ hw2)) (hts _ (List.mem_cons_of_mem _ hw3)) rfl (by rw [hC.2.2.2.1]; exact hL.1) rfl hd (by omega) (by show 2 * 0 + ((st.map (cv b)).map fun v => v.category).sum + 12 ≤ R.locals; rw [cv_sum]; omega) ?_
  exact kk p l e R s m args below meth c b G H locs cells slots arr hC hW hL h1 h2
/-- behind a call -/
theorem V.after {p : Program} {l : Launch} {e : Env} {R : Room} {s : State} {m : MethodId} {args : Array Value} {below : List Frame} {meth : Method} {c : Code} {b : Nat} {G : GG} {H : Heap} {locs : List Loc} {cells slots nc ns : Nat} {arr : Array Slot} {st0 : List Value} {Q' : Option Value → List AC → Prop} {a : Array Value}
    (hr : va_Run p l e R s m args below meth c H locs cells slots nc ns (F0 m pc arr st0) (st.map (cv b)) (QcA b G Q' a) (fun q => b ≤ q)) (hC : Cx M d p R s m args meth c b G) (hW : Wd b G h s H locs) (hL : Lc b arr M.2.2.1 ls) (h1 : cells + (rc + nc) ≤ R.cells) (h2 : slots + (rs + ns) ≤ R.slots)
    (kk : ∀ (r : Option Value) (h' : List AC), Q' r h' → V M d rc rs (pc + 3) ls (r.toList ++ st) h' Q) : W p l e R s m args below meth c H locs cells slots (MQ below (QcA b G Q) args s R.cells R.slots (fun q => b ≤ q)) (F0 m pc arr st0) := by
  intro T hT X
  obtain ⟨v, st₀, t, T', L, h0, X', hL', e1, e2, ⟨⟨r, h', hv, hq, hz, hP⟩, hF⟩, hst⟩ := hr T hT X
  have hv : v = r.map (cv b) := by cases hv; rfl
  subst hv
  have hS : va_S (fun q => b ≤ q) s.heap T'.heap (locs ++ L) := by
    refine ⟨Nat.le_trans hW.2.2.1 (by rw [e1, ← h0]; exact hF.1), fun q g1 g2 => ?_, fun q hq => ?_⟩
    · have g3 : q < H.size := Nat.lt_of_lt_of_le g1 hW.2.2.1
      rw [e1, hF.2 q (by rw [h0]; exact g3) g2, h0]
      exact hW.2.2.2.1 q g1 g2
    · rcases List.mem_append.mp hq with h | h
      · exact hW.2.2.2.2 q h
      · exact hL' q h
  obtain ⟨t2, a1, b1⟩ := kk r h' hq p l e R s m args below meth c b G T'.heap (locs ++ L) (cells + nc) (slots + ns) arr hC ⟨by rw [e1]; exact hz, by rw [e1]; exact hP, hS⟩ hL (by omega) (by omega) T' rfl X'
  refine ⟨t2, hst t2 ?_, b1⟩
  rw [← map_toList] at a1
  exact a1
theorem V.callV {idx ci n i d' nc ns : Nat} {M' : MD} {As : List Value} {st0 : List Value} {fs : List Value} {Q' : Option Value → List AC → Prop} (hd : decode M.2.1 pc = .ok (.invokevirtual idx, 3)) (hw : CVok M.2.2.2.2 idx M' ci n) (hr : h[i]? = some (.inl (ci, fs))) (hn : As.length = n) (hst : st0 = As.reverse ++ .ref i :: st) (hs : (st.map fun v => v.category).sum ≤ 8) (hdp : d' < d)
    (hM : Mt d' nc ns M' (.ref i :: As) h Q') (kk : ∀ (r : Option Value) (h' : List AC), Q' r h' → V M d rc rs (pc + 3) ls (r.toList ++ st) h' Q) : V M d (rc + nc) (rs + ns) pc ls st0 h Q := by
  intro p l e R s m args below meth c b G H locs cells slots arr hC hW hL h1 h2
  subst hst
  have hts := hC.2.2.2.2.2.1
  obtain ⟨hfr, hlo⟩ := hC.2.2.2.2.2.2.2.2.2.2
  have hKn := hC.2.2.2.2.2.2.2.2.2.1
  obtain ⟨⟨w1, w2, w3, w4⟩, w5, w6, w7, T, N, w8⟩ := hw
  have he : (wl b G h)[i]? = some (b + i, .inr (ci, fs.map (cv b))) := wl_get hr
  refine V.after (h := h) (va_runV (As := As.map (cv b)) (rest := st.map (cv b)) (b := b + i) (C := M'.1.cls) (bytes := M'.2.1) (maxL := M'.2.2.1) (ret := M'.2.2.2.1) ⟨hC.1, hC.2.1, hC.2.2.2.1, hC.2.2.2.2.1, hts⟩ (hM l b G) ?_ ?_ rfl (n := n) (by rw [List.length_map]; exact hn) hL.1 ?_ ?_ hd ?_) hC hW hL h1 h2 kk
  · exact ⟨callB_of n hts (pmW_good w1) rfl rfl rfl (hts _ (List.mem_cons_of_mem _ w2)) (hts _ (List.mem_cons_of_mem _ w5)) w3 ⟨by show d' + 1 ≤ R.frames; omega, by show 8 + (M'.2.2.1 + 11) + 40 * d' ≤ R.locals; omega⟩, hts _ (List.mem_cons_of_mem _ w6), hts _ (List.mem_cons_of_mem _ w7)⟩
  · exact ⟨PcA.blind b G _ h, va_recv hKn.1 hW.2.1 w8 he, fun U hU hWm => ⟨rfl, by rw [hU]; exact hW.1, by rw [hU]; exact hW.2.1, hKn.warm hWm⟩⟩
  · simp [cv_ref]
  · exact lv_room (by rw [cv_sum]; exact hs)
  · exact ⟨by omega, by omega⟩
theorem V.callS {idx n d' nc ns : Nat} {M' : MD} {As : List Value} {st0 : List Value} {Q' : Option Value → List AC → Prop} (hd : decode M.2.1 pc = .ok (.invokestatic idx, 3)) (hw : CSok M.2.2.2.2 idx M' n) (hn : As.length = n) (hst : st0 = As.reverse ++ st) (hs : (st.map fun v => v.category).sum ≤ 8) (hdp : d' < d)
    (hM : Mt d' nc ns M' As h Q') (kk : ∀ (r : Option Value) (h' : List AC), Q' r h' → V M d rc rs (pc + 3) ls (r.toList ++ st) h' Q) : V M d (rc + nc) (rs + ns) pc ls st0 h Q := by
  intro p l e R s m args below meth c b G H locs cells slots arr hC hW hL h1 h2
  subst hst
  have hts := hC.2.2.2.2.2.1
  obtain ⟨hfr, hlo⟩ := hC.2.2.2.2.2.2.2.2.2.2
  have hKn := hC.2.2.2.2.2.2.2.2.2.1
  obtain ⟨⟨w1, w2, w3, w4⟩, w6, w7⟩ := hw
  have hpre : PreS s H (PcA b G As h) (As.map (cv b)) := ⟨PcA.blind b G _ h, fun U hU hWm => ⟨rfl, by rw [hU]; exact hW.1, by rw [hU]; exact hW.2.1, hKn.warm hWm⟩⟩
  have hroom : (Room.frames { frames := d', cells := nc, slots := ns, locals := 40 * d' }) + 1 ≤ R.frames ∧ 8 + (M'.2.2.1 + 11) + 40 * d' ≤ R.locals := ⟨by show d' + 1 ≤ R.frames; omega, by omega⟩
  rcases w7 with w7 | ⟨host, w7⟩
  · refine V.after (h := h) (va_runS (As := As.map (cv b)) (rest := st.map (cv b)) (bytes := M'.2.1) (maxL := M'.2.2.1) (ret := M'.2.2.2.1) ⟨hC.1, hC.2.1, hC.2.2.2.1, hC.2.2.2.2.1, hts⟩ (hM l b G) ?_ hpre rfl (n := n) (by rw [List.length_map]; exact hn) hL.1 ?_ ?_ hd ?_) hC hW hL h1 h2 kk
    · exact ⟨callB_of n hts (pmW_good w1) rfl rfl rfl (hts _ (List.mem_cons_of_mem _ w2)) (hts _ (List.mem_cons_of_mem _ w7)) w3 hroom, hts _ (List.mem_cons_of_mem _ w6)⟩
    · simp
    · exact lv_room (by rw [cv_sum]; exact hs)
    · exact ⟨by omega, by omega⟩
  · refine V.after (h := h) (va_runSN (host := host) (As := As.map (cv b)) (rest := st.map (cv b)) (bytes := M'.2.1) (maxL := M'.2.2.1) (ret := M'.2.2.2.1) ⟨hC.1, hC.2.1, hC.2.2.2.1, hC.2.2.2.2.1, hts⟩ (hM l b G) ?_ hpre rfl (n := n) (by rw [List.length_map]; exact hn) hL.1 ?_ ?_ hd ?_) hC hW hL h1 h2 kk
    · exact ⟨va_cnB n hts (pmW_good w1) rfl rfl rfl (hKn.2.1 _ w7) (hts _ (List.mem_cons_of_mem _ w2)) w3 hroom, hts _ (List.mem_cons_of_mem _ w6), trivial⟩
    · simp
    · exact lv_room (by rw [cv_sum]; exact hs)
    · exact ⟨by omega, by omega⟩
theorem V.callI {idx n i d' nc ns : Nat} {M' : MD} {As : List Value} {st0 : List Value} {Q' : Option Value → List AC → Prop} (hd : decode M.2.1 pc = .ok (.invokespecial idx, 3)) (hw : CIok M.2.2.2.2 idx M' n) (hn : As.length = n) (hst : st0 = As.reverse ++ .ref i :: st) (hs : (st.map fun v => v.category).sum ≤ 8) (hdp : d' < d)
    (hM : Mt d' nc ns M' (.ref i :: As) h Q') (kk : ∀ (r : Option Value) (h' : List AC), Q' r h' → V M d rc rs (pc + 3) ls (r.toList ++ st) h' Q) : V M d (rc + nc) (rs + ns) pc ls st0 h Q := by
  intro p l e R s m args below meth c b G H locs cells slots arr hC hW hL h1 h2
  subst hst
  have hts := hC.2.2.2.2.2.1
  obtain ⟨hfr, hlo⟩ := hC.2.2.2.2.2.2.2.2.2.2
  have hKn := hC.2.2.2.2.2.2.2.2.2.1
  obtain ⟨⟨w1, w2, w3, w4⟩, wr, wi, w6, w7⟩ := hw
  have hpre : PreS s H (PcA b G (.ref i :: As) h) (.ref (b + i) :: As.map (cv b)) := ⟨PcA.blind b G _ h, fun U hU hWm => ⟨rfl, by rw [hU]; exact hW.1, by rw [hU]; exact hW.2.1, hKn.warm hWm⟩⟩
  have hroom : (Room.frames { frames := d', cells := nc, slots := ns, locals := 40 * d' }) + 1 ≤ R.frames ∧ 8 + (M'.2.2.1 + 11) + 40 * d' ≤ R.locals := ⟨by show d' + 1 ≤ R.frames; omega, by omega⟩
  have hpw : pmW M' = Cond.code M'.1 M'.2.1 M'.2.2.1 none :: lwg := by rw [← wr]; rfl
  rcases w7 with w7 | ⟨host, w7⟩
  · refine V.after (h := h) (va_runI (As := As.map (cv b)) (rest := st.map (cv b)) (b := b + i) (bytes := M'.2.1) (maxL := M'.2.2.1) ⟨hC.1, hC.2.1, hC.2.2.2.1, hC.2.2.2.2.1, hts⟩ (hM l b G) ?_ hpre rfl (n := n) (by rw [List.length_map]; exact hn) hL.1 ?_ ?_ hd ?_) hC hW hL h1 h2 kk
    · exact ⟨callB_of n hts (pmW_good w1) hpw rfl rfl (hts _ (List.mem_cons_of_mem _ w2)) (hts _ (List.mem_cons_of_mem _ w7)) w3 hroom, wi, hts _ (List.mem_cons_of_mem _ w6)⟩
    · simp [cv_ref]
    · exact lv_room (by rw [cv_sum]; exact hs)
    · exact ⟨by omega, by omega⟩
  · refine V.after (h := h) (va_runIN (host := host) (As := As.map (cv b)) (rest := st.map (cv b)) (b := b + i) (bytes := M'.2.1) (maxL := M'.2.2.1) ⟨hC.1, hC.2.1, hC.2.2.2.1, hC.2.2.2.2.1, hts⟩ (hM l b G) ?_ hpre rfl (n := n) (by rw [List.length_map]; exact hn) hL.1 ?_ ?_ hd ?_) hC hW hL h1 h2 kk
    · exact ⟨va_cnB n hts (pmW_good w1) hpw rfl rfl (hKn.2.1 _ w7) (hts _ (List.mem_cons_of_mem _ w2)) w3 hroom, wi, hts _ (List.mem_cons_of_mem _ w6)⟩
    · simp [cv_ref]
    · exact lv_room (by rw [cv_sum]; exact hs)
    · exact ⟨by omega, by omega⟩
theorem V.ireturn {x : Int32} {ty : FieldType} (hd : decode M.2.1 pc = .ok (.ireturn, 1)) (hr : M.2.2.2.1 = some ty) (hn : narrow ty (.int x) = .int x) (hq : Q (some (.int x)) h) : V M d rc rs pc ls [.int x] h Q := by
  intro p l e R s m args below meth c b G H locs cells slots arr hC hW hL h1 h2
  refine W.widen (k := R.cells) (n := R.slots) (by omega) (by omega) ?_
  exact W.zret (ty := ty) hC.1 hC.2.1 (by rw [hC.2.2.1]; exact hr) hn (fun t ht hWm => ⟨⟨some (.int x), h, rfl, hq, by rw [ht]; exact hW.1, by rw [ht]; exact hW.2.1⟩, hW.2.2.F ht⟩) hW.2.2.2.2 hd hC.2.2.2.2.2.2.1
theorem V.vreturn (hd : decode M.2.1 pc = .ok (.return_, 1)) (hr : M.2.2.2.1 = none) (hq : Q none h) : V M d rc rs pc ls [] h Q := by
  intro p l e R s m args below meth c b G H locs cells slots arr hC hW hL h1 h2
  refine W.widen (k := R.cells) (n := R.slots) (by omega) (by omega) ?_
  exact W.vret hC.1 hC.2.1 (by rw [hC.2.2.1]; exact hr) (fun t ht hWm => ⟨⟨none, h, rfl, hq, by rw [ht]; exact hW.1, by rw [ht]; exact hW.2.1⟩, hW.2.2.F ht⟩) hW.2.2.2.2 hd hC.2.2.2.2.2.2.1
theorem V.eqh {h' : List AC} (e : h = h') (k : V M d rc rs pc ls st h' Q) : V M d rc rs pc ls st h Q := by rw [e]; exact k
theorem V.eqs {st' : List Value} (e : st = st') (k : V M d rc rs pc ls st' h Q) : V M d rc rs pc ls st h Q := by rw [e]; exact k
theorem V.eql {ls' : List (Option Value)} (e : ls = ls') (k : V M d rc rs pc ls' st h Q) : V M d rc rs pc ls st h Q := by rw [e]; exact k
theorem V.acopy {idx i0 i1 n0 n1 : Nat} {f g : Nat → Int32} {sp dp n : Int32} {sp' dp' n' : Nat} (hd : decode M.2.1 pc = .ok (.invokestatic idx, 3)) (w1 : Cond.methodLink M.2.2.2.2 idx arraycopyName ∈ lwg) (w2 : Cond.native arraycopyName ∈ lwg) (w3 : Cond.static arraycopyName ∈ lwg) (w4 : Cond.initialized "java/lang/System" ∈ lwg)
    (ha0 : h[i0]? = some (.inr (0, n0, .inl f))) (ha1 : h[i1]? = some (.inr (0, n1, .inl g))) (h1 : ¬ sp < 0) (h2 : ¬ dp < 0) (h3 : ¬ n < 0) (e1 : sp.toNatClampNeg = sp') (e2 : dp.toNatClampNeg = dp') (e3 : n.toNatClampNeg = n') (h4 : sp' + n' ≤ n0) (h5 : dp' + n' ≤ n1) (hdp : 1 ≤ d) (hs : (st.map fun v => v.category).sum ≤ 8)
    (kk : V M d rc rs (pc + 3) ls st (h.set i1 (.inr (0, n1, .inl (va_cpy f g sp' dp' n')))) Q) : V M d rc rs pc ls (.int n :: .int dp :: .ref i1 :: .int sp :: .ref i0 :: st) h Q := by
  intro p l e R s m args below meth c b G H locs cells slots arr hC hW hL g1 g2
  subst e1; subst e2; subst e3
  have hts := hC.2.2.2.2.2.1
  have hK := hC.2.2.2.2.2.2.2.2.2.1.1
  obtain ⟨hfr, hlo⟩ := hC.2.2.2.2.2.2.2.2.2.2
  have nn : ∀ z : Int32, ¬ z < 0 → z.toInt = (z.toNatClampNeg : Int) := by
    intro z hz
    have hz0 : (0 : Int) ≤ z.toInt := by
      have := Int32.not_lt.mp hz
      simpa using Int32.le_iff_toInt_le.mp this
    show z.toInt = ((z.toInt.toNat : Nat) : Int)
    omega
  have hnf : nativeFrameWords "java/lang/System" "arraycopy" 5 ≤ 21 := by decide +kernel
  intro T hT X
  have hc0 : H[b + i0]? = some (vp_cell (G.2 0) (n0, .inl f)) := hW.2.1 i0 _ (wl_get ha0)
  have hc1 : H[b + i1]? = some (vp_cell (G.2 0) (n1, .inl g)) := hW.2.1 i1 _ (wl_get ha1)
  obtain ⟨-, k0, hk0, cm0, hkk0⟩ := (hK.2 0 _ (rfl : (tysG G)[0]? = some (G.2 0, .int))).1 n0 (fun j => .int (f j))
  obtain ⟨vm', X', step⟩ := X.arraycopy hC.1 hC.2.2.2.2.1 (hts _ (List.mem_cons_of_mem _ w1)) (hts _ (List.mem_cons_of_mem _ w2)) (hts _ (List.mem_cons_of_mem _ w3)) (hts _ (List.mem_cons_of_mem _ w4)) (src := b + i0) (dst := b + i1) (cs := vp_cell (G.2 0) (n0, .inl f)) (cd := vp_cell (G.2 0) (n1, .inl g)) (srcPos := sp) (destPos := dp) (n := n) (by rw [hT]; exact hc0) (by rw [hT]; exact hc1)
    (fun _ h => by cases h) (fun _ h => by cases h) (fun h => by cases h) (fun h => by cases h) hk0 hk0 hkk0 hkk0 (by simp [refKind]) h1 h2 h3
    (by rw [nn sp h1, nn n h3]; show ¬ _ > ((arrV (G.2 0) n0 (fun j => .int (f j))).slots.size : Int); rw [arrV_size]; omega)
    (by rw [nn dp h2, nn n h3]; show ¬ _ > ((arrV (G.2 0) n1 (fun j => .int (g j))).slots.size : Int); rw [arrV_size]; omega)
    (fun vm₁ _ i hi => by
      have e : (vp_cell (G.2 0) (n0, .inl f)).slots.getD (sp.toNatClampNeg + i) .null = .int (f (sp.toNatClampNeg + i)) := by
        show (arrV (G.2 0) n0 (fun j => .int (f j))).slots.getD _ _ = _
        rw [Array.getD_eq_getD_getElem?, arrV_read _ _ (by omega)]
        rfl
      refine ⟨?_, ?_⟩
      · rw [e]
        rfl
      · rw [e]
        exact trivial)
    (g := F0 m pc arr (.int n :: .int dp :: .ref (b + i1) :: .int sp :: .ref (b + i0) :: st.map (cv b))) rfl (by rw [hC.2.2.2.1]; exact hL.1) (rest := st.map (cv b)) rfl (by rw [hC.2.1]; exact hd) (by omega) (by show 2 * 0 + ((st.map (cv b)).map fun v => v.category).sum + (nativeFrameWords "java/lang/System" "arraycopy" 5 + 11) ≤ R.locals; rw [cv_sum]; omega)
  have e1 : copied (vp_cell (G.2 0) (n0, .inl f)) (vp_cell (G.2 0) (n1, .inl g)) sp dp n = vp_cell (G.2 0) (n1, .inl (va_cpy f g sp.toNatClampNeg dp.toNatClampNeg n.toNatClampNeg)) := va_copied (fun z => .int z) (G.2 0) (G.2 0) f g h4
  rw [e1] at X' step
  have hl : b + i1 < H.size := (Array.getElem?_eq_some_iff.mp hc1).1
  have hheap : ((T.setVm vm').setCell (b + i1) (vp_cell (G.2 0) (n1, .inl (va_cpy f g sp.toNatClampNeg dp.toNatClampNeg n.toNatClampNeg)))).heap = H.setIfInBounds (b + i1) (vp_cell (G.2 0) (n1, .inl (va_cpy f g sp.toNatClampNeg dp.toNatClampNeg n.toNatClampNeg))) := by rw [← hT]; rfl
  have oq : ∀ q : Nat, q ≠ b + i1 → (H.setIfInBounds (b + i1) (vp_cell (G.2 0) (n1, .inl (va_cpy f g sp.toNatClampNeg dp.toNatClampNeg n.toNatClampNeg))))[q]? = H[q]? := fun q hq => by simp [Array.getElem?_setIfInBounds, Ne.symm hq]
  have hW' := hW.put (k := 0) (c := .inr (0, n1, .inl (va_cpy f g sp.toNatClampNeg dp.toNatClampNeg n.toNatClampNeg))) ha1 (show (H.setIfInBounds (b + i1) _)[b + i1]? = some _ by simp [Array.getElem?_setIfInBounds, hl]) (by simp) oq
  obtain ⟨t, a1, b1⟩ := kk p l e R s m args below meth c b G _ _ cells slots arr hC ⟨hW'.1, hW'.2.1, hW'.2.2.1, hW'.2.2.2.1, fun q hq => by
      rcases List.mem_append.mp hq with h | h
      · exact hW.2.2.2.2 q h
      · obtain ⟨z, -, hz⟩ := List.mem_map.mp h
        rw [← hz]
        exact Nat.le_add_right _ _⟩ hL g1 g2 _ hheap X'
  exact ⟨t, step t a1, b1⟩
end RULES
theorem Mt.weaken {d nc ns : Nat} {M : MD} {av : List Value} {h : List AC} {Q Q' : Option Value → List AC → Prop} (hM : Mt d nc ns M av h Q) (hq : ∀ r h', Q r h' → Q' r h') : Mt d nc ns M av h Q' := by
  intro l b G p e ha hc hk s m args below hf happ hP hK
  obtain ⟨t, o, a1, a2, a3, ⟨⟨r, h', b1, b2, b3⟩, b4⟩, a5⟩ := hM l b G p e ha hc hk s m args below hf happ hP hK
  exact ⟨t, o, a1, a2, a3, ⟨⟨r, h', b1, hq r h' b2, b3⟩, b4⟩, a5⟩
