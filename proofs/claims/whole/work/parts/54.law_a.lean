/-! THE LAW, its rows: a frame of the law over the abstract heap, which begins where the heap ended at the law's entry -/
def R_law : String := "ShootingDaysLaw"
def lw_P (b : Addr) (xs : List Int32) (args : Array Value) (s : State) : Prop := args = #[.ref b] ∧ s.IntsAt b xs ∧ xs.length ≤ 3072 ∧ (Jvm.Cond.and given_1 narrow_1).before args s = true
def lw_Q (_ : Array Value) (s : State) (o : Outcome) (t : State) : Prop := o = .returned (some (.int 1)) ∧ Framed s o t [] 600000 7302250
def lw_Z (below : List Frame) (a : Array Value) (s : State) : State → Prop := fun t => ∃ o, t.status = .running ∧ Ended t below o ∧ lw_Q a s o t
/-- the law's own end, with 1 on the stack, nothing written that was there before, its room as the claim has it -/
theorem lw_ret {p : Program} {l : Launch} {e : Env} {s : State} {m : MethodId} {below : List Frame} {meth : Method} {c : Code} {b : Nat} (hx : p.tables.exec = Jvm.exec) (hb : c.code = code) (hr : meth.sig.returnType = ret) (hlocks : meth.locks = false) {pc : Nat} {H : Heap} {ls : Array Slot} (hdg : decode code pc = .ok (.ireturn, 1)) : W p l e room_1 s m #[Value.ref b] below meth c H [] 600000 7302250 (lw_Z below #[Value.ref b] s) (F0 m pc ls [.int 1]) := by
  intro T hT X
  obtain ⟨fs, hret, hrun, hended, hW, hframe⟩ := X.leave (v := some (.int 1)) (hlocks := hlocks) (fun h => by rw [hr] at h; cases h)
  have hmeth' : T.vm.method? m = some meth := X.method'
  refine ⟨T.setFrames fs, ?_, .returned (some (.int 1)), hrun, hended, rfl, ⟨_, rfl⟩, hW, hframe⟩
  jvm_step X.here [X.here.top, hx, hb, hdg, hmeth', hr, ret, narrow_b1]
  (try refine ⟨rfl, ?_⟩); (try refine ⟨rfl, ?_⟩)
  first | (intro acts; rw [hret _ acts rfl rfl rfl]) | rw [hret _ _ rfl rfl rfl]
  exact Steps.refl _
/-- what holds at the law's entry: the machine, the code, the tables' words, the script of L ints xs at the cell b, what the Statement gives of the start -/
def lw_At (p : Program) (s : State) (m : MethodId) (meth : Method) (c : Code) (b L : Nat) (xs : Nat → Int32) : Prop :=
  p.tables.exec = Jvm.exec ∧ c.code = code ∧ meth.sig.returnType = ret ∧ c.maxLocals = 4 ∧ s.vm.findClass R_law = some m.cls ∧ (∀ w ∈ lw_tbl, w.before #[Value.ref b] s = true) ∧ va_X b L xs s s.heap ∧ b < s.heap.size ∧ meth.locks = false ∧ (Jvm.Cond.and given_1 narrow_1).before #[Value.ref b] s = true
theorem lwg_sub {w : Cond} (h : w ∈ lwg) : w ∈ lw_tbl := (List.mem_filter.mp h).1
theorem lw_good {M' : MD} (h : Cond.code M'.1 M'.2.1 M'.2.2.1 M'.2.2.2.1 ∈ lwg) : GoodIn lw_tbl (pmW M') := by
  intro w hw
  have hw : w ∈ lwg := by
    rcases List.mem_cons.mp hw with rfl | hw
    · exact h
    · exact hw
  exact ⟨lwg_sub hw, good_of_word (List.mem_filter.mp hw).2⟩
theorem kn_of {ci N : Nat} {C : String} {T : u_T} {ty0 : Nat → FieldType} {s : State} {a : Array Value} (hts : ∀ w ∈ lw_tbl, w.before a s = true) (h : CLok ci C T N ty0) (hi : Cond.instantiable C N ∈ lwg) : ∃ (cC : ClassId) (iS : Nat → Nat), u_Kn s C T N cC iS :=
  u_known hts (fun w hw => lwg_sub (h.2.1 w hw)) (hts _ (lwg_sub hi))
theorem ao_in : Cond.arrayOver (.object RX5) ∈ lw_tbl := by decide +kernel
set_option maxRecDepth 100000 in
/-- the classes as the tables have them at the start -/
theorem kn0 {s : State} {a : Array Value} (hts : ∀ w ∈ lw_tbl, w.before a s = true) : ∃ G : GG, Kn G s := by
  obtain ⟨c0, i0, h0⟩ := kn_of hts cl_0 (in_lwg 238 rfl rfl)
  obtain ⟨c1, i1, h1⟩ := kn_of hts cl_1 (in_lwg 218 rfl rfl)
  obtain ⟨c2, i2, h2⟩ := kn_of hts cl_2 (in_lwg 67 rfl rfl)
  obtain ⟨c3, i3, h3⟩ := kn_of hts cl_3 (in_lwg 134 rfl rfl)
  obtain ⟨c4, i4, h4⟩ := kn_of hts cl_4 (in_lwg 231 rfl rfl)
  obtain ⟨c5, i5, h5⟩ := kn_of hts cl_5 (in_lwg 141 rfl rfl)
  obtain ⟨c6, i6, h6⟩ := kn_of hts cl_6 (in_lwg 59 rfl rfl)
  obtain ⟨c7, i7, h7⟩ := kn_of hts cl_7 (in_lwg 675 rfl rfl)
  obtain ⟨cA, kA, compA, a1, a2, a3⟩ := Cond.arrayClass_spec (hts _ (lwg_sub w_ai))
  obtain ⟨cB, kB, compB, b1, b2, b3⟩ := Cond.arrayClass_spec (hts _ (lwg_sub w_az))
  have hO := hts _ ao_in
  obtain ⟨comp, cR, kR, r1, r2, r3, r4, r5⟩ := Cond.arrayOver_spec hO
  refine ⟨((fun k => [c0, c1, c2, c3, c4, c5, c6, c7].getD k c0, fun k => [i0, i1, i2, i3, i4, i5, i6, i7].getD k i0), fun k => [cA, cB, cR].getD k cA), ⟨?_, ?_⟩, ?_, va_AO.of hO⟩
  · intro k q hq
    match k, hq with
    | 0, hq => cases hq; exact h0
    | 1, hq => cases hq; exact h1
    | 2, hq => cases hq; exact h2
    | 3, hq => cases hq; exact h3
    | 4, hq => cases hq; exact h4
    | 5, hq => cases hq; exact h5
    | 6, hq => cases hq; exact h6
    | 7, hq => cases hq; exact h7
    | k + 8, hq => simp [vwCl] at hq
  · intro k q hq
    match k, hq with
    | 0, hq => cases hq; exact ⟨fun n z => ⟨fun k h => (by cases h), kA, a2, compA, a3⟩, a1⟩
    | 1, hq => cases hq; exact ⟨fun n z => ⟨fun k h => (by cases h), kB, b2, compB, b3⟩, b1⟩
    | 2, hq => cases hq; exact ⟨fun n z => ⟨fun k h => (by cases h), kR, r3, comp, r4⟩, kR, comp, r3, r4, r1, r5⟩
    | k + 3, hq => simp [tysG] at hq
  · intro w hw
    obtain ⟨g1, g2⟩ := List.mem_filter.mp hw
    have g3 := hts w g1
    cases w with
    | methodLinkNest a i x k => exact va_Nw.of rfl g3
    | _ => simp [isNestW] at g2
def LW (p : Program) (l : Launch) (e : Env) (s : State) (m : MethodId) (below : List Frame) (meth : Method) (c : Code) (b : Nat) (G : GG) (k n pc : Nat) (lv : List (Nat × Value)) (st : List Value) (h : List AC) : Prop :=
  ∀ (H : Heap) (locs : List Loc) (arr : Array Slot), Wd s.heap.size G h s H locs → lv_has arr 4 lv → W p l e room_1 s m #[Value.ref b] below meth c H locs k n (lw_Z below #[Value.ref b] s) (F0 m pc arr (st.map (cv s.heap.size)))
section LAW
variable {p : Program} {l : Launch} {e : Env} {s : State} {m : MethodId} {below : List Frame} {meth : Method} {c : Code} {b L : Nat} {xs : Nat → Int32} {G : GG} {k n pc : Nat} {lv : List (Nat × Value)} {st : List Value} {h : List AC}
theorem LW.dupr {i : Nat} (hC : lw_At p s m meth c b L xs) (hd : decode code pc = .ok (.dup, 1)) (kk : LW p l e s m below meth c b G k n (pc + 1) lv (.ref i :: .ref i :: st) h) : LW p l e s m below meth c b G k n pc lv (.ref i :: st) h :=
  fun H locs arr hW hL => lv_dup hC.1 hC.2.1 hd rfl (kk H locs arr hW hL)
theorem LW.astn {q : Fin 4} {x : Nat} (lv' : List (Nat × Value)) (hC : lw_At p s m meth c b L xs) (hd : decode code pc = .ok (.astore_n q, 1)) (hl : ((q : Nat), Value.ref (s.heap.size + x)) :: lv.filter (fun z => !(z.1 == (q : Nat)) && !(z.1 + 1 == (q : Nat) && z.2.category == 2)) = lv') (kk : LW p l e s m below meth c b G k n (pc + 1) lv' st h) : LW p l e s m below meth c b G k n pc lv (.ref x :: st) h :=
  fun H locs arr hW hL => lv_astore_n hC.1 hC.2.1 hd rfl hL q.2 hl (fun arr' h' => kk H locs arr' hW h')
theorem LW.istn {q : Fin 4} {x : Int32} (lv' : List (Nat × Value)) (hC : lw_At p s m meth c b L xs) (hd : decode code pc = .ok (.istore_n q, 1)) (hl : ((q : Nat), Value.int x) :: lv.filter (fun z => !(z.1 == (q : Nat)) && !(z.1 + 1 == (q : Nat) && z.2.category == 2)) = lv') (kk : LW p l e s m below meth c b G k n (pc + 1) lv' st h) : LW p l e s m below meth c b G k n pc lv (.int x :: st) h :=
  fun H locs arr hW hL => lv_istore_n hC.1 hC.2.1 hd rfl hL q.2 hl (fun arr' h' => kk H locs arr' hW h')
theorem LW.iconst {j : Int} (v : Int32) (hC : lw_At p s m meth c b L xs) (hd : decode code pc = .ok (.iconst j, 1)) (hv : Int32.ofInt j = v) (kk : LW p l e s m below meth c b G k n (pc + 1) lv (.int v :: st) h) : LW p l e s m below meth c b G k n pc lv st h :=
  fun H locs arr hW hL => lv_iconst hC.1 hC.2.1 hd hv (kk H locs arr hW hL)
theorem LW.ald {q : Fin 4} (x : Nat) (hC : lw_At p s m meth c b L xs) (hd : decode code pc = .ok (.aload_n q, 1)) (hm : ((q : Nat), Value.ref (s.heap.size + x)) ∈ lv) (kk : LW p l e s m below meth c b G k n (pc + 1) lv (.ref x :: st) h) : LW p l e s m below meth c b G k n pc lv st h :=
  fun H locs arr hW hL => lv_aload_n hC.1 hC.2.1 hd rfl (hL.2.2 _ hm) (kk H locs arr hW hL)
theorem LW.arg {i : Int32} {jj : Int} (j : Nat) (hC : lw_At p s m meth c b L xs) (hm0 : (0, Value.ref b) ∈ lv) (hm3 : (3, Value.int i) ∈ lv) (hin : vp_in (i + nI j) L) (d0 : decode code pc = .ok (.aload_n 0, 1)) (d1 : decode code (pc + 1) = .ok (.iload_n 3, 1)) (d2 : decode code (pc + 2) = .ok (.iconst jj, 1)) (d3 : decode code (pc + 3) = .ok (.iadd, 1)) (d4 : decode code (pc + 4) = .ok (.iaload, 1)) (hj : Int32.ofInt jj = nI j) (kk : LW p l e s m below meth c b G k n (pc + 5) lv (.int (xs (i + nI j).toNatClampNeg) :: st) h) : LW p l e s m below meth c b G k n pc lv st h := by
  intro H locs arr hW hL
  obtain ⟨hx, hb, -, -, -, -, hX, hbl, -, -⟩ := id hC
  refine lv_aload_n hx hb d0 rfl (hL.2.2 _ hm0) ?_
  refine lv_iload_n hx hb d1 rfl (hL.2.2 _ hm3) ?_
  refine lv_iconst hx hb d2 hj ?_
  refine lv_iadd hx hb d3 ?_
  exact va_sld hx hb hX hbl (Nat.not_le.mpr hbl) hW.2.2 hin d4 (kk H locs arr hW hL)
theorem LW.icmp_eq {x y : Int32} {off : Int} (tgt : Nat) (hC : lw_At p s m meth c b L xs) (hd : decode code pc = .ok (.if_icmp .eq off, 3)) (ht : (pc : Int) + off = (tgt : Int)) (hxy : x = y) (kk : LW p l e s m below meth c b G k n tgt lv st h) : LW p l e s m below meth c b G k n pc lv (.int y :: .int x :: st) h :=
  fun H locs arr hW hL => lv_icmp_eq hC.1 hC.2.1 hd ht (fun _ => kk H locs arr hW hL) (fun q => absurd hxy q)
theorem LW.new {idx ci N : Nat} {fs : List Value} (hC : lw_At p s m meth c b L xs) (hK : Kn G s) (hd : decode code pc = .ok (.new idx, 3)) (hn : NWok RL idx ci N fs) (h1 : k + 1 ≤ 600000) (h2 : n + N ≤ 7302250) (kk : LW p l e s m below meth c b G (k + 1) (n + N) (pc + 3) lv (.ref h.length :: st) (h ++ [.inl (ci, fs)])) : LW p l e s m below meth c b G k n pc lv st h := by
  intro H locs arr hW hL
  obtain ⟨C, T, ty0, hcl, w1, w2, w3, hdf, hfs⟩ := hn
  obtain ⟨hx, hb, -, -, hown, hts, -, -, -, -⟩ := id hC
  have hKn := hK.1.1 ci _ hcl.1
  refine W.newcK hx hb (own := RL) hown (hts _ (lwg_sub w1)) (hts _ (lwg_sub w2)) (hts _ (lwg_sub w3)) rfl hd h1 h2 hKn.2.1 hW.1 fun H1 kC hkC e1 z1 o1 => ?_
  refine kk H1 locs arr (hW.push ⟨_, hcl.1, ?_⟩ (by rw [z1, hW.1]) (fun q hq => o1 q (by rw [← hW.1]; exact hq))) hL
  have := (u_born ty0 hts (fun w hw => lwg_sub (hcl.2.1 w hw)) hKn hkC e1 hcl.2.2.1).to hdf
  show t_OB (s.heap.size + h.length) _ _ _ H1 (vp_V (fs.map (cv s.heap.size)))
  rw [hfs s.heap.size]
  exact this
theorem LW.after {H : Heap} {locs : List Loc} {nc ns : Nat} {arr : Array Slot} {st0 : List Value} {Q' : Option Value → List AC → Prop} {a : Array Value}
    (hr : va_Run p l e room_1 s m #[Value.ref b] below meth c H locs k n nc ns (F0 m pc arr st0) (st.map (cv s.heap.size)) (QcA s.heap.size G Q' a) (fun q => s.heap.size ≤ q)) (hW : Wd s.heap.size G h s H locs) (hL : lv_has arr 4 lv)
    (kk : ∀ (r : Option Value) (h' : List AC), Q' r h' → LW p l e s m below meth c b G (k + nc) (n + ns) (pc + 3) lv (r.toList ++ st) h') : W p l e room_1 s m #[Value.ref b] below meth c H locs k n (lw_Z below #[Value.ref b] s) (F0 m pc arr st0) := by
  intro T hT X
  obtain ⟨v, st₀, t, T', L', h0, X', hL', e1, e2, ⟨⟨r, h', hv, hq, hz, hP⟩, hF⟩, hst⟩ := hr T hT X
  have hv : v = r.map (cv s.heap.size) := by cases hv; rfl
  subst hv
  have hS : va_S (fun q => s.heap.size ≤ q) s.heap T'.heap (locs ++ L') := by
    refine ⟨Nat.le_trans hW.2.2.1 (by rw [e1, ← h0]; exact hF.1), fun q g1 g2 => ?_, fun q hq => ?_⟩
    · have g3 : q < H.size := Nat.lt_of_lt_of_le g1 hW.2.2.1
      rw [e1, hF.2 q (by rw [h0]; exact g3) g2, h0]
      exact hW.2.2.2.1 q g1 g2
    · rcases List.mem_append.mp hq with h | h
      · exact hW.2.2.2.2 q h
      · exact hL' q h
  obtain ⟨t2, a1, b1⟩ := kk r h' hq T'.heap (locs ++ L') arr ⟨by rw [e1]; exact hz, by rw [e1]; exact hP, hS⟩ hL T' rfl X'
  refine ⟨t2, hst t2 ?_, b1⟩
  rw [← map_toList] at a1
  exact a1
theorem LW.callV {idx ci na i d' nc ns : Nat} {M' : MD} {As : List Value} {st0 : List Value} {fs : List Value} {Q' : Option Value → List AC → Prop} (hC : lw_At p s m meth c b L xs) (hK : Kn G s) (hd : decode code pc = .ok (.invokevirtual idx, 3)) (hw : CVok RL idx M' ci na) (hr : h[i]? = some (.inl (ci, fs))) (hn : As.length = na) (hst : st0 = As.reverse ++ .ref i :: st) (hs : (st.map fun v => v.category).sum ≤ 8) (hdp : d' ≤ 100)
    (hM : Mt d' nc ns M' (.ref i :: As) h Q') (h1 : k + nc ≤ 600000) (h2 : n + ns ≤ 7302250) (kk : ∀ (r : Option Value) (h' : List AC), Q' r h' → LW p l e s m below meth c b G (k + nc) (n + ns) (pc + 3) lv (r.toList ++ st) h') : LW p l e s m below meth c b G k n pc lv st0 h := by
  intro H locs arr hW hL
  subst hst
  obtain ⟨hx, hb, -, hml, hown, hts, -, -, -, -⟩ := id hC
  obtain ⟨⟨w1, w2, w3, w4⟩, w5, w6, w7, T, N, w8⟩ := hw
  have he : (wl s.heap.size G h)[i]? = some (s.heap.size + i, .inr (ci, fs.map (cv s.heap.size))) := wl_get hr
  refine LW.after (h := h) (lv := lv) (va_runV (As := As.map (cv s.heap.size)) (rest := st.map (cv s.heap.size)) (b := s.heap.size + i) (C := M'.1.cls) (bytes := M'.2.1) (maxL := M'.2.2.1) (ret := M'.2.2.2.1) (own := RL) ⟨hx, hb, hml, hown, hts⟩ (hM l s.heap.size G) ?_ ?_ rfl (n := na) (by rw [List.length_map]; exact hn) hL.1 ?_ ?_ hd ?_) hW hL kk
  · exact ⟨callB_of na hts (lw_good w1) rfl rfl rfl (hts _ (lwg_sub w2)) (hts _ (lwg_sub w5)) w3 ⟨by show d' + 1 ≤ 2048; omega, by show 8 + (M'.2.2.1 + 11) + 40 * d' ≤ 84000; omega⟩, hts _ (lwg_sub w6), hts _ (lwg_sub w7)⟩
  · exact ⟨PcA.blind _ G _ h, va_recv hK.1 hW.2.1 w8 he, fun U hU hWm => ⟨rfl, by rw [hU]; exact hW.1, by rw [hU]; exact hW.2.1, hK.warm hWm⟩⟩
  · simp [cv_ref]
  · exact lv_room (by rw [cv_sum]; exact hs)
  · exact ⟨h1, h2⟩
theorem LW.callI {idx na i d' nc ns : Nat} {M' : MD} {As : List Value} {st0 : List Value} {Q' : Option Value → List AC → Prop} (hC : lw_At p s m meth c b L xs) (hK : Kn G s) (hd : decode code pc = .ok (.invokespecial idx, 3)) (hw : CIok RL idx M' na) (hn : As.length = na) (hst : st0 = As.reverse ++ .ref i :: st) (hs : (st.map fun v => v.category).sum ≤ 8) (hdp : d' ≤ 100)
    (hM : Mt d' nc ns M' (.ref i :: As) h Q') (h1 : k + nc ≤ 600000) (h2 : n + ns ≤ 7302250) (kk : ∀ (r : Option Value) (h' : List AC), Q' r h' → LW p l e s m below meth c b G (k + nc) (n + ns) (pc + 3) lv (r.toList ++ st) h') : LW p l e s m below meth c b G k n pc lv st0 h := by
  intro H locs arr hW hL
  subst hst
  obtain ⟨hx, hb, -, hml, hown, hts, -, -, -, -⟩ := id hC
  obtain ⟨⟨w1, w2, w3, w4⟩, wr, wi, w6, w7⟩ := hw
  have hpre : PreS s H (PcA s.heap.size G (.ref i :: As) h) (.ref (s.heap.size + i) :: As.map (cv s.heap.size)) := ⟨PcA.blind _ G _ h, fun U hU hWm => ⟨rfl, by rw [hU]; exact hW.1, by rw [hU]; exact hW.2.1, hK.warm hWm⟩⟩
  have hroom : (Room.frames { frames := d', cells := nc, slots := ns, locals := 40 * d' }) + 1 ≤ room_1.frames ∧ 8 + (M'.2.2.1 + 11) + 40 * d' ≤ room_1.locals := ⟨by show d' + 1 ≤ 2048; omega, by show 8 + (M'.2.2.1 + 11) + 40 * d' ≤ 84000; omega⟩
  have hpw : pmW M' = Cond.code M'.1 M'.2.1 M'.2.2.1 none :: lwg := by rw [← wr]; rfl
  rcases w7 with w7 | ⟨host, w7⟩
  · refine LW.after (h := h) (lv := lv) (va_runI (As := As.map (cv s.heap.size)) (rest := st.map (cv s.heap.size)) (b := s.heap.size + i) (bytes := M'.2.1) (maxL := M'.2.2.1) (own := RL) ⟨hx, hb, hml, hown, hts⟩ (hM l s.heap.size G) ?_ hpre rfl (n := na) (by rw [List.length_map]; exact hn) hL.1 ?_ ?_ hd ?_) hW hL kk
    · exact ⟨callB_of na hts (lw_good w1) hpw rfl rfl (hts _ (lwg_sub w2)) (hts _ (lwg_sub w7)) w3 hroom, wi, hts _ (lwg_sub w6)⟩
    · simp [cv_ref]
    · exact lv_room (by rw [cv_sum]; exact hs)
    · exact ⟨h1, h2⟩
  · refine LW.after (h := h) (lv := lv) (va_runIN (host := host) (As := As.map (cv s.heap.size)) (rest := st.map (cv s.heap.size)) (b := s.heap.size + i) (bytes := M'.2.1) (maxL := M'.2.2.1) (own := RL) ⟨hx, hb, hml, hown, hts⟩ (hM l s.heap.size G) ?_ hpre rfl (n := na) (by rw [List.length_map]; exact hn) hL.1 ?_ ?_ hd ?_) hW hL kk
    · exact ⟨va_cnB na hts (lw_good w1) hpw rfl rfl (hK.2.1 _ w7) (hts _ (lwg_sub w2)) w3 hroom, wi, hts _ (lwg_sub w6)⟩
    · simp [cv_ref]
    · exact lv_room (by rw [cv_sum]; exact hs)
    · exact ⟨h1, h2⟩
/-- a row of references is what it is below its length -/
theorem LW.rowq {i N : Nat} {f f' : Nat → Option Nat} (hc : h[i]? = some (.inr (2, N, .inr f))) (hf : ∀ j, j < N → f j = f' j) (kk : LW p l e s m below meth c b G k n pc lv st (h.set i (.inr (2, N, .inr f')))) : LW p l e s m below meth c b G k n pc lv st h := by
  intro H locs arr hW hL
  refine kk H locs arr ⟨by rw [List.length_set]; exact hW.1, ?_, hW.2.2⟩ hL
  rw [← wl_set]
  refine hW.2.1.set (wl_D s.heap.size G h) (wl_get hc) ?_ (fun _ _ => rfl)
  have h1 : H[s.heap.size + i]? = some (vp_cell (G.2 2) (N, .inr (.inr (.inr (.inr (fun j => (f j).map (fun i => s.heap.size + i))))))) := hW.2.1 i _ (wl_get hc)
  show H[s.heap.size + i]? = some (vp_cell (G.2 2) (N, .inr (.inr (.inr (.inr (fun j => (f' j).map (fun i => s.heap.size + i)))))))
  rw [h1, vp_cell_q, vp_cell_q]
  unfold arrV
  congr 3
  funext j
  show va_rf ((f j.val).map (fun i => s.heap.size + i)) = va_rf ((f' j.val).map (fun i => s.heap.size + i))
  rw [hf j.val j.isLt]
end LAW
