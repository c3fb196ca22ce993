/-! THE FRAME LOGIC: a run of a method over an abstract heap (a list of cells; a reference is a place in it), with its proof that the machine does the same. -/
abbrev AC : Type := (Nat × List Value) ⊕ (Nat × Nat × ((Nat → Int32) ⊕ (Nat → Option Nat)))
abbrev GG : Type := va_G × (Nat → ClassId)
abbrev MD : Type := MethodName × ByteArray × Nat × Option FieldType × String
/-- an abstract value at the machine: a reference is counted from the base -/
def cv (b : Nat) (v : Value) : Value := match v with
  | .ref i => .ref (b + i)
  | .int x => .int x
  | v => v
theorem cv_int (b : Nat) (x : Int32) : cv b (.int x) = .int x := rfl
theorem cv_ref (b i : Nat) : cv b (.ref i) = .ref (b + i) := rfl
theorem cv_cat (b : Nat) (v : Value) : (cv b v).category = v.category := by cases v <;> rfl
theorem cv_sum (b : Nat) (st : List Value) : ((st.map (cv b)).map fun v => v.category).sum = (st.map fun v => v.category).sum := by
  induction st with
  | nil => rfl
  | cons v st ih => simp only [List.map_cons, List.sum_cons, cv_cat, ih]
def ce (b : Nat) (G : GG) (a : AC) : va_E := match a with
  | .inl (c, fs) => .inr (c, fs.map (cv b))
  | .inr (k, n, .inl f) => .inl (G.2 k, n, .inl f)
  | .inr (k, n, .inr f) => .inl (G.2 k, n, .inr (.inr (.inr (.inr (fun j => (f j).map (fun i => b + i))))))
def wl (b : Nat) (G : GG) (h : List AC) : va_W := (List.range h.length).zipWith (fun i c => (b + i, ce b G c)) h
theorem wl_get {b : Nat} {G : GG} {h : List AC} {i : Nat} {c : AC} (hc : h[i]? = some c) : (wl b G h)[i]? = some (b + i, ce b G c) := by
  have hi : i < h.length := (List.getElem?_eq_some_iff.mp hc).1
  simp [wl, List.getElem?_zipWith, List.getElem?_range hi, hc]
theorem wl_inv {b : Nat} {G : GG} {h : List AC} {i : Nat} {q : Nat × va_E} (hq : (wl b G h)[i]? = some q) : ∃ c, h[i]? = some c ∧ q = (b + i, ce b G c) := by
  have hi : i < h.length := by
    have h1 := (List.getElem?_eq_some_iff.mp hq).1
    simp [wl] at h1
    exact h1
  cases hc : h[i]? with
  | none => simp at hc; omega
  | some c =>
    rw [wl_get hc] at hq
    exact ⟨c, rfl, (Option.some.inj hq).symm⟩
theorem wl_len (b : Nat) (G : GG) (h : List AC) : (wl b G h).length = h.length := by simp [wl]
theorem wl_set {b : Nat} {G : GG} {h : List AC} {i : Nat} {c : AC} : (wl b G h).set i (b + i, ce b G c) = wl b G (h.set i c) := by
  apply List.ext_getElem?
  intro j
  by_cases hj : j < h.length
  · by_cases e : j = i
    · subst e
      rw [wl_get (c := c) (by simp [hj]), List.getElem?_set_self (by rw [wl_len]; exact hj)]
    · rw [List.getElem?_set_ne (fun q => e q.symm)]
      have h1 : h[j]? = some h[j] := by simp [hj]
      rw [wl_get h1, wl_get (c := h[j]) (by rw [List.getElem?_set_ne (fun q => e q.symm)]; exact h1)]
  · rw [List.getElem?_eq_none (by rw [List.length_set, wl_len]; omega), List.getElem?_eq_none (by rw [wl_len, List.length_set]; omega)]
theorem wl_D (b : Nat) (G : GG) (h : List AC) : va_D (fun q => b ≤ q) (wl b G h) := by
  refine ⟨fun i j p q hp hq hpq => ?_, fun k q hk => ?_⟩
  · obtain ⟨c, -, rfl⟩ := wl_inv hp
    obtain ⟨c', -, rfl⟩ := wl_inv hq
    simp at hpq
    exact hpq
  · obtain ⟨c, -, rfl⟩ := wl_inv hk
    simp
/-- the words that a callee may take over -/
def lwg : List Cond := lw_tbl.filter goodWord
def isNestW (c : Cond) : Bool := match c with
  | .methodLinkNest .. => true
  | _ => false
def lwn : List Cond := lw_tbl.filter isNestW
theorem in_lwg {w : Cond} (i : Nat) (h : lw_tbl[i]? = some w) (hg : goodWord w = true) : w ∈ lwg := List.mem_filter.mpr ⟨List.mem_of_getElem? h, hg⟩
theorem in_lwn {w : Cond} (i : Nat) (h : lw_tbl[i]? = some w) (hg : isNestW w = true) : w ∈ lwn := List.mem_filter.mpr ⟨List.mem_of_getElem? h, hg⟩
def pmW (M : MD) : List Cond := .code M.1 M.2.1 M.2.2.1 M.2.2.2.1 :: lwg
theorem pmW_good {M M' : MD} (h : Cond.code M'.1 M'.2.1 M'.2.2.1 M'.2.2.2.1 ∈ lwg) : GoodIn (pmW M) (pmW M') := by
  intro w hw
  have hw : w ∈ lwg := by
    rcases List.mem_cons.mp hw with rfl | hw
    · exact h
    · exact hw
  exact ⟨List.mem_cons_of_mem _ hw, good_of_word (List.mem_filter.mp hw).2⟩
def tysG (G : GG) : List (ClassId × FieldType) := [(G.2 0, .int), (G.2 1, .boolean), (G.2 2, .object RX5)]
def Kn (G : GG) (U : State) : Prop := va_K G.1 vwCl (tysG G) U ∧ (∀ w ∈ lwn, va_Nw w U) ∧ va_AO RX5 U
theorem Kn.warm {G : GG} {s U : State} (hW : s.WarmedH U.vm) (h : Kn G s) : Kn G U := by
  refine ⟨va_K.moved hW.alike h.1, fun w hw => ?_, va_AO.moved hW.alike h.2.2⟩
  have h1 := h.2.1 w hw
  have h2 := (List.mem_filter.mp hw).2
  cases w with
  | methodLinkNest a i x k => exact va_Nw.warmM hW h1
  | _ => simp [isNestW] at h2
theorem Kn.calling {G : GG} {U : State} (g : JFrame) (mk : MethodId) (a : Array Value) (h : Kn G U) : Kn G (U.calling g mk a) := by
  refine ⟨va_K.moved (u := U) (U := U.calling g mk a) (Vm.Alike.refl U.vm) h.1, fun w hw => ?_, va_AO.moved (u := U) (U := U.calling g mk a) (Vm.Alike.refl U.vm) h.2.2⟩
  have h1 := h.2.1 w hw
  have h2 := (List.mem_filter.mp hw).2
  cases w with
  | methodLinkNest a i x k => exact va_Nw.same (u := U) rfl rfl h1
  | _ => simp [isNestW] at h2
def PcA (b : Nat) (G : GG) (av : List Value) (h : List AC) : Array Value → State → Prop := va_Pc (av.map (cv b)) (fun U => U.heap.size = b + h.length ∧ va_P G.1 vwCl (wl b G h) U.heap ∧ Kn G U)
def QcA (b : Nat) (G : GG) (Q : Option Value → List AC → Prop) : Array Value → State → Outcome → State → Prop := fun _ st oc t => (∃ (r : Option Value) (h' : List AC), oc = .returned (r.map (cv b)) ∧ Q r h' ∧ t.heap.size = b + h'.length ∧ va_P G.1 vwCl (wl b G h') t.heap) ∧ va_F (fun q => b ≤ q) st t
theorem PcA.blind (b : Nat) (G : GG) (av : List Value) (h : List AC) : FrameBlind (PcA b G av h) := by
  intro a U g mk q
  obtain ⟨q0, q1, q2, q3⟩ := q
  exact ⟨q0, q1, q2, q3.calling g mk a⟩
/-- a method's contract over the abstract heap -/
def Mt (d nc ns : Nat) (M : MD) (av : List Value) (h : List AC) (Q : Option Value → List AC → Prop) : Prop :=
  ∀ (l : Launch) (b : Nat) (G : GG), Met l M.1 (pmW M) { frames := d, cells := nc, slots := ns, locals := 40 * d } (PcA b G av h) (QcA b G Q) nc ns (fun q => b ≤ q)
def Cx (M : MD) (d : Nat) (p : Program) (R : Room) (s : State) (m : MethodId) (args : Array Value) (meth : Method) (c : Code) (b : Nat) (G : GG) : Prop :=
  p.tables.exec = Jvm.exec ∧ c.code = M.2.1 ∧ meth.sig.returnType = M.2.2.2.1 ∧ c.maxLocals = M.2.2.1 ∧ s.vm.findClass M.2.2.2.2 = some m.cls ∧ (∀ w ∈ pmW M, w.before args s = true) ∧ meth.locks = false ∧ meth.name = M.1.name ∧ b ≤ s.heap.size ∧ Kn G s ∧ d ≤ R.frames ∧ 40 * d ≤ R.locals
def Wd (b : Nat) (G : GG) (h : List AC) (s : State) (H : Heap) (locs : List Loc) : Prop :=
  H.size = b + h.length ∧ va_P G.1 vwCl (wl b G h) H ∧ va_S (fun q => b ≤ q) s.heap H locs
def Lc (b : Nat) (arr : Array Slot) (nL : Nat) (ls : List (Option Value)) : Prop :=
  arr.size = nL ∧ lv_wf arr ∧ ls.length = nL ∧ ∀ (i : Nat) (v : Value), ls[i]? = some (some v) → v.category = 1 ∧ arr[i]? = some (.val (cv b v))
/-- a frame of method M at pc: it comes to its end, with Q of the answer and the heap -/
def V (M : MD) (d rc rs pc : Nat) (ls : List (Option Value)) (st : List Value) (h : List AC) (Q : Option Value → List AC → Prop) : Prop :=
  ∀ (p : Program) (l : Launch) (e : Env) (R : Room) (s : State) (m : MethodId) (args : Array Value) (below : List Frame) (meth : Method) (c : Code) (b : Nat) (G : GG) (H : Heap) (locs : List Loc) (cells slots : Nat) (arr : Array Slot),
    Cx M d p R s m args meth c b G → Wd b G h s H locs → Lc b arr M.2.2.1 ls → cells + rc ≤ R.cells → slots + rs ≤ R.slots →
    W p l e R s m args below meth c H locs cells slots (MQ below (QcA b G Q) args s R.cells R.slots (fun q => b ≤ q)) (F0 m pc arr (st.map (cv b)))
def lcl (b : Nat) (ls : List (Option Value)) : List (Nat × Value) := (List.range ls.length).filterMap (fun i => (ls.getD i none).map (fun v => (i, cv b v)))
theorem lcl_mem {b : Nat} {ls : List (Option Value)} {q : Nat × Value} : q ∈ lcl b ls ↔ ∃ v, ls[q.1]? = some (some v) ∧ q.2 = cv b v := by
  obtain ⟨i, x⟩ := q
  simp only [lcl, List.mem_filterMap, List.mem_range]
  constructor
  · rintro ⟨j, hj, hq⟩
    rw [List.getD_eq_getElem?_getD] at hq
    cases hl : ls[j]? with
    | none => rw [hl] at hq; cases hq
    | some o =>
      rw [hl] at hq
      cases o with
      | none => cases hq
      | some v =>
        have hq : some (j, cv b v) = some (i, x) := hq
        cases hq
        exact ⟨v, hl, rfl⟩
  · rintro ⟨v, h1, h2⟩
    refine ⟨i, (List.getElem?_eq_some_iff.mp h1).1, ?_⟩
    rw [List.getD_eq_getElem?_getD, h1, h2]
    rfl
theorem Lc.has {b : Nat} {arr : Array Slot} {nL : Nat} {ls : List (Option Value)} (h : Lc b arr nL ls) : lv_has arr nL (lcl b ls) := by
  refine ⟨h.1, h.2.1, fun q hq => ?_⟩
  obtain ⟨v, h1, h2⟩ := lcl_mem.mp hq
  rw [h2]
  exact (h.2.2.2 q.1 v h1).2
theorem Lc.at {b : Nat} {arr : Array Slot} {nL : Nat} {ls : List (Option Value)} (h : Lc b arr nL ls) {i : Nat} {v : Value} (hi : ls[i]? = some (some v)) : arr[i]? = some (.val (cv b v)) := (h.2.2.2 i v hi).2
theorem Lc.set {b : Nat} {arr arr' : Array Slot} {nL i : Nat} {ls : List (Option Value)} {v : Value} (h : Lc b arr nL ls) (hc : v.category = 1) (h' : lv_has arr' nL ((i, cv b v) :: (lcl b ls).filter (fun q => !(q.1 == i) && !(q.1 + 1 == i && q.2.category == 2)))) : Lc b arr' nL (ls.set i (some v)) := by
  refine ⟨h'.1, h'.2.1, by rw [List.length_set]; exact h.2.2.1, fun j w hj => ?_⟩
  by_cases e : j = i
  · subst e
    have hl : j < ls.length := by
      have := (List.getElem?_eq_some_iff.mp hj).1
      rw [List.length_set] at this
      exact this
    rw [List.getElem?_set_self hl] at hj
    cases hj
    exact ⟨hc, h'.2.2 (j, cv b v) List.mem_cons_self⟩
  · rw [List.getElem?_set_ne (fun q => e q.symm)] at hj
    refine ⟨(h.2.2.2 j w hj).1, h'.2.2 (j, cv b w) (List.mem_cons_of_mem _ (List.mem_filter.mpr ⟨lcl_mem.mpr ⟨w, hj, rfl⟩, ?_⟩))⟩
    have h1 := (h.2.2.2 j w hj).1
    simp [e, cv_cat, h1]
theorem lv_args_one (b : Nat) : ∀ (av : List Value) (i : Nat), (∀ v ∈ av, v.category = 1) → ∀ (j : Nat) (v : Value), av[j]? = some v → (i + j, cv b v) ∈ lv_args i (av.map (cv b))
  | [], _, _, j, v, hj => by simp at hj
  | a :: av, i, hc, j, v, hj => by
    have ha : ¬ (cv b a).category = 2 := by rw [cv_cat, hc a List.mem_cons_self]; decide
    simp only [List.map_cons, lv_args, if_neg ha]
    cases j with
    | zero =>
      simp at hj
      subst hj
      exact List.mem_cons_self
    | succ j =>
      rw [List.getElem?_cons_succ] at hj
      have := lv_args_one b av (i + 1) (fun v hv => hc v (List.mem_cons_of_mem _ hv)) j v hj
      rw [show i + (j + 1) = i + 1 + j by omega]
      exact List.mem_cons_of_mem _ this
theorem lg_sl_one (b : Nat) : ∀ (av : List Value), (∀ v ∈ av, v.category = 1) → (lg_sl (av.map (cv b))).length = av.length
  | [], _ => rfl
  | a :: av, hc => by
    have ha : ¬ (cv b a).category = 2 := by rw [cv_cat, hc a List.mem_cons_self]; decide
    have := lg_sl_one b av (fun v hv => hc v (List.mem_cons_of_mem _ hv))
    simp only [lg_sl, List.map_cons, List.flatMap_cons, if_neg ha, List.length_append, List.length_cons, List.length_nil] at this ⊢
    omega
theorem Mt.of {M : MD} {d nc ns : Nat} {av : List Value} {h : List AC} {Q : Option Value → List AC → Prop} (hy : plainName M.1.cls = true) (ho : M.1.cls = M.2.2.2.2) (hn : av.length ≤ M.2.2.1) (hc : av.all (fun v => v.category == 1) = true)
    (hV : V M d nc ns 0 (av.map some ++ List.replicate (M.2.2.1 - av.length) none) [] h Q) : Mt d nc ns M av h Q := by
  intro l b G
  have hc : ∀ v ∈ av, v.category = 1 := fun v hv => by simpa using List.all_eq_true.mp hc v hv
  refine Met.ofW (cc := M.2.1) (maxL := M.2.2.1) (ret := M.2.2.2.1) hy rfl ?_
  intro p e s m args below meth c s₁ B hml hv
  obtain ⟨rfl, hsz, hP, hK⟩ := hv
  have hts := atoms_spec (ws := pmW M) B.pre
  have hown : s.vm.findClass M.2.2.2.2 = some m.cls := by rw [← ho]; exact findClass_of_methodNamed B.named
  have hl := lv_entry (av.map (cv b)) (n := M.2.2.1) (by rw [lg_sl_one b av hc]; exact hn)
  rw [lg_entry_eq]
  generalize (lg_sl (av.map (cv b)) ++ List.replicate (M.2.2.1 - (lg_sl (av.map (cv b))).length) Slot.unset).toArray = arr at hl ⊢
  have hL : Lc b arr M.2.2.1 (av.map some ++ List.replicate (M.2.2.1 - av.length) none) := by
    refine ⟨hl.1, hl.2.1, by simp; omega, fun i v hi => ?_⟩
    have h1 : av[i]? = some v := by
      by_cases h2 : i < av.length
      · rw [List.getElem?_append_left (by simpa using h2), List.getElem?_map] at hi
        cases h3 : av[i]? with
        | none => rw [h3] at hi; cases hi
        | some w => rw [h3] at hi; cases hi; rfl
      · rw [List.getElem?_append_right (by simp; omega), List.getElem?_replicate] at hi
        split at hi <;> cases hi
    refine ⟨hc v (List.mem_of_getElem? h1), ?_⟩
    have := hl.2.2 (i, cv b v) (by have := lv_args_one b av 0 hc i v h1; rw [Nat.zero_add] at this; exact this)
    exact this
  exact hV p l e _ s m _ below meth c b G s.heap [] 0 0 arr ⟨B.exec, B.bytes, B.returns, hml, hown, hts, B.notSynchronized, (name_of_methodNamed B.named B.method).1, by rw [hsz]; exact Nat.le_add_right _ _, hK, Nat.le_refl _, Nat.le_refl _⟩ ⟨hsz, hP, va_S.rf⟩ hL (by show 0 + nc ≤ nc; omega) (by show 0 + ns ≤ ns; omega)
section RULES
variable {M : MD} {d rc rs pc : Nat} {ls : List (Option Value)} {st : List Value} {h : List AC} {Q : Option Value → List AC → Prop}
theorem V.lift {pc' : Nat} {st' : List Value} (hs : ∀ (p : Program) (l : Launch) (e : Env) (R : Room) (s : State) (m : MethodId) (args : Array Value) (below : List Frame) (meth : Method) (c : Code) (H : Heap) (locs : List Loc) (cells slots : Nat) (Qf : State → Prop) (arr : Array Slot) (b : Nat), p.tables.exec = Jvm.exec → c.code = M.2.1 → W p l e R s m args below meth c H locs cells slots Qf (F0 m pc' arr (st'.map (cv b))) → W p l e R s m args below meth c H locs cells slots Qf (F0 m pc arr (st.map (cv b))))
    (k : V M d rc rs pc' ls st' h Q) : V M d rc rs pc ls st h Q := by
  intro p l e R s m args below meth c b G H locs cells slots arr hC hW hL h1 h2
  exact hs p l e R s m args below meth c H locs cells slots _ arr b hC.1 hC.2.1 (k p l e R s m args below meth c b G H locs cells slots arr hC hW hL h1 h2)
theorem V.iconst {n : Int} (v : Int32) (hd : decode M.2.1 pc = .ok (.iconst n, 1)) (hv : Int32.ofInt n = v) (k : V M d rc rs (pc + 1) ls (.int v :: st) h Q) : V M d rc rs pc ls st h Q := V.lift (fun _ _ _ _ _ _ _ _ _ _ _ _ _ _ _ _ _ hx hb w => lv_iconst hx hb hd hv w) k
theorem V.bipush {n : Int} (v : Int32) (hd : decode M.2.1 pc = .ok (.bipush n, 2)) (hv : (Int8.ofInt n).toInt32 = v) (k : V M d rc rs (pc + 2) ls (.int v :: st) h Q) : V M d rc rs pc ls st h Q := V.lift (fun _ _ _ _ _ _ _ _ _ _ _ _ _ _ _ _ _ hx hb w => lv_bipush hx hb hd hv w) k
theorem V.sipush {n : Int} (v : Int32) (hd : decode M.2.1 pc = .ok (.sipush n, 3)) (hv : (Int16.ofInt n).toInt32 = v) (k : V M d rc rs (pc + 3) ls (.int v :: st) h Q) : V M d rc rs pc ls st h Q := V.lift (fun _ _ _ _ _ _ _ _ _ _ _ _ _ _ _ _ _ hx hb w => lv_sipush hx hb hd hv w) k
theorem V.iadd {x y : Int32} (hd : decode M.2.1 pc = .ok (.iadd, 1)) (k : V M d rc rs (pc + 1) ls (.int (x + y) :: st) h Q) : V M d rc rs pc ls (.int y :: .int x :: st) h Q := V.lift (fun _ _ _ _ _ _ _ _ _ _ _ _ _ _ _ _ _ hx hb w => lv_iadd hx hb hd w) k
theorem V.isub {x y : Int32} (hd : decode M.2.1 pc = .ok (.isub, 1)) (k : V M d rc rs (pc + 1) ls (.int (x - y) :: st) h Q) : V M d rc rs pc ls (.int y :: .int x :: st) h Q := V.lift (fun _ _ _ _ _ _ _ _ _ _ _ _ _ _ _ _ _ hx hb w => lv_isub hx hb hd w) k
theorem V.imul {x y : Int32} (hd : decode M.2.1 pc = .ok (.imul, 1)) (k : V M d rc rs (pc + 1) ls (.int (x * y) :: st) h Q) : V M d rc rs pc ls (.int y :: .int x :: st) h Q := V.lift (fun _ _ _ _ _ _ _ _ _ _ _ _ _ _ _ _ _ hx hb w => lv_imul hx hb hd w) k
theorem V.iand {x y : Int32} (hd : decode M.2.1 pc = .ok (.iand, 1)) (k : V M d rc rs (pc + 1) ls (.int (x &&& y) :: st) h Q) : V M d rc rs pc ls (.int y :: .int x :: st) h Q := V.lift (fun _ _ _ _ _ _ _ _ _ _ _ _ _ _ _ _ _ hx hb w => lv_iand hx hb hd w) k
theorem V.ior {x y : Int32} (hd : decode M.2.1 pc = .ok (.ior, 1)) (k : V M d rc rs (pc + 1) ls (.int (x ||| y) :: st) h Q) : V M d rc rs pc ls (.int y :: .int x :: st) h Q := V.lift (fun _ _ _ _ _ _ _ _ _ _ _ _ _ _ _ _ _ hx hb w => lv_ior hx hb hd w) k
theorem V.ixor {x y : Int32} (hd : decode M.2.1 pc = .ok (.ixor, 1)) (k : V M d rc rs (pc + 1) ls (.int (x ^^^ y) :: st) h Q) : V M d rc rs pc ls (.int y :: .int x :: st) h Q := V.lift (fun _ _ _ _ _ _ _ _ _ _ _ _ _ _ _ _ _ hx hb w => lv_ixor hx hb hd w) k
theorem V.idiv {x y : Int32} (hd : decode M.2.1 pc = .ok (.idiv, 1)) (hne : ¬ y = 0) (k : V M d rc rs (pc + 1) ls (.int (x / y) :: st) h Q) : V M d rc rs pc ls (.int y :: .int x :: st) h Q := V.lift (fun _ _ _ _ _ _ _ _ _ _ _ _ _ _ _ _ _ hx hb w => lv_idiv hx hb hd hne w) k
theorem V.ineg {x : Int32} (hd : decode M.2.1 pc = .ok (.ineg, 1)) (k : V M d rc rs (pc + 1) ls (.int (-x) :: st) h Q) : V M d rc rs pc ls (.int x :: st) h Q := V.lift (fun _ _ _ _ _ _ _ _ _ _ _ _ _ _ _ _ _ hx hb w => lv_ineg hx hb hd w) k
theorem V.ishl {x y : Int32} (hd : decode M.2.1 pc = .ok (.ishl, 1)) (k : V M d rc rs (pc + 1) ls (.int (x <<< (y &&& 31)) :: st) h Q) : V M d rc rs pc ls (.int y :: .int x :: st) h Q := V.lift (fun _ _ _ _ _ _ _ _ _ _ _ _ _ _ _ _ _ hx hb w => lv_ishl hx hb hd w) k
theorem V.ishr {x y : Int32} (hd : decode M.2.1 pc = .ok (.ishr, 1)) (k : V M d rc rs (pc + 1) ls (.int (x >>> (y &&& 31)) :: st) h Q) : V M d rc rs pc ls (.int y :: .int x :: st) h Q := V.lift (fun _ _ _ _ _ _ _ _ _ _ _ _ _ _ _ _ _ hx hb w => lv_ishr hx hb hd w) k
theorem V.iushr {x y : Int32} (v : Int32) (hd : decode M.2.1 pc = .ok (.iushr, 1)) (hv : (x.toUInt32 >>> (y.toUInt32 &&& Int32.toUInt32 31)).toInt32 = v) (k : V M d rc rs (pc + 1) ls (.int v :: st) h Q) : V M d rc rs pc ls (.int y :: .int x :: st) h Q := V.lift (fun _ _ _ _ _ _ _ _ _ _ _ _ _ _ _ _ _ hx hb w => lv_iushr hx hb hd hv w) k
theorem V.dupr {i : Nat} (hd : decode M.2.1 pc = .ok (.dup, 1)) (k : V M d rc rs (pc + 1) ls (.ref i :: .ref i :: st) h Q) : V M d rc rs pc ls (.ref i :: st) h Q := V.lift (fun _ _ _ _ _ _ _ _ _ _ _ _ _ _ _ _ _ hx hb w => lv_dup hx hb hd rfl w) k
theorem V.dupi {x : Int32} (hd : decode M.2.1 pc = .ok (.dup, 1)) (k : V M d rc rs (pc + 1) ls (.int x :: .int x :: st) h Q) : V M d rc rs pc ls (.int x :: st) h Q := V.lift (fun _ _ _ _ _ _ _ _ _ _ _ _ _ _ _ _ _ hx hb w => lv_dup hx hb hd rfl w) k
theorem V.dup2 {x : Int32} {i : Nat} (hd : decode M.2.1 pc = .ok (.dup2, 1)) (k : V M d rc rs (pc + 1) ls (.int x :: .ref i :: .int x :: .ref i :: st) h Q) : V M d rc rs pc ls (.int x :: .ref i :: st) h Q := V.lift (fun _ _ _ _ _ _ _ _ _ _ _ _ _ _ _ _ _ hx hb w => lv_dup2_11 hx hb hd rfl rfl w) k
theorem V.goto {off : Int} (tgt : Nat) (hd : decode M.2.1 pc = .ok (.goto off, 3)) (ht : (pc : Int) + off = (tgt : Int)) (k : V M d rc rs tgt ls st h Q) : V M d rc rs pc ls st h Q := V.lift (fun _ _ _ _ _ _ _ _ _ _ _ _ _ _ _ _ _ hx hb w => lv_goto hx hb hd ht w) k
theorem V.tabOut {dflt lo hi : Int} {offs : Array Int} {len : Nat} {x : Int32} (tgt : Nat) (hd : decode M.2.1 pc = .ok (.tableswitch dflt lo hi offs, len)) (hh : x.toInt < lo ∨ hi < x.toInt) (ht : (pc : Int) + dflt = (tgt : Int)) (k : V M d rc rs tgt ls st h Q) : V M d rc rs pc ls (.int x :: st) h Q := V.lift (fun _ _ _ _ _ _ _ _ _ _ _ _ _ _ _ _ _ hx hb w => lv_tableOut hx hb hd hh ht w) k
theorem V.tabIn {dflt lo hi : Int} {offs : Array Int} {len : Nat} {x : Int32} {off : Int} (tgt : Nat) (hd : decode M.2.1 pc = .ok (.tableswitch dflt lo hi offs, len)) (h1 : ¬ x.toInt < lo) (h2 : ¬ hi < x.toInt) (ho : offs[(x.toInt - lo).toNat]? = some off) (ht : (pc : Int) + off = (tgt : Int)) (k : V M d rc rs tgt ls st h Q) : V M d rc rs pc ls (.int x :: st) h Q := V.lift (fun _ _ _ _ _ _ _ _ _ _ _ _ _ _ _ _ _ hx hb w => lv_tableIn hx hb hd h1 h2 ho ht w) k
theorem V.br {P : Prop} {pa pb : Nat} {st' : List Value} (hs : ∀ (p : Program) (l : Launch) (e : Env) (R : Room) (s : State) (m : MethodId) (args : Array Value) (below : List Frame) (meth : Method) (c : Code) (H : Heap) (locs : List Loc) (cells slots : Nat) (Qf : State → Prop) (arr : Array Slot) (b : Nat), p.tables.exec = Jvm.exec → c.code = M.2.1 → (P → W p l e R s m args below meth c H locs cells slots Qf (F0 m pa arr (st'.map (cv b)))) → (¬ P → W p l e R s m args below meth c H locs cells slots Qf (F0 m pb arr (st'.map (cv b)))) → W p l e R s m args below meth c H locs cells slots Qf (F0 m pc arr (st.map (cv b))))
    (kt : P → V M d rc rs pa ls st' h Q) (kf : ¬ P → V M d rc rs pb ls st' h Q) : V M d rc rs pc ls st h Q := by
  intro p l e R s m args below meth c b G H locs cells slots arr hC hW hL h1 h2
  exact hs p l e R s m args below meth c H locs cells slots _ arr b hC.1 hC.2.1 (fun q => kt q p l e R s m args below meth c b G H locs cells slots arr hC hW hL h1 h2) (fun q => kf q p l e R s m args below meth c b G H locs cells slots arr hC hW hL h1 h2)
theorem V.if_eq {x : Int32} {off : Int} (tgt : Nat) (hd : decode M.2.1 pc = .ok (.ifCond .eq off, 3)) (ht : (pc : Int) + off = (tgt : Int)) (kt : x = 0 → V M d rc rs tgt ls st h Q) (kf : ¬ (x = 0) → V M d rc rs (pc + 3) ls st h Q) : V M d rc rs pc ls (.int x :: st) h Q := V.br (fun _ _ _ _ _ _ _ _ _ _ _ _ _ _ _ _ _ hx hb a b => lv_if_eq hx hb hd ht a b) kt kf
theorem V.if_ne {x : Int32} {off : Int} (tgt : Nat) (hd : decode M.2.1 pc = .ok (.ifCond .ne off, 3)) (ht : (pc : Int) + off = (tgt : Int)) (kt : ¬ x = 0 → V M d rc rs tgt ls st h Q) (kf : x = 0 → V M d rc rs (pc + 3) ls st h Q) : V M d rc rs pc ls (.int x :: st) h Q := V.br (P := x = 0) (fun _ _ _ _ _ _ _ _ _ _ _ _ _ _ _ _ _ hx hb a b => lv_if_ne hx hb hd ht b a) kf kt
theorem V.if_lt {x : Int32} {off : Int} (tgt : Nat) (hd : decode M.2.1 pc = .ok (.ifCond .lt off, 3)) (ht : (pc : Int) + off = (tgt : Int)) (kt : x < 0 → V M d rc rs tgt ls st h Q) (kf : ¬ (x < 0) → V M d rc rs (pc + 3) ls st h Q) : V M d rc rs pc ls (.int x :: st) h Q := V.br (fun _ _ _ _ _ _ _ _ _ _ _ _ _ _ _ _ _ hx hb a b => lv_if_lt hx hb hd ht a b) kt kf
theorem V.if_ge {x : Int32} {off : Int} (tgt : Nat) (hd : decode M.2.1 pc = .ok (.ifCond .ge off, 3)) (ht : (pc : Int) + off = (tgt : Int)) (kt : 0 ≤ x → V M d rc rs tgt ls st h Q) (kf : ¬ (0 ≤ x) → V M d rc rs (pc + 3) ls st h Q) : V M d rc rs pc ls (.int x :: st) h Q := V.br (fun _ _ _ _ _ _ _ _ _ _ _ _ _ _ _ _ _ hx hb a b => lv_if_ge hx hb hd ht a b) kt kf
theorem V.if_gt {x : Int32} {off : Int} (tgt : Nat) (hd : decode M.2.1 pc = .ok (.ifCond .gt off, 3)) (ht : (pc : Int) + off = (tgt : Int)) (kt : 0 < x → V M d rc rs tgt ls st h Q) (kf : ¬ (0 < x) → V M d rc rs (pc + 3) ls st h Q) : V M d rc rs pc ls (.int x :: st) h Q := V.br (fun _ _ _ _ _ _ _ _ _ _ _ _ _ _ _ _ _ hx hb a b => lv_if_gt hx hb hd ht a b) kt kf
theorem V.if_le {x : Int32} {off : Int} (tgt : Nat) (hd : decode M.2.1 pc = .ok (.ifCond .le off, 3)) (ht : (pc : Int) + off = (tgt : Int)) (kt : x ≤ 0 → V M d rc rs tgt ls st h Q) (kf : ¬ (x ≤ 0) → V M d rc rs (pc + 3) ls st h Q) : V M d rc rs pc ls (.int x :: st) h Q := V.br (fun _ _ _ _ _ _ _ _ _ _ _ _ _ _ _ _ _ hx hb a b => lv_if_le hx hb hd ht a b) kt kf
theorem V.icmp_eq {x y : Int32} {off : Int} (tgt : Nat) (hd : decode M.2.1 pc = .ok (.if_icmp .eq off, 3)) (ht : (pc : Int) + off = (tgt : Int)) (kt : x = y → V M d rc rs tgt ls st h Q) (kf : ¬ (x = y) → V M d rc rs (pc + 3) ls st h Q) : V M d rc rs pc ls (.int y :: .int x :: st) h Q := V.br (fun _ _ _ _ _ _ _ _ _ _ _ _ _ _ _ _ _ hx hb a b => lv_icmp_eq hx hb hd ht a b) kt kf
theorem V.icmp_ne {x y : Int32} {off : Int} (tgt : Nat) (hd : decode M.2.1 pc = .ok (.if_icmp .ne off, 3)) (ht : (pc : Int) + off = (tgt : Int)) (kt : ¬ x = y → V M d rc rs tgt ls st h Q) (kf : x = y → V M d rc rs (pc + 3) ls st h Q) : V M d rc rs pc ls (.int y :: .int x :: st) h Q := V.br (P := x = y) (fun _ _ _ _ _ _ _ _ _ _ _ _ _ _ _ _ _ hx hb a b => lv_icmp_ne hx hb hd ht b a) kf kt
theorem V.icmp_lt {x y : Int32} {off : Int} (tgt : Nat) (hd : decode M.2.1 pc = .ok (.if_icmp .lt off, 3)) (ht : (pc : Int) + off = (tgt : Int)) (kt : x < y → V M d rc rs tgt ls st h Q) (kf : ¬ (x < y) → V M d rc rs (pc + 3) ls st h Q) : V M d rc rs pc ls (.int y :: .int x :: st) h Q := V.br (fun _ _ _ _ _ _ _ _ _ _ _ _ _ _ _ _ _ hx hb a b => lv_icmp_lt hx hb hd ht a b) kt kf
theorem V.icmp_ge {x y : Int32} {off : Int} (tgt : Nat) (hd : decode M.2.1 pc = .ok (.if_icmp .ge off, 3)) (ht : (pc : Int) + off = (tgt : Int)) (kt : y ≤ x → V M d rc rs tgt ls st h Q) (kf : ¬ (y ≤ x) → V M d rc rs (pc + 3) ls st h Q) : V M d rc rs pc ls (.int y :: .int x :: st) h Q := V.br (fun _ _ _ _ _ _ _ _ _ _ _ _ _ _ _ _ _ hx hb a b => lv_icmp_ge hx hb hd ht a b) kt kf
theorem V.icmp_gt {x y : Int32} {off : Int} (tgt : Nat) (hd : decode M.2.1 pc = .ok (.if_icmp .gt off, 3)) (ht : (pc : Int) + off = (tgt : Int)) (kt : y < x → V M d rc rs tgt ls st h Q) (kf : ¬ (y < x) → V M d rc rs (pc + 3) ls st h Q) : V M d rc rs pc ls (.int y :: .int x :: st) h Q := V.br (fun _ _ _ _ _ _ _ _ _ _ _ _ _ _ _ _ _ hx hb a b => lv_icmp_gt hx hb hd ht a b) kt kf
theorem V.icmp_le {x y : Int32} {off : Int} (tgt : Nat) (hd : decode M.2.1 pc = .ok (.if_icmp .le off, 3)) (ht : (pc : Int) + off = (tgt : Int)) (kt : x ≤ y → V M d rc rs tgt ls st h Q) (kf : ¬ (x ≤ y) → V M d rc rs (pc + 3) ls st h Q) : V M d rc rs pc ls (.int y :: .int x :: st) h Q := V.br (fun _ _ _ _ _ _ _ _ _ _ _ _ _ _ _ _ _ hx hb a b => lv_icmp_le hx hb hd ht a b) kt kf
end RULES
