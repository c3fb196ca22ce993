/-! the reference: below, count, may, put, take, tidy, trade -/
theorem bestO_kp {F : Nat → Nat → Int32} {n nd : Nat} {R : Nat → List Nat} {D : Nat → Option Nat} {d : Nat} (hD : DR n nd R D) (hK : KP F n nd R D) (hd : d < nd) (h5 : (R d).length ≤ 5) (hb : ∀ r : List Nat, r.length = (R d).length → (∀ x, x ∈ r → x ∈ R d) → mins F r < 100000) : ∃ r, bestO F n nd R D d = some r := by
  have hX := DX.of hD hd h5
  have hlen := Pl_len hD hd
  have hmem : ∀ x, x ∈ R d → x ∈ Pl n D d := fun x hx => Pl_mem.mpr (hD.2.2.1 x d hd hx)
  have hq : PX (Pl n D d).length ((R d).map (fun x => (Pl n D d).idxOf x)) := by
    refine ⟨nodup_map (hD.2.2.2 d hd) (fun i j hi hj e => ?_), fun i hi => ?_⟩
    · rw [← getD_idxOf (hmem i hi), ← getD_idxOf (hmem j hj), e]
    · obtain ⟨x, hx, rfl⟩ := List.mem_map.mp hi
      exact List.idxOf_lt_length_of_mem (hmem x hx)
  have he : ((R d).map (fun x => (Pl n D d).idxOf x)).map (fun i => (Pl n D d).getD i 0) = R d := by
    rw [List.map_map]
    have : ∀ l : List Nat, (∀ x, x ∈ l → x ∈ Pl n D d) → l.map ((fun i => (Pl n D d).getD i 0) ∘ fun x => (Pl n D d).idxOf x) = l := by
      intro l
      induction l with
      | nil => intro _; rfl
      | cons a l ih =>
        intro h
        rw [List.map_cons, ih (fun x hx => h x (List.mem_cons_of_mem _ hx))]
        show (Pl n D d).getD ((Pl n D d).idxOf a) 0 :: l = a :: l
        rw [getD_idxOf (h a List.mem_cons_self)]
    exact this _ hmem
  have hupd : upR R d (R d) = R := by
    funext a; unfold upR; split
    · rename_i e; rw [e]
    · rfl
  have : (bestO F n nd R D d).isSome = true := by
    refine tr_hit (z := (Pl n D d).length) (step := stM F n nd R D d (fun i => (Pl n D d).getD i 0)) (Pb := fun b => b.isSome = true) (q := (R d).map (fun x => (Pl n D d).idxOf x)) (fun pre b hb => ?_) (fun b => ?_) hq (by rw [List.length_map]; exact hlen.symm) _ (fun _ => false) [] ((R d).map (fun x => (Pl n D d).idxOf x)) none rfl (by rw [List.length_map]; exact hlen.symm) (fun i hi => by simp)
    · unfold stM; split
      · rfl
      · exact hb
    · unfold stM; split
      · rfl
      · rename_i h
        cases b with
        | none =>
          exfalso
          apply h
          rw [he, hupd]
          exact ⟨hb (R d) rfl (fun _ h => h), dB_t hK⟩
        | some q => rfl
  exact Option.isSome_iff_exists.mp this
noncomputable def mayV (F : Nat → Nat → Int32) (n nd : Nat) (R : Nat → List Nat) (D : Nat → Option Nat) (s d : Nat) : Int32 := if (R d).length = 5 then nI 2 else if (putO F n nd R D s d).isSome = true then nI 0 else nI 1
section MODEL
variable {f ro rs : Nat → Nat → Int32} {rw rb : Nat → Nat} {m : Nat → Nat → Int32} {dp : Nat} {F : Nat → Nat → Int32} {n nd : Nat} {R : Nat → List Nat} {D : Nat → Option Nat}
theorem t_below (hM : MS F n nd R D m) : Mt (dp + 1) 0 0 mX7_below [.ref 45] (HH f ro rs rw rb m) (RI (blw F n nd D) (HH f ro rs rw rb m)) := by
  refine Mt.of rfl rfl (Nat.le_of_ble_eq_true rfl) rfl ?_
  obtain ⟨hnd, h13, hF, hp, hR⟩ := hM.1
  have hn20 := hM.2.1.1
  have h1 := hM.2.2.1
  generalize hg : grt F nd = g
  have hv : blw F n nd D = if 0 < g then sm (blwP F n D g) 8 else nI 0 := by rw [blw, hg]
  have loop2 : ∀ (j p : Nat) (o4 o5 o6 : Option Value), 8 - p = j → p ≤ 8 → (0 < g ∨ p = 0) → V mX7_below (dp + 1) 0 0 43 [some (.ref 45), some (.int g), some (.int (sm (blwP F n D g) p)), some (.int (nI p)), o4, o5, o6] [] (HH f ro rs rw rb m) (RI (blw F n nd D) (HH f ro rs rw rb m)) := by
    intro j
    induction j using Nat.strongRecOn with
    | _ j ih =>
      intro p o4 o5 o6 hj hp8 hg0
      have fin : p < 8 → 0 < g → ∀ (o6 : Option Value), V mX7_below (dp + 1) 0 0 145 [some (.ref 45), some (.int g), some (.int (sm (blwP F n D g) p)), some (.int (nI p)), some (.int (bsum F D p n)), some (.int (bI (busd F D p n))), o6] [] (HH f ro rs rw rb m) (RI (blw F n nd D) (HH f ro rs rw rb m)) := by
        intro hp9 hgp o6
        refine V.ildn 2 dX7_below_145 rfl rfl ?_
        refine V.aldn 0 dX7_below_146 rfl rfl ?_
        refine V.gf7_9 dX7_below_147 f_X7_32 ?_
        refine V.ildn 3 dX7_below_150 rfl rfl ?_
        refine V.ald_53 dX7_below_151 (ix_nI (by omega) (by decide)) ?_
        refine V.top (congrFun (hF 9 rfl) _) ?_
        refine V.iload dX7_below_152 rfl ?_
        refine V.ildn 1 dX7_below_154 rfl rfl ?_
        refine V.iadd dX7_below_155 ?_
        refine V.iconst (nI 1) dX7_below_156 (by decide +kernel) ?_
        refine V.isub dX7_below_157 ?_
        refine V.ildn 1 dX7_below_158 rfl rfl ?_
        refine V.idiv dX7_below_159 (fun e => by rw [e] at hgp; exact Int32.lt_irrefl hgp) ?_
        refine V.imul dX7_below_160 ?_
        refine V.iload dX7_below_161 rfl ?_
        first | refine V.if_eqB 175 dX7_below_163 (by decide) (fun c163 => ?_) (fun c163 => ?_) | refine V.if_eqN 175 dX7_below_163 (by decide) (by omega) (fun c163 => ?_) (fun c163 => ?_) | refine V.if_eq 175 dX7_below_163 (by decide) (fun c163 => ?_) (fun c163 => ?_)
        · refine V.iconst (nI 0) dX7_below_175 (by decide +kernel) ?_
          refine V.iadd dX7_below_176 ?_
          refine V.iadd dX7_below_177 ?_
          refine V.top (y := sm (blwP F n D g) (p + 1)) (by show _ = sm (blwP F n D g) p + (F 9 p * ((bsum F D p n + g - nI 1) / g) + (if busd F D p n = true then F 11 p else nI 0)); rw [if_neg (by rw [c163]; decide)]) ?_
          refine V.istn 2 dX7_below_178 rfl (Nat.le_of_ble_eq_true rfl) ?_
          first | refine V.iincN dX7_below_179 rfl ?_ | refine V.iinc dX7_below_179 rfl rfl ?_
          refine V.goto 43 dX7_below_182 (by decide) ?_
          exact ih _ (by omega) (p + 1) _ _ _ rfl (by omega) (Or.inl hgp)
        · refine V.aldn 0 dX7_below_166 rfl rfl ?_
          refine V.gf7_11 dX7_below_167 f_X7_38 ?_
          refine V.ildn 3 dX7_below_170 rfl rfl ?_
          refine V.ald_55 dX7_below_171 (ix_nI (by omega) (by decide)) ?_
          refine V.top (congrFun (hF 11 rfl) _) ?_
          refine V.goto 176 dX7_below_172 (by decide) ?_
          refine V.iadd dX7_below_176 ?_
          refine V.iadd dX7_below_177 ?_
          refine V.top (y := sm (blwP F n D g) (p + 1)) (by show _ = sm (blwP F n D g) p + (F 9 p * ((bsum F D p n + g - nI 1) / g) + (if busd F D p n = true then F 11 p else nI 0)); rw [if_pos c163]) ?_
          refine V.istn 2 dX7_below_178 rfl (Nat.le_of_ble_eq_true rfl) ?_
          first | refine V.iincN dX7_below_179 rfl ?_ | refine V.iinc dX7_below_179 rfl rfl ?_
          refine V.goto 43 dX7_below_182 (by decide) ?_
          exact ih _ (by omega) (p + 1) _ _ _ rfl (by omega) (Or.inl hgp)
      have inner : p < 8 → 0 < g → ∀ (i k : Nat), n - k = i → k ≤ n → V mX7_below (dp + 1) 0 0 62 [some (.ref 45), some (.int g), some (.int (sm (blwP F n D g) p)), some (.int (nI p)), some (.int (bsum F D p k)), some (.int (bI (busd F D p k))), some (.int (nI k))] [] (HH f ro rs rw rb m) (RI (blw F n nd D) (HH f ro rs rw rb m)) := by
        intro hp9 hgp i
        induction i using Nat.strongRecOn with
        | _ i ih2 =>
          intro k hi hk
          have hDk : k < n → m 8 k = dI (D k) := fun h => hM.2.2.2 k h
          have no : k < n → D k = none → V mX7_below (dp + 1) 0 0 139 [some (.ref 45), some (.int g), some (.int (sm (blwP F n D g) p)), some (.int (nI p)), some (.int (bsum F D p k)), some (.int (bI (busd F D p k))), some (.int (nI k))] [] (HH f ro rs rw rb m) (RI (blw F n nd D) (HH f ro rs rw rb m)) := by
            intro hkn hd
            have e1 : bsum F D p k = bsum F D p (k + 1) := by rw [bsum, if_pos hd]
            have e2 : busd F D p k = busd F D p (k + 1) := by rw [busd, if_pos hd]
            rw [e1, e2]
            first | refine V.iincN dX7_below_139 rfl ?_ | refine V.iinc dX7_below_139 rfl rfl ?_
            refine V.goto 62 dX7_below_142 (by decide) ?_
            exact ih2 _ (by omega) (k + 1) rfl (by omega)
          have st2 : k < n → ¬ D k = none → V mX7_below (dp + 1) 0 0 116 [some (.ref 45), some (.int g), some (.int (sm (blwP F n D g) p)), some (.int (nI p)), some (.int (bsum F D p (k + 1))), some (.int (bI (busd F D p k))), some (.int (nI k))] [] (HH f ro rs rw rb m) (RI (blw F n nd D) (HH f ro rs rw rb m)) := by
            intro hkn hd
            have e2 : busd F D p (k + 1) = (busd F D p k || decide (F 3 k = nI p)) := by rw [busd, if_neg hd]
            refine V.iload dX7_below_116 rfl ?_
            first | refine V.if_neB 132 dX7_below_118 (by decide) (fun c118 => ?_) (fun c118 => ?_) | refine V.if_neN 132 dX7_below_118 (by decide) (by omega) (fun c118 => ?_) (fun c118 => ?_) | refine V.if_ne 132 dX7_below_118 (by decide) (fun c118 => ?_) (fun c118 => ?_)
            · refine V.iconst (nI 1) dX7_below_132 (by decide +kernel) ?_
              refine V.top (y := bI (busd F D p (k + 1))) (by rw [e2, c118]; rfl) ?_
              refine V.goto 137 dX7_below_133 (by decide) ?_
              refine V.istore dX7_below_137 (Nat.le_of_ble_eq_true rfl) ?_
              first | refine V.iincN dX7_below_139 rfl ?_ | refine V.iinc dX7_below_139 rfl rfl ?_
              refine V.goto 62 dX7_below_142 (by decide) ?_
              exact ih2 _ (by omega) (k + 1) rfl (by omega)
            · refine V.aldn 0 dX7_below_121 rfl rfl ?_
              refine V.gf7_3 dX7_below_122 f_X7_13 ?_
              refine V.iload dX7_below_125 rfl ?_
              refine V.ald_47 dX7_below_127 (ix_nI (by omega) (by decide)) ?_
              refine V.top (congrFun (hF 3 rfl) _) ?_
              refine V.ildn 3 dX7_below_128 rfl rfl ?_
              refine V.icmp_ne 136 dX7_below_129 (by decide) (fun c129 => ?_) (fun c129 => ?_)
              · refine V.iconst (nI 0) dX7_below_136 (by decide +kernel) ?_
                refine V.top (y := bI (busd F D p (k + 1))) (by rw [e2, c118, decide_eq_false c129]; rfl) ?_
                refine V.istore dX7_below_137 (Nat.le_of_ble_eq_true rfl) ?_
                first | refine V.iincN dX7_below_139 rfl ?_ | refine V.iinc dX7_below_139 rfl rfl ?_
                refine V.goto 62 dX7_below_142 (by decide) ?_
                exact ih2 _ (by omega) (k + 1) rfl (by omega)
              · refine V.iconst (nI 1) dX7_below_132 (by decide +kernel) ?_
                refine V.top (y := bI (busd F D p (k + 1))) (by rw [e2, decide_eq_true c129, Bool.or_true]; rfl) ?_
                refine V.goto 137 dX7_below_133 (by decide) ?_
                refine V.istore dX7_below_137 (Nat.le_of_ble_eq_true rfl) ?_
                first | refine V.iincN dX7_below_139 rfl ?_ | refine V.iinc dX7_below_139 rfl rfl ?_
                refine V.goto 62 dX7_below_142 (by decide) ?_
                exact ih2 _ (by omega) (k + 1) rfl (by omega)
          refine V.iload dX7_below_62 rfl ?_
          refine V.aldn 0 dX7_below_64 rfl rfl ?_
          refine V.gf7_1 dX7_below_65 f_X7_84 ?_
          refine V.top h1 ?_
          first | refine V.icmp_geN 145 dX7_below_68 (by decide) (by omega) (by omega) (fun c68 => ?_) (fun c68 => ?_) | refine V.icmp_ge 145 dX7_below_68 (by decide) (fun c68 => ?_) (fun c68 => ?_)
          · obtain rfl : k = n := by omega
            exact fin hp9 hgp _
          · refine V.aldn 0 dX7_below_71 rfl rfl ?_
            refine V.gf7_8 dX7_below_72 f_X7_29 ?_
            refine V.iload dX7_below_75 rfl ?_
            refine V.ald_52 dX7_below_77 (ix_nI (by omega) (by decide)) ?_
            refine V.top (hDk c68) ?_
            refine V.iconst (-1) dX7_below_78 (by decide +kernel) ?_
            refine V.icmp_ne 85 dX7_below_79 (by decide) (fun c79 => ?_) (fun c79 => ?_)
            · have hd : ¬ D k = none := fun q => c79 (by rw [q]; rfl)
              refine V.iload dX7_below_85 rfl ?_
              refine V.aldn 0 dX7_below_87 rfl rfl ?_
              refine V.gf7_6 dX7_below_88 f_X7_23 ?_
              refine V.iload dX7_below_91 rfl ?_
              refine V.ald_50 dX7_below_93 (ix_nI (by omega) (by decide)) ?_
              refine V.top (congrFun (hF 6 rfl) _) ?_
              refine V.ildn 3 dX7_below_94 rfl rfl ?_
              refine V.ishr dX7_below_95 ?_
              refine V.iconst (nI 1) dX7_below_96 (by decide +kernel) ?_
              refine V.iand dX7_below_97 ?_
              refine V.iconst (nI 1) dX7_below_98 (by decide +kernel) ?_
              refine V.icmp_ne 112 dX7_below_99 (by decide) (fun c99 => ?_) (fun c99 => ?_)
              · refine V.iconst (nI 0) dX7_below_112 (by decide +kernel) ?_
                refine V.iadd dX7_below_113 ?_
                refine V.top (y := bsum F D p (k + 1)) (by rw [bsum, if_neg hd, if_neg (show ¬ btB (F 6 k) p = true from fun q => c99 (of_decide_eq_true q))]) ?_
                refine V.istore dX7_below_114 (Nat.le_of_ble_eq_true rfl) ?_
                exact st2 c68 hd
              · refine V.aldn 0 dX7_below_102 rfl rfl ?_
                refine V.gf7_2 dX7_below_103 f_X7_7 ?_
                refine V.iload dX7_below_106 rfl ?_
                refine V.ald_46 dX7_below_108 (ix_nI (by omega) (by decide)) ?_
                refine V.top (congrFun (hF 2 rfl) _) ?_
                refine V.goto 113 dX7_below_109 (by decide) ?_
                refine V.iadd dX7_below_113 ?_
                refine V.top (y := bsum F D p (k + 1)) (by rw [bsum, if_neg hd, if_pos (show btB (F 6 k) p = true from decide_eq_true c99)]) ?_
                refine V.istore dX7_below_114 (Nat.le_of_ble_eq_true rfl) ?_
                exact st2 c68 hd
            · refine V.goto 139 dX7_below_82 (by decide) ?_
              exact no c68 ((dI_none (fun e he => by have := (hM.2.1.2.1 k e c68 he).1; omega)).mp c79)
      refine V.ildn 3 dX7_below_43 rfl rfl ?_
      refine V.bipush (nI 8) dX7_below_44 (by decide +kernel) ?_
      first | refine V.icmp_geN 185 dX7_below_46 (by decide) (by omega) (by omega) (fun c46 => ?_) (fun c46 => ?_) | refine V.icmp_ge 185 dX7_below_46 (by decide) (fun c46 => ?_) (fun c46 => ?_)
      · refine V.ildn 2 dX7_below_185 rfl rfl ?_
        exact V.ireturn dX7_below_186 rfl (by first | rfl | decide +kernel) (⟨by rw [hv]; obtain rfl : p = 8 := (by omega); rw [if_pos (by rcases hg0 with q | q; exact q; omega)], rfl⟩)
      · refine V.ildn 1 dX7_below_49 rfl rfl ?_
        refine V.if_le 185 dX7_below_50 (by decide) (fun c50 => ?_) (fun c50 => ?_)
        · refine V.ildn 2 dX7_below_185 rfl rfl ?_
          exact V.ireturn dX7_below_186 rfl (by first | rfl | decide +kernel) (⟨by rw [hv, if_neg (Int32.not_lt.mpr c50)]; rcases hg0 with q | q; exact absurd q (Int32.not_lt.mpr c50); rw [q]; rfl, rfl⟩)
        · refine V.iconst (nI 0) dX7_below_53 (by decide +kernel) ?_
          refine V.istore dX7_below_54 (Nat.le_of_ble_eq_true rfl) ?_
          refine V.iconst (nI 0) dX7_below_56 (by decide +kernel) ?_
          refine V.istore dX7_below_57 (Nat.le_of_ble_eq_true rfl) ?_
          refine V.iconst (nI 0) dX7_below_59 (by decide +kernel) ?_
          refine V.istore dX7_below_60 (Nat.le_of_ble_eq_true rfl) ?_
          exact inner c46 (Int32.not_le.mp c50) _ 0 rfl (Nat.zero_le _)
  have loop1 : ∀ (j k : Nat) (o3 o4 o5 o6 : Option Value), nd - k = j → k ≤ nd → V mX7_below (dp + 1) 0 0 4 [some (.ref 45), some (.int (grt F k)), some (.int (nI k)), o3, o4, o5, o6] [] (HH f ro rs rw rb m) (RI (blw F n nd D) (HH f ro rs rw rb m)) := by
    intro j
    induction j using Nat.strongRecOn with
    | _ j ih =>
      intro k o3 o4 o5 o6 hj hk
      refine V.ildn 2 dX7_below_4 rfl rfl ?_
      refine V.aldn 0 dX7_below_5 rfl rfl ?_
      refine V.gf7_13 dX7_below_6 f_X7_91 ?_
      refine V.top h13 ?_
      first | refine V.icmp_geN 39 dX7_below_9 (by decide) (by omega) (by omega) (fun c9 => ?_) (fun c9 => ?_) | refine V.icmp_ge 39 dX7_below_9 (by decide) (fun c9 => ?_) (fun c9 => ?_)
      · obtain rfl : k = nd := by omega
        rw [hg]
        refine V.iconst (nI 0) dX7_below_39 (by decide +kernel) ?_
        refine V.istn 2 dX7_below_40 rfl (Nat.le_of_ble_eq_true rfl) ?_
        refine V.iconst (nI 0) dX7_below_41 (by decide +kernel) ?_
        refine V.istn 3 dX7_below_42 rfl (Nat.le_of_ble_eq_true rfl) ?_
        exact loop2 8 0 _ _ _ (by omega) (by omega) (Or.inr rfl)
      · refine V.aldn 0 dX7_below_12 rfl rfl ?_
        refine V.gf7_14 dX7_below_13 f_X7_44 ?_
        refine V.ildn 2 dX7_below_16 rfl rfl ?_
        refine V.ald_57 dX7_below_17 (ix_nI (by omega) (by decide)) ?_
        refine V.top (congrFun (hF 14 rfl) _) ?_
        refine V.ildn 1 dX7_below_18 rfl rfl ?_
        refine V.icmp_le 31 dX7_below_19 (by decide) (fun c19 => ?_) (fun c19 => ?_)
        · refine V.ildn 1 dX7_below_31 rfl rfl ?_
          refine V.top (y := grt F (k + 1)) (by rw [grt, if_pos c19]) ?_
          skip
          refine V.istn 1 dX7_below_32 rfl (Nat.le_of_ble_eq_true rfl) ?_
          first | refine V.iincN dX7_below_33 rfl ?_ | refine V.iinc dX7_below_33 rfl rfl ?_
          refine V.goto 4 dX7_below_36 (by decide) ?_
          exact ih _ (by omega) (k + 1) _ _ _ _ rfl (by omega)
        · refine V.aldn 0 dX7_below_22 rfl rfl ?_
          refine V.gf7_14 dX7_below_23 f_X7_44 ?_
          refine V.ildn 2 dX7_below_26 rfl rfl ?_
          refine V.ald_57 dX7_below_27 (ix_nI (by omega) (by decide)) ?_
          refine V.top ((congrFun (hF 14 rfl) _).trans (show F 14 k = grt F (k + 1) by rw [grt, if_neg c19])) ?_
          refine V.goto 32 dX7_below_28 (by decide) ?_
          skip
          refine V.istn 1 dX7_below_32 rfl (Nat.le_of_ble_eq_true rfl) ?_
          first | refine V.iincN dX7_below_33 rfl ?_ | refine V.iinc dX7_below_33 rfl rfl ?_
          refine V.goto 4 dX7_below_36 (by decide) ?_
          exact ih _ (by omega) (k + 1) _ _ _ _ rfl (by omega)
  refine V.iconst (nI 0) dX7_below_0 (by decide +kernel) ?_
  refine V.istn 1 dX7_below_1 rfl (Nat.le_of_ble_eq_true rfl) ?_
  refine V.iconst (nI 0) dX7_below_2 (by decide +kernel) ?_
  refine V.istn 2 dX7_below_3 rfl (Nat.le_of_ble_eq_true rfl) ?_
  exact loop1 _ 0 _ _ _ _ rfl (Nat.zero_le _)
theorem t_count (hM : MS F n nd R D m) (w : Int32) : Mt (dp + 1) 0 0 mX7_count [.ref 45, .int w] (HH f ro rs rw rb m) (RI (if isIn w 4 = true then vCount F n nd D w.toNatClampNeg else -1) (HH f ro rs rw rb m)) := by
  refine Mt.of rfl rfl (Nat.le_of_ble_eq_true rfl) rfl ?_
  obtain ⟨hnd, h13, hF, hp, hR⟩ := hM.1
  have hn20 := hM.2.1.1
  have h1 := hM.2.2.1
  generalize hv : (if isIn w 4 = true then vCount F n nd D w.toNatClampNeg else -1) = v
  refine V.iconst (nI 0) dX7_count_0 (by decide +kernel) ?_
  refine V.istn 2 dX7_count_1 rfl (Nat.le_of_ble_eq_true rfl) ?_
  refine V.ildn 1 dX7_count_2 rfl rfl ?_
  by_cases hw : isIn w 4 = true
  · obtain ⟨j, hj, rfl⟩ := (isIn_iff (by decide)).mp hw
    have hcj : (nI j).toNatClampNeg = j := nI_clamp (by omega)
    rw [if_pos hw, hcj] at hv
    rcases (show j = 0 ∨ j = 1 ∨ j = 2 ∨ j = 3 by omega) with rfl | rfl | rfl | rfl
    · refine V.tabIn (off := 29) 32 dX7_count_3 (by decide +kernel) (by decide +kernel) (by decide +kernel) (by decide) ?_
      refine V.aldn 0 dX7_count_32 rfl rfl ?_
      refine V.gf7_1 dX7_count_33 f_X7_84 ?_
      refine V.top (h1.trans hv) ?_
      exact V.ireturn dX7_count_36 rfl (by first | rfl | decide +kernel) (⟨rfl, rfl⟩)
    · refine V.tabIn (off := 34) 37 dX7_count_3 (by decide +kernel) (by decide +kernel) (by decide +kernel) (by decide) ?_
      refine V.aldn 0 dX7_count_37 rfl rfl ?_
      refine V.gf7_13 dX7_count_38 f_X7_91 ?_
      refine V.top (h13.trans hv) ?_
      exact V.ireturn dX7_count_41 rfl (by first | rfl | decide +kernel) (⟨rfl, rfl⟩)
    · refine V.tabIn (off := 39) 42 dX7_count_3 (by decide +kernel) (by decide +kernel) (by decide +kernel) (by decide) ?_
      have hv : nI (cnt (fun s => (D s).isSome) n) = v := hv
      have loop : ∀ (j k : Nat) (o4 : Option Value), n - k = j → k ≤ n → V mX7_count (dp + 1) 0 0 44 [some (.ref 45), some (.int (nI 2)), some (.int (nI (cnt (fun s => (D s).isSome) k))), some (.int (nI k)), o4] [] (HH f ro rs rw rb m) (RI v (HH f ro rs rw rb m)) := by
        intro j
        induction j using Nat.strongRecOn with
        | _ j ih =>
          intro k o4 hj hk
          have hDk : k < n → m 8 k = dI (D k) := fun h => hM.2.2.2 k h
          refine V.ildn 3 dX7_count_44 rfl rfl ?_
          refine V.aldn 0 dX7_count_45 rfl rfl ?_
          refine V.gf7_1 dX7_count_46 f_X7_84 ?_
          refine V.top h1 ?_
          first | refine V.icmp_geN 76 dX7_count_49 (by decide) (by omega) (by omega) (fun c49 => ?_) (fun c49 => ?_) | refine V.icmp_ge 76 dX7_count_49 (by decide) (fun c49 => ?_) (fun c49 => ?_)
          · refine V.ildn 2 dX7_count_76 rfl rfl ?_
            exact V.ireturn dX7_count_77 rfl (by first | rfl | decide +kernel) (⟨by rw [← hv, show k = n by omega], rfl⟩)
          · refine V.ildn 2 dX7_count_52 rfl rfl ?_
            refine V.aldn 0 dX7_count_53 rfl rfl ?_
            refine V.gf7_8 dX7_count_54 f_X7_29 ?_
            refine V.ildn 3 dX7_count_57 rfl rfl ?_
            refine V.ald_52 dX7_count_58 (ix_nI (by omega) (by decide)) ?_
            refine V.top (hDk c49) ?_
            refine V.iconst (-1) dX7_count_59 (by decide +kernel) ?_
            refine V.icmp_ne 67 dX7_count_60 (by decide) (fun c60 => ?_) (fun c60 => ?_)
            · refine V.iconst (nI 1) dX7_count_67 (by decide +kernel) ?_
              first | refine V.iaddN dX7_count_68 ?_ | refine V.iadd dX7_count_68 ?_
              refine V.top (y := nI (cnt (fun s => (D s).isSome) (k + 1))) (by rw [cnt, if_pos (by cases h : D k with | none => exact absurd (by rw [h]; rfl) c60 | some e => rfl)]) ?_
              refine V.istn 2 dX7_count_69 rfl (Nat.le_of_ble_eq_true rfl) ?_
              first | refine V.iincN dX7_count_70 rfl ?_ | refine V.iinc dX7_count_70 rfl rfl ?_
              refine V.goto 44 dX7_count_73 (by decide) ?_
              exact ih _ (by omega) (k + 1) _ rfl (by omega)
            · refine V.iconst (nI 0) dX7_count_63 (by decide +kernel) ?_
              refine V.goto 68 dX7_count_64 (by decide) ?_
              first | refine V.iaddN dX7_count_68 ?_ | refine V.iadd dX7_count_68 ?_
              refine V.top (y := nI (cnt (fun s => (D s).isSome) (k + 1))) (by rw [cnt, if_neg (by rw [(dI_none (fun e he => by have := (hM.2.1.2.1 k e c49 he).1; omega)).mp c60]; decide)]) ?_
              refine V.istn 2 dX7_count_69 rfl (Nat.le_of_ble_eq_true rfl) ?_
              first | refine V.iincN dX7_count_70 rfl ?_ | refine V.iinc dX7_count_70 rfl rfl ?_
              refine V.goto 44 dX7_count_73 (by decide) ?_
              exact ih _ (by omega) (k + 1) _ rfl (by omega)
      refine V.iconst (nI 0) dX7_count_42 (by decide +kernel) ?_
      refine V.istn 3 dX7_count_43 rfl (Nat.le_of_ble_eq_true rfl) ?_
      exact loop _ 0 _ rfl (Nat.zero_le _)
    · refine V.tabIn (off := 75) 78 dX7_count_3 (by decide +kernel) (by decide +kernel) (by decide +kernel) (by decide) ?_
      have hv : nI (cnt (fun a => btB (orN F n) a) n) = v := hv
      have loop2 : ∀ (j k : Nat), n - k = j → k ≤ n → V mX7_count (dp + 1) 0 0 111 [some (.ref 45), some (.int (nI 3)), some (.int (nI (cnt (fun a => btB (orN F n) a) k))), some (.int (orN F n)), some (.int (nI k))] [] (HH f ro rs rw rb m) (RI v (HH f ro rs rw rb m)) := by
        intro j
        induction j using Nat.strongRecOn with
        | _ j ih =>
          intro k hj hk
          have e9 : (orN F n >>> (nI k &&& 31) &&& nI 1) = nI (if btB (orN F n) k = true then 1 else 0) := by
            by_cases h : btB (orN F n) k = true
            · rw [if_pos h]; exact of_decide_eq_true h
            · rw [if_neg h, nI_0]; exact btB_f.mp (by simpa using h)
          refine V.iload dX7_count_111 rfl ?_
          refine V.aldn 0 dX7_count_113 rfl rfl ?_
          refine V.gf7_1 dX7_count_114 f_X7_84 ?_
          refine V.top h1 ?_
          first | refine V.icmp_geN 135 dX7_count_117 (by decide) (by omega) (by omega) (fun c117 => ?_) (fun c117 => ?_) | refine V.icmp_ge 135 dX7_count_117 (by decide) (fun c117 => ?_) (fun c117 => ?_)
          · refine V.ildn 2 dX7_count_135 rfl rfl ?_
            exact V.ireturn dX7_count_136 rfl (by first | rfl | decide +kernel) (⟨by rw [← hv, show k = n by omega], rfl⟩)
          · refine V.ildn 2 dX7_count_120 rfl rfl ?_
            refine V.ildn 3 dX7_count_121 rfl rfl ?_
            refine V.iload dX7_count_122 rfl ?_
            refine V.ishr dX7_count_124 ?_
            refine V.iconst (nI 1) dX7_count_125 (by decide +kernel) ?_
            refine V.iand dX7_count_126 ?_
            refine V.top e9 ?_
            first | refine V.iaddN dX7_count_127 ?_ | refine V.iadd dX7_count_127 ?_
            refine V.istn 2 dX7_count_128 rfl (Nat.le_of_ble_eq_true rfl) ?_
            first | refine V.iincN dX7_count_129 rfl ?_ | refine V.iinc dX7_count_129 rfl rfl ?_
            refine V.goto 111 dX7_count_132 (by decide) ?_
            exact ih _ (by omega) (k + 1) rfl (by omega)
      have loop1 : ∀ (j k : Nat), n - k = j → k ≤ n → V mX7_count (dp + 1) 0 0 83 [some (.ref 45), some (.int (nI 3)), some (.int (nI 0)), some (.int (orN F k)), some (.int (nI k))] [] (HH f ro rs rw rb m) (RI v (HH f ro rs rw rb m)) := by
        intro j
        induction j using Nat.strongRecOn with
        | _ j ih =>
          intro k hj hk
          refine V.iload dX7_count_83 rfl ?_
          refine V.aldn 0 dX7_count_85 rfl rfl ?_
          refine V.gf7_1 dX7_count_86 f_X7_84 ?_
          refine V.top h1 ?_
          first | refine V.icmp_geN 108 dX7_count_89 (by decide) (by omega) (by omega) (fun c89 => ?_) (fun c89 => ?_) | refine V.icmp_ge 108 dX7_count_89 (by decide) (fun c89 => ?_) (fun c89 => ?_)
          · obtain rfl : k = n := by omega
            refine V.iconst (nI 0) dX7_count_108 (by decide +kernel) ?_
            refine V.istore dX7_count_109 (Nat.le_of_ble_eq_true rfl) ?_
            exact loop2 _ 0 rfl (Nat.zero_le _)
          · refine V.ildn 3 dX7_count_92 rfl rfl ?_
            refine V.aldn 0 dX7_count_93 rfl rfl ?_
            refine V.gf7_7 dX7_count_94 f_X7_26 ?_
            refine V.iload dX7_count_97 rfl ?_
            refine V.ald_51 dX7_count_99 (ix_nI (by omega) (by decide)) ?_
            refine V.top (congrFun (hF 7 rfl) _) ?_
            refine V.ior dX7_count_100 ?_
            refine V.istn 3 dX7_count_101 rfl (Nat.le_of_ble_eq_true rfl) ?_
            first | refine V.iincN dX7_count_102 rfl ?_ | refine V.iinc dX7_count_102 rfl rfl ?_
            refine V.goto 83 dX7_count_105 (by decide) ?_
            exact ih _ (by omega) (k + 1) rfl (by omega)
      refine V.iconst (nI 0) dX7_count_78 (by decide +kernel) ?_
      refine V.istn 3 dX7_count_79 rfl (Nat.le_of_ble_eq_true rfl) ?_
      refine V.iconst (nI 0) dX7_count_80 (by decide +kernel) ?_
      refine V.istore dX7_count_81 (Nat.le_of_ble_eq_true rfl) ?_
      exact loop1 _ 0 rfl (Nat.zero_le _)
  · rw [if_neg hw] at hv
    refine V.tabOut 137 dX7_count_3 (tabOut_of (k := 4) (by decide) (by simpa using hw)) (by decide) ?_
    refine V.iconst (-1) dX7_count_137 (by decide +kernel) ?_
    refine V.top hv ?_
    exact V.ireturn dX7_count_138 rfl (by first | rfl | decide +kernel) (⟨rfl, rfl⟩)
end MODEL
