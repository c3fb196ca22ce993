/-! THE PICTURE: the heap of the law, as a list of 69 cells: the class (0 to 44), the reference (45 to 68) -/
def upN (g : Nat → Nat) (i v : Nat) : Nat → Nat := fun a => if a = i then v else g a
theorem upN_same (g : Nat → Nat) (i v : Nat) : upN g i v i = v := if_pos rfl
theorem upN_ne {g : Nat → Nat} {i v a : Nat} (h : a ≠ i) : upN g i v a = g a := if_neg h
theorem upN_row (g : Nat → Nat) (j k : Nat) : va_up (fun j => some (16 + 2 * g j)) j (some (16 + 2 * k)) = fun q => some (16 + 2 * upN g j k q) := by
  funext q
  by_cases h : q = j
  · simp [va_up, upN, h]
  · simp [va_up, upN, h]
theorem bool_fit {v : Int32} (h : v = 0 ∨ v = 1) : narrow .boolean (.int v) = .int v ∧ fits .boolean (.int v) = true := by
  rcases h with rfl | rfl <;> exact ⟨by decide +kernel, by decide +kernel⟩
def up2 (g : Nat → Nat → Int32) (i j : Nat) (v : Int32) : Nat → Nat → Int32 := fun a => if a = i then upd (g i) j v else g a
theorem up2_same (g : Nat → Nat → Int32) (i j : Nat) (v : Int32) : up2 g i j v i = upd (g i) j v := if_pos rfl
theorem up2_ne {g : Nat → Nat → Int32} {i j a : Nat} {v : Int32} (h : a ≠ i) : up2 g i j v a = g a := if_neg h
theorem upd_same (f : Nat → Int32) (k : Nat) (v : Int32) : upd f k v k = v := if_pos rfl
theorem upd_ne {f : Nat → Int32} {k j : Nat} {v : Int32} (h : j ≠ k) : upd f k v j = f j := if_neg h
def HH (f ro rs : Nat → Nat → Int32) (rw rb : Nat → Nat) (m : Nat → Nat → Int32) : List AC := [
  .inl (6, [.ref 1, .ref 12, .ref 36, .ref 37]),
  .inl (2, [.ref 2, .ref 3, .ref 4, .ref 5, .ref 6, .ref 7, .ref 8, .ref 9, .ref 10, .ref 11, .int (f 1 10)]),
  .inr (0, 20, .inl (f 2)),
  .inr (0, 20, .inl (f 3)),
  .inr (0, 20, .inl (f 4)),
  .inr (0, 20, .inl (f 5)),
  .inr (0, 20, .inl (f 6)),
  .inr (0, 20, .inl (f 7)),
  .inr (0, 8, .inl (f 8)),
  .inr (0, 8, .inl (f 9)),
  .inr (0, 8, .inl (f 10)),
  .inr (0, 8, .inl (f 11)),
  .inl (3, [.ref 1, .ref 13, .ref 14, .ref 15, .int (f 12 4)]),
  .inr (2, 10, .inr (fun j => some (16 + 2 * rw j))),
  .inr (0, 8, .inl (f 14)),
  .inr (0, 8, .inl (f 15)),
  .inl (5, [.ref 17, .int (ro 0 1), .int (ro 0 2), .int (ro 0 3), .int (ro 0 4), .int (ro 0 5), .int (ro 0 6), .int (ro 0 7), .int (ro 0 8), .int (ro 0 9)]),
  .inr (0, 5, .inl (rs 0)),
  .inl (5, [.ref 19, .int (ro 1 1), .int (ro 1 2), .int (ro 1 3), .int (ro 1 4), .int (ro 1 5), .int (ro 1 6), .int (ro 1 7), .int (ro 1 8), .int (ro 1 9)]),
  .inr (0, 5, .inl (rs 1)),
  .inl (5, [.ref 21, .int (ro 2 1), .int (ro 2 2), .int (ro 2 3), .int (ro 2 4), .int (ro 2 5), .int (ro 2 6), .int (ro 2 7), .int (ro 2 8), .int (ro 2 9)]),
  .inr (0, 5, .inl (rs 2)),
  .inl (5, [.ref 23, .int (ro 3 1), .int (ro 3 2), .int (ro 3 3), .int (ro 3 4), .int (ro 3 5), .int (ro 3 6), .int (ro 3 7), .int (ro 3 8), .int (ro 3 9)]),
  .inr (0, 5, .inl (rs 3)),
  .inl (5, [.ref 25, .int (ro 4 1), .int (ro 4 2), .int (ro 4 3), .int (ro 4 4), .int (ro 4 5), .int (ro 4 6), .int (ro 4 7), .int (ro 4 8), .int (ro 4 9)]),
  .inr (0, 5, .inl (rs 4)),
  .inl (5, [.ref 27, .int (ro 5 1), .int (ro 5 2), .int (ro 5 3), .int (ro 5 4), .int (ro 5 5), .int (ro 5 6), .int (ro 5 7), .int (ro 5 8), .int (ro 5 9)]),
  .inr (0, 5, .inl (rs 5)),
  .inl (5, [.ref 29, .int (ro 6 1), .int (ro 6 2), .int (ro 6 3), .int (ro 6 4), .int (ro 6 5), .int (ro 6 6), .int (ro 6 7), .int (ro 6 8), .int (ro 6 9)]),
  .inr (0, 5, .inl (rs 6)),
  .inl (5, [.ref 31, .int (ro 7 1), .int (ro 7 2), .int (ro 7 3), .int (ro 7 4), .int (ro 7 5), .int (ro 7 6), .int (ro 7 7), .int (ro 7 8), .int (ro 7 9)]),
  .inr (0, 5, .inl (rs 7)),
  .inl (5, [.ref 33, .int (ro 8 1), .int (ro 8 2), .int (ro 8 3), .int (ro 8 4), .int (ro 8 5), .int (ro 8 6), .int (ro 8 7), .int (ro 8 8), .int (ro 8 9)]),
  .inr (0, 5, .inl (rs 8)),
  .inl (5, [.ref 35, .int (ro 9 1), .int (ro 9 2), .int (ro 9 3), .int (ro 9 4), .int (ro 9 5), .int (ro 9 6), .int (ro 9 7), .int (ro 9 8), .int (ro 9 9)]),
  .inr (0, 5, .inl (rs 9)),
  .inl (1, [.ref 1, .ref 12]),
  .inl (4, [.ref 1, .ref 12, .ref 36, .ref 41, .ref 38, .ref 39, .ref 40]),
  .inr (2, 8, .inr (fun j => some (16 + 2 * rb j))),
  .inr (0, 8, .inl (f 39)),
  .inr (0, 8, .inl (f 40)),
  .inl (0, [.ref 1, .ref 42, .ref 43, .ref 44, .int (f 41 4), .int (f 41 5), .int (f 41 6)]),
  .inr (0, 5, .inl (f 42)),
  .inr (0, 5, .inl (f 43)),
  .inr (0, 5, .inl (f 44)),
  .inl (7, [.int (m 0 0), .int (m 1 0), .ref 46, .ref 47, .ref 48, .ref 49, .ref 50, .ref 51, .ref 52, .ref 53, .ref 54, .ref 55, .ref 56, .int (m 13 0), .ref 57, .ref 58, .ref 59, .ref 60, .ref 61, .ref 62, .int (m 20 0), .ref 63, .ref 64, .ref 65, .ref 66, .ref 67, .ref 68, .int (m 27 0)]),
  .inr (0, 20, .inl (m 2)),
  .inr (0, 20, .inl (m 3)),
  .inr (0, 20, .inl (m 4)),
  .inr (1, 20, .inl (m 5)),
  .inr (0, 20, .inl (m 6)),
  .inr (0, 20, .inl (m 7)),
  .inr (0, 20, .inl (m 8)),
  .inr (0, 8, .inl (m 9)),
  .inr (0, 8, .inl (m 10)),
  .inr (0, 8, .inl (m 11)),
  .inr (0, 8, .inl (m 12)),
  .inr (0, 8, .inl (m 14)),
  .inr (0, 8, .inl (m 15)),
  .inr (0, 8, .inl (m 16)),
  .inr (0, 40, .inl (m 17)),
  .inr (0, 6, .inl (m 18)),
  .inr (0, 5, .inl (m 19)),
  .inr (0, 5, .inl (m 21)),
  .inr (0, 40, .inl (m 22)),
  .inr (0, 8, .inl (m 23)),
  .inr (0, 20, .inl (m 24)),
  .inr (0, 6, .inl (m 25)),
  .inr (0, 6, .inl (m 26))]
theorem HH_row {f ro rs : Nat → Nat → Int32} {rw rb : Nat → Nat} {m : Nat → Nat → Int32} : ∀ {k : Nat}, k < 10 → (HH f ro rs rw rb m)[16 + 2 * k]? = some (.inl (5, [.ref (17 + 2 * k), .int (ro k 1), .int (ro k 2), .int (ro k 3), .int (ro k 4), .int (ro k 5), .int (ro k 6), .int (ro k 7), .int (ro k 8), .int (ro k 9)]))
  | 0, _ => rfl
  | 1, _ => rfl
  | 2, _ => rfl
  | 3, _ => rfl
  | 4, _ => rfl
  | 5, _ => rfl
  | 6, _ => rfl
  | 7, _ => rfl
  | 8, _ => rfl
  | 9, _ => rfl
  | k + 10, h => absurd h (by omega)
theorem HH_rs {f ro rs : Nat → Nat → Int32} {rw rb : Nat → Nat} {m : Nat → Nat → Int32} : ∀ {k : Nat}, k < 10 → (HH f ro rs rw rb m)[17 + 2 * k]? = some (.inr (0, 5, .inl (rs k)))
  | 0, _ => rfl
  | 1, _ => rfl
  | 2, _ => rfl
  | 3, _ => rfl
  | 4, _ => rfl
  | 5, _ => rfl
  | 6, _ => rfl
  | 7, _ => rfl
  | 8, _ => rfl
  | 9, _ => rfl
  | k + 10, h => absurd h (by omega)
theorem HH_rs_set {f ro rs : Nat → Nat → Int32} {rw rb : Nat → Nat} {m : Nat → Nat → Int32} {j : Nat} {v : Int32} : ∀ {k : Nat}, k < 10 → (HH f ro rs rw rb m).set (17 + 2 * k) (.inr (0, 5, .inl (upd (rs k) j v))) = HH f ro (up2 rs k j v) rw rb m
  | 0, _ => rfl
  | 1, _ => rfl
  | 2, _ => rfl
  | 3, _ => rfl
  | 4, _ => rfl
  | 5, _ => rfl
  | 6, _ => rfl
  | 7, _ => rfl
  | 8, _ => rfl
  | 9, _ => rfl
  | k + 10, h => absurd h (by omega)
theorem HH_row_set1 {f ro rs : Nat → Nat → Int32} {rw rb : Nat → Nat} {m : Nat → Nat → Int32} {v : Int32} : ∀ {k : Nat}, k < 10 → (HH f ro rs rw rb m).set (16 + 2 * k) (.inl (5, [.ref (17 + 2 * k), .int v, .int (ro k 2), .int (ro k 3), .int (ro k 4), .int (ro k 5), .int (ro k 6), .int (ro k 7), .int (ro k 8), .int (ro k 9)])) = HH f (up2 ro k 1 v) rs rw rb m
  | 0, _ => rfl
  | 1, _ => rfl
  | 2, _ => rfl
  | 3, _ => rfl
  | 4, _ => rfl
  | 5, _ => rfl
  | 6, _ => rfl
  | 7, _ => rfl
  | 8, _ => rfl
  | 9, _ => rfl
  | k + 10, h => absurd h (by omega)
theorem HH_row_set2 {f ro rs : Nat → Nat → Int32} {rw rb : Nat → Nat} {m : Nat → Nat → Int32} {v : Int32} : ∀ {k : Nat}, k < 10 → (HH f ro rs rw rb m).set (16 + 2 * k) (.inl (5, [.ref (17 + 2 * k), .int (ro k 1), .int v, .int (ro k 3), .int (ro k 4), .int (ro k 5), .int (ro k 6), .int (ro k 7), .int (ro k 8), .int (ro k 9)])) = HH f (up2 ro k 2 v) rs rw rb m
  | 0, _ => rfl
  | 1, _ => rfl
  | 2, _ => rfl
  | 3, _ => rfl
  | 4, _ => rfl
  | 5, _ => rfl
  | 6, _ => rfl
  | 7, _ => rfl
  | 8, _ => rfl
  | 9, _ => rfl
  | k + 10, h => absurd h (by omega)
theorem HH_row_set3 {f ro rs : Nat → Nat → Int32} {rw rb : Nat → Nat} {m : Nat → Nat → Int32} {v : Int32} : ∀ {k : Nat}, k < 10 → (HH f ro rs rw rb m).set (16 + 2 * k) (.inl (5, [.ref (17 + 2 * k), .int (ro k 1), .int (ro k 2), .int v, .int (ro k 4), .int (ro k 5), .int (ro k 6), .int (ro k 7), .int (ro k 8), .int (ro k 9)])) = HH f (up2 ro k 3 v) rs rw rb m
  | 0, _ => rfl
  | 1, _ => rfl
  | 2, _ => rfl
  | 3, _ => rfl
  | 4, _ => rfl
  | 5, _ => rfl
  | 6, _ => rfl
  | 7, _ => rfl
  | 8, _ => rfl
  | 9, _ => rfl
  | k + 10, h => absurd h (by omega)
theorem HH_row_set4 {f ro rs : Nat → Nat → Int32} {rw rb : Nat → Nat} {m : Nat → Nat → Int32} {v : Int32} : ∀ {k : Nat}, k < 10 → (HH f ro rs rw rb m).set (16 + 2 * k) (.inl (5, [.ref (17 + 2 * k), .int (ro k 1), .int (ro k 2), .int (ro k 3), .int v, .int (ro k 5), .int (ro k 6), .int (ro k 7), .int (ro k 8), .int (ro k 9)])) = HH f (up2 ro k 4 v) rs rw rb m
  | 0, _ => rfl
  | 1, _ => rfl
  | 2, _ => rfl
  | 3, _ => rfl
  | 4, _ => rfl
  | 5, _ => rfl
  | 6, _ => rfl
  | 7, _ => rfl
  | 8, _ => rfl
  | 9, _ => rfl
  | k + 10, h => absurd h (by omega)
theorem HH_row_set5 {f ro rs : Nat → Nat → Int32} {rw rb : Nat → Nat} {m : Nat → Nat → Int32} {v : Int32} : ∀ {k : Nat}, k < 10 → (HH f ro rs rw rb m).set (16 + 2 * k) (.inl (5, [.ref (17 + 2 * k), .int (ro k 1), .int (ro k 2), .int (ro k 3), .int (ro k 4), .int v, .int (ro k 6), .int (ro k 7), .int (ro k 8), .int (ro k 9)])) = HH f (up2 ro k 5 v) rs rw rb m
  | 0, _ => rfl
  | 1, _ => rfl
  | 2, _ => rfl
  | 3, _ => rfl
  | 4, _ => rfl
  | 5, _ => rfl
  | 6, _ => rfl
  | 7, _ => rfl
  | 8, _ => rfl
  | 9, _ => rfl
  | k + 10, h => absurd h (by omega)
theorem HH_row_set6 {f ro rs : Nat → Nat → Int32} {rw rb : Nat → Nat} {m : Nat → Nat → Int32} {v : Int32} : ∀ {k : Nat}, k < 10 → (HH f ro rs rw rb m).set (16 + 2 * k) (.inl (5, [.ref (17 + 2 * k), .int (ro k 1), .int (ro k 2), .int (ro k 3), .int (ro k 4), .int (ro k 5), .int v, .int (ro k 7), .int (ro k 8), .int (ro k 9)])) = HH f (up2 ro k 6 v) rs rw rb m
  | 0, _ => rfl
  | 1, _ => rfl
  | 2, _ => rfl
  | 3, _ => rfl
  | 4, _ => rfl
  | 5, _ => rfl
  | 6, _ => rfl
  | 7, _ => rfl
  | 8, _ => rfl
  | 9, _ => rfl
  | k + 10, h => absurd h (by omega)
theorem HH_row_set7 {f ro rs : Nat → Nat → Int32} {rw rb : Nat → Nat} {m : Nat → Nat → Int32} {v : Int32} : ∀ {k : Nat}, k < 10 → (HH f ro rs rw rb m).set (16 + 2 * k) (.inl (5, [.ref (17 + 2 * k), .int (ro k 1), .int (ro k 2), .int (ro k 3), .int (ro k 4), .int (ro k 5), .int (ro k 6), .int v, .int (ro k 8), .int (ro k 9)])) = HH f (up2 ro k 7 v) rs rw rb m
  | 0, _ => rfl
  | 1, _ => rfl
  | 2, _ => rfl
  | 3, _ => rfl
  | 4, _ => rfl
  | 5, _ => rfl
  | 6, _ => rfl
  | 7, _ => rfl
  | 8, _ => rfl
  | 9, _ => rfl
  | k + 10, h => absurd h (by omega)
theorem HH_row_set8 {f ro rs : Nat → Nat → Int32} {rw rb : Nat → Nat} {m : Nat → Nat → Int32} {v : Int32} : ∀ {k : Nat}, k < 10 → (HH f ro rs rw rb m).set (16 + 2 * k) (.inl (5, [.ref (17 + 2 * k), .int (ro k 1), .int (ro k 2), .int (ro k 3), .int (ro k 4), .int (ro k 5), .int (ro k 6), .int (ro k 7), .int v, .int (ro k 9)])) = HH f (up2 ro k 8 v) rs rw rb m
  | 0, _ => rfl
  | 1, _ => rfl
  | 2, _ => rfl
  | 3, _ => rfl
  | 4, _ => rfl
  | 5, _ => rfl
  | 6, _ => rfl
  | 7, _ => rfl
  | 8, _ => rfl
  | 9, _ => rfl
  | k + 10, h => absurd h (by omega)
theorem HH_row_set9 {f ro rs : Nat → Nat → Int32} {rw rb : Nat → Nat} {m : Nat → Nat → Int32} {v : Int32} : ∀ {k : Nat}, k < 10 → (HH f ro rs rw rb m).set (16 + 2 * k) (.inl (5, [.ref (17 + 2 * k), .int (ro k 1), .int (ro k 2), .int (ro k 3), .int (ro k 4), .int (ro k 5), .int (ro k 6), .int (ro k 7), .int (ro k 8), .int v])) = HH f (up2 ro k 9 v) rs rw rb m
  | 0, _ => rfl
  | 1, _ => rfl
  | 2, _ => rfl
  | 3, _ => rfl
  | 4, _ => rfl
  | 5, _ => rfl
  | 6, _ => rfl
  | 7, _ => rfl
  | 8, _ => rfl
  | 9, _ => rfl
  | k + 10, h => absurd h (by omega)
section PICT
variable {M : MD} {d rc rs0 pc : Nat} {ls : List (Option Value)} {st : List Value} {Q : Option Value → List AC → Prop} {f ro rs : Nat → Nat → Int32} {rw rb : Nat → Nat} {m : Nat → Nat → Int32}
theorem V.gf0_0 {idx : Nat} (hd : decode M.2.1 pc = .ok (.getfield idx, 3)) (hf : FL M.2.2.2.2 idx 0 0) (kk : V M d rc rs0 (pc + 3) ls (.ref 1 :: st) (HH f ro rs rw rb m) Q) : V M d rc rs0 pc ls (.ref 41 :: st) (HH f ro rs rw rb m) Q := V.getf hd hf rfl rfl kk
theorem V.gf0_1 {idx : Nat} (hd : decode M.2.1 pc = .ok (.getfield idx, 3)) (hf : FL M.2.2.2.2 idx 0 1) (kk : V M d rc rs0 (pc + 3) ls (.ref 42 :: st) (HH f ro rs rw rb m) Q) : V M d rc rs0 pc ls (.ref 41 :: st) (HH f ro rs rw rb m) Q := V.getf hd hf rfl rfl kk
theorem V.gf0_2 {idx : Nat} (hd : decode M.2.1 pc = .ok (.getfield idx, 3)) (hf : FL M.2.2.2.2 idx 0 2) (kk : V M d rc rs0 (pc + 3) ls (.ref 43 :: st) (HH f ro rs rw rb m) Q) : V M d rc rs0 pc ls (.ref 41 :: st) (HH f ro rs rw rb m) Q := V.getf hd hf rfl rfl kk
theorem V.gf0_3 {idx : Nat} (hd : decode M.2.1 pc = .ok (.getfield idx, 3)) (hf : FL M.2.2.2.2 idx 0 3) (kk : V M d rc rs0 (pc + 3) ls (.ref 44 :: st) (HH f ro rs rw rb m) Q) : V M d rc rs0 pc ls (.ref 41 :: st) (HH f ro rs rw rb m) Q := V.getf hd hf rfl rfl kk
theorem V.gf0_4 {idx : Nat} (hd : decode M.2.1 pc = .ok (.getfield idx, 3)) (hf : FL M.2.2.2.2 idx 0 4) (kk : V M d rc rs0 (pc + 3) ls (.int (f 41 4) :: st) (HH f ro rs rw rb m) Q) : V M d rc rs0 pc ls (.ref 41 :: st) (HH f ro rs rw rb m) Q := V.getf hd hf rfl rfl kk
theorem V.pf0_4 {idx : Nat} {v : Int32} (hd : decode M.2.1 pc = .ok (.putfield idx, 3)) (hf : FP M idx 0 4 .int) (kk : V M d rc rs0 (pc + 3) ls st (HH (up2 f 41 4 v) ro rs rw rb m) Q) : V M d rc rs0 pc ls (.int v :: .ref 41 :: st) (HH f ro rs rw rb m) Q := V.putf hd hf rfl (Nat.le_of_ble_eq_true rfl) (fun _ => ⟨rfl, rfl⟩) kk
theorem V.gf0_5 {idx : Nat} (hd : decode M.2.1 pc = .ok (.getfield idx, 3)) (hf : FL M.2.2.2.2 idx 0 5) (kk : V M d rc rs0 (pc + 3) ls (.int (f 41 5) :: st) (HH f ro rs rw rb m) Q) : V M d rc rs0 pc ls (.ref 41 :: st) (HH f ro rs rw rb m) Q := V.getf hd hf rfl rfl kk
theorem V.pf0_5 {idx : Nat} {v : Int32} (hd : decode M.2.1 pc = .ok (.putfield idx, 3)) (hf : FP M idx 0 5 .int) (kk : V M d rc rs0 (pc + 3) ls st (HH (up2 f 41 5 v) ro rs rw rb m) Q) : V M d rc rs0 pc ls (.int v :: .ref 41 :: st) (HH f ro rs rw rb m) Q := V.putf hd hf rfl (Nat.le_of_ble_eq_true rfl) (fun _ => ⟨rfl, rfl⟩) kk
theorem V.gf0_6 {idx : Nat} (hd : decode M.2.1 pc = .ok (.getfield idx, 3)) (hf : FL M.2.2.2.2 idx 0 6) (kk : V M d rc rs0 (pc + 3) ls (.int (f 41 6) :: st) (HH f ro rs rw rb m) Q) : V M d rc rs0 pc ls (.ref 41 :: st) (HH f ro rs rw rb m) Q := V.getf hd hf rfl rfl kk
theorem V.pf0_6 {idx : Nat} {v : Int32} (hd : decode M.2.1 pc = .ok (.putfield idx, 3)) (hf : FP M idx 0 6 .int) (kk : V M d rc rs0 (pc + 3) ls st (HH (up2 f 41 6 v) ro rs rw rb m) Q) : V M d rc rs0 pc ls (.int v :: .ref 41 :: st) (HH f ro rs rw rb m) Q := V.putf hd hf rfl (Nat.le_of_ble_eq_true rfl) (fun _ => ⟨rfl, rfl⟩) kk
theorem V.gf1_0 {idx : Nat} (hd : decode M.2.1 pc = .ok (.getfield idx, 3)) (hf : FL M.2.2.2.2 idx 1 0) (kk : V M d rc rs0 (pc + 3) ls (.ref 1 :: st) (HH f ro rs rw rb m) Q) : V M d rc rs0 pc ls (.ref 36 :: st) (HH f ro rs rw rb m) Q := V.getf hd hf rfl rfl kk
theorem V.gf1_1 {idx : Nat} (hd : decode M.2.1 pc = .ok (.getfield idx, 3)) (hf : FL M.2.2.2.2 idx 1 1) (kk : V M d rc rs0 (pc + 3) ls (.ref 12 :: st) (HH f ro rs rw rb m) Q) : V M d rc rs0 pc ls (.ref 36 :: st) (HH f ro rs rw rb m) Q := V.getf hd hf rfl rfl kk
theorem V.gf2_0 {idx : Nat} (hd : decode M.2.1 pc = .ok (.getfield idx, 3)) (hf : FL M.2.2.2.2 idx 2 0) (kk : V M d rc rs0 (pc + 3) ls (.ref 2 :: st) (HH f ro rs rw rb m) Q) : V M d rc rs0 pc ls (.ref 1 :: st) (HH f ro rs rw rb m) Q := V.getf hd hf rfl rfl kk
theorem V.gf2_1 {idx : Nat} (hd : decode M.2.1 pc = .ok (.getfield idx, 3)) (hf : FL M.2.2.2.2 idx 2 1) (kk : V M d rc rs0 (pc + 3) ls (.ref 3 :: st) (HH f ro rs rw rb m) Q) : V M d rc rs0 pc ls (.ref 1 :: st) (HH f ro rs rw rb m) Q := V.getf hd hf rfl rfl kk
theorem V.gf2_2 {idx : Nat} (hd : decode M.2.1 pc = .ok (.getfield idx, 3)) (hf : FL M.2.2.2.2 idx 2 2) (kk : V M d rc rs0 (pc + 3) ls (.ref 4 :: st) (HH f ro rs rw rb m) Q) : V M d rc rs0 pc ls (.ref 1 :: st) (HH f ro rs rw rb m) Q := V.getf hd hf rfl rfl kk
theorem V.gf2_3 {idx : Nat} (hd : decode M.2.1 pc = .ok (.getfield idx, 3)) (hf : FL M.2.2.2.2 idx 2 3) (kk : V M d rc rs0 (pc + 3) ls (.ref 5 :: st) (HH f ro rs rw rb m) Q) : V M d rc rs0 pc ls (.ref 1 :: st) (HH f ro rs rw rb m) Q := V.getf hd hf rfl rfl kk
theorem V.gf2_4 {idx : Nat} (hd : decode M.2.1 pc = .ok (.getfield idx, 3)) (hf : FL M.2.2.2.2 idx 2 4) (kk : V M d rc rs0 (pc + 3) ls (.ref 6 :: st) (HH f ro rs rw rb m) Q) : V M d rc rs0 pc ls (.ref 1 :: st) (HH f ro rs rw rb m) Q := V.getf hd hf rfl rfl kk
theorem V.gf2_5 {idx : Nat} (hd : decode M.2.1 pc = .ok (.getfield idx, 3)) (hf : FL M.2.2.2.2 idx 2 5) (kk : V M d rc rs0 (pc + 3) ls (.ref 7 :: st) (HH f ro rs rw rb m) Q) : V M d rc rs0 pc ls (.ref 1 :: st) (HH f ro rs rw rb m) Q := V.getf hd hf rfl rfl kk
theorem V.gf2_6 {idx : Nat} (hd : decode M.2.1 pc = .ok (.getfield idx, 3)) (hf : FL M.2.2.2.2 idx 2 6) (kk : V M d rc rs0 (pc + 3) ls (.ref 8 :: st) (HH f ro rs rw rb m) Q) : V M d rc rs0 pc ls (.ref 1 :: st) (HH f ro rs rw rb m) Q := V.getf hd hf rfl rfl kk
theorem V.gf2_7 {idx : Nat} (hd : decode M.2.1 pc = .ok (.getfield idx, 3)) (hf : FL M.2.2.2.2 idx 2 7) (kk : V M d rc rs0 (pc + 3) ls (.ref 9 :: st) (HH f ro rs rw rb m) Q) : V M d rc rs0 pc ls (.ref 1 :: st) (HH f ro rs rw rb m) Q := V.getf hd hf rfl rfl kk
theorem V.gf2_8 {idx : Nat} (hd : decode M.2.1 pc = .ok (.getfield idx, 3)) (hf : FL M.2.2.2.2 idx 2 8) (kk : V M d rc rs0 (pc + 3) ls (.ref 10 :: st) (HH f ro rs rw rb m) Q) : V M d rc rs0 pc ls (.ref 1 :: st) (HH f ro rs rw rb m) Q := V.getf hd hf rfl rfl kk
theorem V.gf2_9 {idx : Nat} (hd : decode M.2.1 pc = .ok (.getfield idx, 3)) (hf : FL M.2.2.2.2 idx 2 9) (kk : V M d rc rs0 (pc + 3) ls (.ref 11 :: st) (HH f ro rs rw rb m) Q) : V M d rc rs0 pc ls (.ref 1 :: st) (HH f ro rs rw rb m) Q := V.getf hd hf rfl rfl kk
theorem V.gf2_10 {idx : Nat} (hd : decode M.2.1 pc = .ok (.getfield idx, 3)) (hf : FL M.2.2.2.2 idx 2 10) (kk : V M d rc rs0 (pc + 3) ls (.int (f 1 10) :: st) (HH f ro rs rw rb m) Q) : V M d rc rs0 pc ls (.ref 1 :: st) (HH f ro rs rw rb m) Q := V.getf hd hf rfl rfl kk
theorem V.pf2_10 {idx : Nat} {v : Int32} (hd : decode M.2.1 pc = .ok (.putfield idx, 3)) (hf : FP M idx 2 10 .int) (kk : V M d rc rs0 (pc + 3) ls st (HH (up2 f 1 10 v) ro rs rw rb m) Q) : V M d rc rs0 pc ls (.int v :: .ref 1 :: st) (HH f ro rs rw rb m) Q := V.putf hd hf rfl (Nat.le_of_ble_eq_true rfl) (fun _ => ⟨rfl, rfl⟩) kk
theorem V.gf3_0 {idx : Nat} (hd : decode M.2.1 pc = .ok (.getfield idx, 3)) (hf : FL M.2.2.2.2 idx 3 0) (kk : V M d rc rs0 (pc + 3) ls (.ref 1 :: st) (HH f ro rs rw rb m) Q) : V M d rc rs0 pc ls (.ref 12 :: st) (HH f ro rs rw rb m) Q := V.getf hd hf rfl rfl kk
theorem V.gf3_1 {idx : Nat} (hd : decode M.2.1 pc = .ok (.getfield idx, 3)) (hf : FL M.2.2.2.2 idx 3 1) (kk : V M d rc rs0 (pc + 3) ls (.ref 13 :: st) (HH f ro rs rw rb m) Q) : V M d rc rs0 pc ls (.ref 12 :: st) (HH f ro rs rw rb m) Q := V.getf hd hf rfl rfl kk
theorem V.gf3_2 {idx : Nat} (hd : decode M.2.1 pc = .ok (.getfield idx, 3)) (hf : FL M.2.2.2.2 idx 3 2) (kk : V M d rc rs0 (pc + 3) ls (.ref 14 :: st) (HH f ro rs rw rb m) Q) : V M d rc rs0 pc ls (.ref 12 :: st) (HH f ro rs rw rb m) Q := V.getf hd hf rfl rfl kk
theorem V.gf3_3 {idx : Nat} (hd : decode M.2.1 pc = .ok (.getfield idx, 3)) (hf : FL M.2.2.2.2 idx 3 3) (kk : V M d rc rs0 (pc + 3) ls (.ref 15 :: st) (HH f ro rs rw rb m) Q) : V M d rc rs0 pc ls (.ref 12 :: st) (HH f ro rs rw rb m) Q := V.getf hd hf rfl rfl kk
theorem V.gf3_4 {idx : Nat} (hd : decode M.2.1 pc = .ok (.getfield idx, 3)) (hf : FL M.2.2.2.2 idx 3 4) (kk : V M d rc rs0 (pc + 3) ls (.int (f 12 4) :: st) (HH f ro rs rw rb m) Q) : V M d rc rs0 pc ls (.ref 12 :: st) (HH f ro rs rw rb m) Q := V.getf hd hf rfl rfl kk
theorem V.pf3_4 {idx : Nat} {v : Int32} (hd : decode M.2.1 pc = .ok (.putfield idx, 3)) (hf : FP M idx 3 4 .int) (kk : V M d rc rs0 (pc + 3) ls st (HH (up2 f 12 4 v) ro rs rw rb m) Q) : V M d rc rs0 pc ls (.int v :: .ref 12 :: st) (HH f ro rs rw rb m) Q := V.putf hd hf rfl (Nat.le_of_ble_eq_true rfl) (fun _ => ⟨rfl, rfl⟩) kk
theorem V.gf4_0 {idx : Nat} (hd : decode M.2.1 pc = .ok (.getfield idx, 3)) (hf : FL M.2.2.2.2 idx 4 0) (kk : V M d rc rs0 (pc + 3) ls (.ref 1 :: st) (HH f ro rs rw rb m) Q) : V M d rc rs0 pc ls (.ref 37 :: st) (HH f ro rs rw rb m) Q := V.getf hd hf rfl rfl kk
theorem V.gf4_1 {idx : Nat} (hd : decode M.2.1 pc = .ok (.getfield idx, 3)) (hf : FL M.2.2.2.2 idx 4 1) (kk : V M d rc rs0 (pc + 3) ls (.ref 12 :: st) (HH f ro rs rw rb m) Q) : V M d rc rs0 pc ls (.ref 37 :: st) (HH f ro rs rw rb m) Q := V.getf hd hf rfl rfl kk
theorem V.gf4_2 {idx : Nat} (hd : decode M.2.1 pc = .ok (.getfield idx, 3)) (hf : FL M.2.2.2.2 idx 4 2) (kk : V M d rc rs0 (pc + 3) ls (.ref 36 :: st) (HH f ro rs rw rb m) Q) : V M d rc rs0 pc ls (.ref 37 :: st) (HH f ro rs rw rb m) Q := V.getf hd hf rfl rfl kk
theorem V.gf4_3 {idx : Nat} (hd : decode M.2.1 pc = .ok (.getfield idx, 3)) (hf : FL M.2.2.2.2 idx 4 3) (kk : V M d rc rs0 (pc + 3) ls (.ref 41 :: st) (HH f ro rs rw rb m) Q) : V M d rc rs0 pc ls (.ref 37 :: st) (HH f ro rs rw rb m) Q := V.getf hd hf rfl rfl kk
theorem V.gf4_4 {idx : Nat} (hd : decode M.2.1 pc = .ok (.getfield idx, 3)) (hf : FL M.2.2.2.2 idx 4 4) (kk : V M d rc rs0 (pc + 3) ls (.ref 38 :: st) (HH f ro rs rw rb m) Q) : V M d rc rs0 pc ls (.ref 37 :: st) (HH f ro rs rw rb m) Q := V.getf hd hf rfl rfl kk
theorem V.gf4_5 {idx : Nat} (hd : decode M.2.1 pc = .ok (.getfield idx, 3)) (hf : FL M.2.2.2.2 idx 4 5) (kk : V M d rc rs0 (pc + 3) ls (.ref 39 :: st) (HH f ro rs rw rb m) Q) : V M d rc rs0 pc ls (.ref 37 :: st) (HH f ro rs rw rb m) Q := V.getf hd hf rfl rfl kk
theorem V.gf4_6 {idx : Nat} (hd : decode M.2.1 pc = .ok (.getfield idx, 3)) (hf : FL M.2.2.2.2 idx 4 6) (kk : V M d rc rs0 (pc + 3) ls (.ref 40 :: st) (HH f ro rs rw rb m) Q) : V M d rc rs0 pc ls (.ref 37 :: st) (HH f ro rs rw rb m) Q := V.getf hd hf rfl rfl kk
theorem V.gf6_0 {idx : Nat} (hd : decode M.2.1 pc = .ok (.getfield idx, 3)) (hf : FL M.2.2.2.2 idx 6 0) (kk : V M d rc rs0 (pc + 3) ls (.ref 1 :: st) (HH f ro rs rw rb m) Q) : V M d rc rs0 pc ls (.ref 0 :: st) (HH f ro rs rw rb m) Q := V.getf hd hf rfl rfl kk
theorem V.gf6_1 {idx : Nat} (hd : decode M.2.1 pc = .ok (.getfield idx, 3)) (hf : FL M.2.2.2.2 idx 6 1) (kk : V M d rc rs0 (pc + 3) ls (.ref 12 :: st) (HH f ro rs rw rb m) Q) : V M d rc rs0 pc ls (.ref 0 :: st) (HH f ro rs rw rb m) Q := V.getf hd hf rfl rfl kk
theorem V.gf6_2 {idx : Nat} (hd : decode M.2.1 pc = .ok (.getfield idx, 3)) (hf : FL M.2.2.2.2 idx 6 2) (kk : V M d rc rs0 (pc + 3) ls (.ref 36 :: st) (HH f ro rs rw rb m) Q) : V M d rc rs0 pc ls (.ref 0 :: st) (HH f ro rs rw rb m) Q := V.getf hd hf rfl rfl kk
theorem V.gf6_3 {idx : Nat} (hd : decode M.2.1 pc = .ok (.getfield idx, 3)) (hf : FL M.2.2.2.2 idx 6 3) (kk : V M d rc rs0 (pc + 3) ls (.ref 37 :: st) (HH f ro rs rw rb m) Q) : V M d rc rs0 pc ls (.ref 0 :: st) (HH f ro rs rw rb m) Q := V.getf hd hf rfl rfl kk
theorem V.gf7_0 {idx : Nat} (hd : decode M.2.1 pc = .ok (.getfield idx, 3)) (hf : FL M.2.2.2.2 idx 7 0) (kk : V M d rc rs0 (pc + 3) ls (.int (m 0 0) :: st) (HH f ro rs rw rb m) Q) : V M d rc rs0 pc ls (.ref 45 :: st) (HH f ro rs rw rb m) Q := V.getf hd hf rfl rfl kk
theorem V.pf7_0 {idx : Nat} {v : Int32} (hd : decode M.2.1 pc = .ok (.putfield idx, 3)) (hf : FP M idx 7 0 .int) (kk : V M d rc rs0 (pc + 3) ls st (HH f ro rs rw rb (up2 m 0 0 v)) Q) : V M d rc rs0 pc ls (.int v :: .ref 45 :: st) (HH f ro rs rw rb m) Q := V.putf hd hf rfl (Nat.le_of_ble_eq_true rfl) (fun _ => ⟨rfl, rfl⟩) kk
theorem V.gf7_1 {idx : Nat} (hd : decode M.2.1 pc = .ok (.getfield idx, 3)) (hf : FL M.2.2.2.2 idx 7 1) (kk : V M d rc rs0 (pc + 3) ls (.int (m 1 0) :: st) (HH f ro rs rw rb m) Q) : V M d rc rs0 pc ls (.ref 45 :: st) (HH f ro rs rw rb m) Q := V.getf hd hf rfl rfl kk
theorem V.pf7_1 {idx : Nat} {v : Int32} (hd : decode M.2.1 pc = .ok (.putfield idx, 3)) (hf : FP M idx 7 1 .int) (kk : V M d rc rs0 (pc + 3) ls st (HH f ro rs rw rb (up2 m 1 0 v)) Q) : V M d rc rs0 pc ls (.int v :: .ref 45 :: st) (HH f ro rs rw rb m) Q := V.putf hd hf rfl (Nat.le_of_ble_eq_true rfl) (fun _ => ⟨rfl, rfl⟩) kk
theorem V.gf7_2 {idx : Nat} (hd : decode M.2.1 pc = .ok (.getfield idx, 3)) (hf : FL M.2.2.2.2 idx 7 2) (kk : V M d rc rs0 (pc + 3) ls (.ref 46 :: st) (HH f ro rs rw rb m) Q) : V M d rc rs0 pc ls (.ref 45 :: st) (HH f ro rs rw rb m) Q := V.getf hd hf rfl rfl kk
theorem V.gf7_3 {idx : Nat} (hd : decode M.2.1 pc = .ok (.getfield idx, 3)) (hf : FL M.2.2.2.2 idx 7 3) (kk : V M d rc rs0 (pc + 3) ls (.ref 47 :: st) (HH f ro rs rw rb m) Q) : V M d rc rs0 pc ls (.ref 45 :: st) (HH f ro rs rw rb m) Q := V.getf hd hf rfl rfl kk
theorem V.gf7_4 {idx : Nat} (hd : decode M.2.1 pc = .ok (.getfield idx, 3)) (hf : FL M.2.2.2.2 idx 7 4) (kk : V M d rc rs0 (pc + 3) ls (.ref 48 :: st) (HH f ro rs rw rb m) Q) : V M d rc rs0 pc ls (.ref 45 :: st) (HH f ro rs rw rb m) Q := V.getf hd hf rfl rfl kk
theorem V.gf7_5 {idx : Nat} (hd : decode M.2.1 pc = .ok (.getfield idx, 3)) (hf : FL M.2.2.2.2 idx 7 5) (kk : V M d rc rs0 (pc + 3) ls (.ref 49 :: st) (HH f ro rs rw rb m) Q) : V M d rc rs0 pc ls (.ref 45 :: st) (HH f ro rs rw rb m) Q := V.getf hd hf rfl rfl kk
theorem V.gf7_6 {idx : Nat} (hd : decode M.2.1 pc = .ok (.getfield idx, 3)) (hf : FL M.2.2.2.2 idx 7 6) (kk : V M d rc rs0 (pc + 3) ls (.ref 50 :: st) (HH f ro rs rw rb m) Q) : V M d rc rs0 pc ls (.ref 45 :: st) (HH f ro rs rw rb m) Q := V.getf hd hf rfl rfl kk
theorem V.gf7_7 {idx : Nat} (hd : decode M.2.1 pc = .ok (.getfield idx, 3)) (hf : FL M.2.2.2.2 idx 7 7) (kk : V M d rc rs0 (pc + 3) ls (.ref 51 :: st) (HH f ro rs rw rb m) Q) : V M d rc rs0 pc ls (.ref 45 :: st) (HH f ro rs rw rb m) Q := V.getf hd hf rfl rfl kk
theorem V.gf7_8 {idx : Nat} (hd : decode M.2.1 pc = .ok (.getfield idx, 3)) (hf : FL M.2.2.2.2 idx 7 8) (kk : V M d rc rs0 (pc + 3) ls (.ref 52 :: st) (HH f ro rs rw rb m) Q) : V M d rc rs0 pc ls (.ref 45 :: st) (HH f ro rs rw rb m) Q := V.getf hd hf rfl rfl kk
theorem V.gf7_9 {idx : Nat} (hd : decode M.2.1 pc = .ok (.getfield idx, 3)) (hf : FL M.2.2.2.2 idx 7 9) (kk : V M d rc rs0 (pc + 3) ls (.ref 53 :: st) (HH f ro rs rw rb m) Q) : V M d rc rs0 pc ls (.ref 45 :: st) (HH f ro rs rw rb m) Q := V.getf hd hf rfl rfl kk
theorem V.gf7_10 {idx : Nat} (hd : decode M.2.1 pc = .ok (.getfield idx, 3)) (hf : FL M.2.2.2.2 idx 7 10) (kk : V M d rc rs0 (pc + 3) ls (.ref 54 :: st) (HH f ro rs rw rb m) Q) : V M d rc rs0 pc ls (.ref 45 :: st) (HH f ro rs rw rb m) Q := V.getf hd hf rfl rfl kk
theorem V.gf7_11 {idx : Nat} (hd : decode M.2.1 pc = .ok (.getfield idx, 3)) (hf : FL M.2.2.2.2 idx 7 11) (kk : V M d rc rs0 (pc + 3) ls (.ref 55 :: st) (HH f ro rs rw rb m) Q) : V M d rc rs0 pc ls (.ref 45 :: st) (HH f ro rs rw rb m) Q := V.getf hd hf rfl rfl kk
theorem V.gf7_12 {idx : Nat} (hd : decode M.2.1 pc = .ok (.getfield idx, 3)) (hf : FL M.2.2.2.2 idx 7 12) (kk : V M d rc rs0 (pc + 3) ls (.ref 56 :: st) (HH f ro rs rw rb m) Q) : V M d rc rs0 pc ls (.ref 45 :: st) (HH f ro rs rw rb m) Q := V.getf hd hf rfl rfl kk
theorem V.gf7_13 {idx : Nat} (hd : decode M.2.1 pc = .ok (.getfield idx, 3)) (hf : FL M.2.2.2.2 idx 7 13) (kk : V M d rc rs0 (pc + 3) ls (.int (m 13 0) :: st) (HH f ro rs rw rb m) Q) : V M d rc rs0 pc ls (.ref 45 :: st) (HH f ro rs rw rb m) Q := V.getf hd hf rfl rfl kk
theorem V.pf7_13 {idx : Nat} {v : Int32} (hd : decode M.2.1 pc = .ok (.putfield idx, 3)) (hf : FP M idx 7 13 .int) (kk : V M d rc rs0 (pc + 3) ls st (HH f ro rs rw rb (up2 m 13 0 v)) Q) : V M d rc rs0 pc ls (.int v :: .ref 45 :: st) (HH f ro rs rw rb m) Q := V.putf hd hf rfl (Nat.le_of_ble_eq_true rfl) (fun _ => ⟨rfl, rfl⟩) kk
theorem V.gf7_14 {idx : Nat} (hd : decode M.2.1 pc = .ok (.getfield idx, 3)) (hf : FL M.2.2.2.2 idx 7 14) (kk : V M d rc rs0 (pc + 3) ls (.ref 57 :: st) (HH f ro rs rw rb m) Q) : V M d rc rs0 pc ls (.ref 45 :: st) (HH f ro rs rw rb m) Q := V.getf hd hf rfl rfl kk
theorem V.gf7_15 {idx : Nat} (hd : decode M.2.1 pc = .ok (.getfield idx, 3)) (hf : FL M.2.2.2.2 idx 7 15) (kk : V M d rc rs0 (pc + 3) ls (.ref 58 :: st) (HH f ro rs rw rb m) Q) : V M d rc rs0 pc ls (.ref 45 :: st) (HH f ro rs rw rb m) Q := V.getf hd hf rfl rfl kk
theorem V.gf7_16 {idx : Nat} (hd : decode M.2.1 pc = .ok (.getfield idx, 3)) (hf : FL M.2.2.2.2 idx 7 16) (kk : V M d rc rs0 (pc + 3) ls (.ref 59 :: st) (HH f ro rs rw rb m) Q) : V M d rc rs0 pc ls (.ref 45 :: st) (HH f ro rs rw rb m) Q := V.getf hd hf rfl rfl kk
theorem V.gf7_17 {idx : Nat} (hd : decode M.2.1 pc = .ok (.getfield idx, 3)) (hf : FL M.2.2.2.2 idx 7 17) (kk : V M d rc rs0 (pc + 3) ls (.ref 60 :: st) (HH f ro rs rw rb m) Q) : V M d rc rs0 pc ls (.ref 45 :: st) (HH f ro rs rw rb m) Q := V.getf hd hf rfl rfl kk
theorem V.gf7_18 {idx : Nat} (hd : decode M.2.1 pc = .ok (.getfield idx, 3)) (hf : FL M.2.2.2.2 idx 7 18) (kk : V M d rc rs0 (pc + 3) ls (.ref 61 :: st) (HH f ro rs rw rb m) Q) : V M d rc rs0 pc ls (.ref 45 :: st) (HH f ro rs rw rb m) Q := V.getf hd hf rfl rfl kk
theorem V.gf7_19 {idx : Nat} (hd : decode M.2.1 pc = .ok (.getfield idx, 3)) (hf : FL M.2.2.2.2 idx 7 19) (kk : V M d rc rs0 (pc + 3) ls (.ref 62 :: st) (HH f ro rs rw rb m) Q) : V M d rc rs0 pc ls (.ref 45 :: st) (HH f ro rs rw rb m) Q := V.getf hd hf rfl rfl kk
theorem V.gf7_20 {idx : Nat} (hd : decode M.2.1 pc = .ok (.getfield idx, 3)) (hf : FL M.2.2.2.2 idx 7 20) (kk : V M d rc rs0 (pc + 3) ls (.int (m 20 0) :: st) (HH f ro rs rw rb m) Q) : V M d rc rs0 pc ls (.ref 45 :: st) (HH f ro rs rw rb m) Q := V.getf hd hf rfl rfl kk
theorem V.pf7_20 {idx : Nat} {v : Int32} (hd : decode M.2.1 pc = .ok (.putfield idx, 3)) (hf : FP M idx 7 20 .int) (kk : V M d rc rs0 (pc + 3) ls st (HH f ro rs rw rb (up2 m 20 0 v)) Q) : V M d rc rs0 pc ls (.int v :: .ref 45 :: st) (HH f ro rs rw rb m) Q := V.putf hd hf rfl (Nat.le_of_ble_eq_true rfl) (fun _ => ⟨rfl, rfl⟩) kk
theorem V.gf7_21 {idx : Nat} (hd : decode M.2.1 pc = .ok (.getfield idx, 3)) (hf : FL M.2.2.2.2 idx 7 21) (kk : V M d rc rs0 (pc + 3) ls (.ref 63 :: st) (HH f ro rs rw rb m) Q) : V M d rc rs0 pc ls (.ref 45 :: st) (HH f ro rs rw rb m) Q := V.getf hd hf rfl rfl kk
theorem V.gf7_22 {idx : Nat} (hd : decode M.2.1 pc = .ok (.getfield idx, 3)) (hf : FL M.2.2.2.2 idx 7 22) (kk : V M d rc rs0 (pc + 3) ls (.ref 64 :: st) (HH f ro rs rw rb m) Q) : V M d rc rs0 pc ls (.ref 45 :: st) (HH f ro rs rw rb m) Q := V.getf hd hf rfl rfl kk
theorem V.gf7_23 {idx : Nat} (hd : decode M.2.1 pc = .ok (.getfield idx, 3)) (hf : FL M.2.2.2.2 idx 7 23) (kk : V M d rc rs0 (pc + 3) ls (.ref 65 :: st) (HH f ro rs rw rb m) Q) : V M d rc rs0 pc ls (.ref 45 :: st) (HH f ro rs rw rb m) Q := V.getf hd hf rfl rfl kk
theorem V.gf7_24 {idx : Nat} (hd : decode M.2.1 pc = .ok (.getfield idx, 3)) (hf : FL M.2.2.2.2 idx 7 24) (kk : V M d rc rs0 (pc + 3) ls (.ref 66 :: st) (HH f ro rs rw rb m) Q) : V M d rc rs0 pc ls (.ref 45 :: st) (HH f ro rs rw rb m) Q := V.getf hd hf rfl rfl kk
theorem V.gf7_25 {idx : Nat} (hd : decode M.2.1 pc = .ok (.getfield idx, 3)) (hf : FL M.2.2.2.2 idx 7 25) (kk : V M d rc rs0 (pc + 3) ls (.ref 67 :: st) (HH f ro rs rw rb m) Q) : V M d rc rs0 pc ls (.ref 45 :: st) (HH f ro rs rw rb m) Q := V.getf hd hf rfl rfl kk
theorem V.gf7_26 {idx : Nat} (hd : decode M.2.1 pc = .ok (.getfield idx, 3)) (hf : FL M.2.2.2.2 idx 7 26) (kk : V M d rc rs0 (pc + 3) ls (.ref 68 :: st) (HH f ro rs rw rb m) Q) : V M d rc rs0 pc ls (.ref 45 :: st) (HH f ro rs rw rb m) Q := V.getf hd hf rfl rfl kk
theorem V.gf7_27 {idx : Nat} (hd : decode M.2.1 pc = .ok (.getfield idx, 3)) (hf : FL M.2.2.2.2 idx 7 27) (kk : V M d rc rs0 (pc + 3) ls (.int (m 27 0) :: st) (HH f ro rs rw rb m) Q) : V M d rc rs0 pc ls (.ref 45 :: st) (HH f ro rs rw rb m) Q := V.getf hd hf rfl rfl kk
theorem V.pf7_27 {idx : Nat} {v : Int32} (hd : decode M.2.1 pc = .ok (.putfield idx, 3)) (hf : FP M idx 7 27 .int) (kk : V M d rc rs0 (pc + 3) ls st (HH f ro rs rw rb (up2 m 27 0 v)) Q) : V M d rc rs0 pc ls (.int v :: .ref 45 :: st) (HH f ro rs rw rb m) Q := V.putf hd hf rfl (Nat.le_of_ble_eq_true rfl) (fun _ => ⟨rfl, rfl⟩) kk
theorem V.gf5_0 {idx k : Nat} (hd : decode M.2.1 pc = .ok (.getfield idx, 3)) (hf : FL M.2.2.2.2 idx 5 0) (hk : k < 10) (kk : V M d rc rs0 (pc + 3) ls (.ref (17 + 2 * k) :: st) (HH f ro rs rw rb m) Q) : V M d rc rs0 pc ls (.ref (16 + 2 * k) :: st) (HH f ro rs rw rb m) Q := V.getf hd hf (HH_row hk) rfl kk
theorem V.gf5_1 {idx k : Nat} (hd : decode M.2.1 pc = .ok (.getfield idx, 3)) (hf : FL M.2.2.2.2 idx 5 1) (hk : k < 10) (kk : V M d rc rs0 (pc + 3) ls (.int (ro k 1) :: st) (HH f ro rs rw rb m) Q) : V M d rc rs0 pc ls (.ref (16 + 2 * k) :: st) (HH f ro rs rw rb m) Q := V.getf hd hf (HH_row hk) rfl kk
theorem V.pf5_1 {idx k : Nat} {v : Int32} (hd : decode M.2.1 pc = .ok (.putfield idx, 3)) (hf : FP M idx 5 1 .int) (hk : k < 10) (kk : V M d rc rs0 (pc + 3) ls st (HH f (up2 ro k 1 v) rs rw rb m) Q) : V M d rc rs0 pc ls (.int v :: .ref (16 + 2 * k) :: st) (HH f ro rs rw rb m) Q := V.putf hd hf (HH_row hk) (Nat.le_of_ble_eq_true rfl) (fun _ => ⟨rfl, rfl⟩) (V.eqh (HH_row_set1 hk) kk)
theorem V.gf5_2 {idx k : Nat} (hd : decode M.2.1 pc = .ok (.getfield idx, 3)) (hf : FL M.2.2.2.2 idx 5 2) (hk : k < 10) (kk : V M d rc rs0 (pc + 3) ls (.int (ro k 2) :: st) (HH f ro rs rw rb m) Q) : V M d rc rs0 pc ls (.ref (16 + 2 * k) :: st) (HH f ro rs rw rb m) Q := V.getf hd hf (HH_row hk) rfl kk
theorem V.pf5_2 {idx k : Nat} {v : Int32} (hd : decode M.2.1 pc = .ok (.putfield idx, 3)) (hf : FP M idx 5 2 .int) (hk : k < 10) (kk : V M d rc rs0 (pc + 3) ls st (HH f (up2 ro k 2 v) rs rw rb m) Q) : V M d rc rs0 pc ls (.int v :: .ref (16 + 2 * k) :: st) (HH f ro rs rw rb m) Q := V.putf hd hf (HH_row hk) (Nat.le_of_ble_eq_true rfl) (fun _ => ⟨rfl, rfl⟩) (V.eqh (HH_row_set2 hk) kk)
theorem V.gf5_3 {idx k : Nat} (hd : decode M.2.1 pc = .ok (.getfield idx, 3)) (hf : FL M.2.2.2.2 idx 5 3) (hk : k < 10) (kk : V M d rc rs0 (pc + 3) ls (.int (ro k 3) :: st) (HH f ro rs rw rb m) Q) : V M d rc rs0 pc ls (.ref (16 + 2 * k) :: st) (HH f ro rs rw rb m) Q := V.getf hd hf (HH_row hk) rfl kk
theorem V.pf5_3 {idx k : Nat} {v : Int32} (hd : decode M.2.1 pc = .ok (.putfield idx, 3)) (hf : FP M idx 5 3 .int) (hk : k < 10) (kk : V M d rc rs0 (pc + 3) ls st (HH f (up2 ro k 3 v) rs rw rb m) Q) : V M d rc rs0 pc ls (.int v :: .ref (16 + 2 * k) :: st) (HH f ro rs rw rb m) Q := V.putf hd hf (HH_row hk) (Nat.le_of_ble_eq_true rfl) (fun _ => ⟨rfl, rfl⟩) (V.eqh (HH_row_set3 hk) kk)
theorem V.gf5_4 {idx k : Nat} (hd : decode M.2.1 pc = .ok (.getfield idx, 3)) (hf : FL M.2.2.2.2 idx 5 4) (hk : k < 10) (kk : V M d rc rs0 (pc + 3) ls (.int (ro k 4) :: st) (HH f ro rs rw rb m) Q) : V M d rc rs0 pc ls (.ref (16 + 2 * k) :: st) (HH f ro rs rw rb m) Q := V.getf hd hf (HH_row hk) rfl kk
theorem V.pf5_4 {idx k : Nat} {v : Int32} (hd : decode M.2.1 pc = .ok (.putfield idx, 3)) (hf : FP M idx 5 4 .int) (hk : k < 10) (kk : V M d rc rs0 (pc + 3) ls st (HH f (up2 ro k 4 v) rs rw rb m) Q) : V M d rc rs0 pc ls (.int v :: .ref (16 + 2 * k) :: st) (HH f ro rs rw rb m) Q := V.putf hd hf (HH_row hk) (Nat.le_of_ble_eq_true rfl) (fun _ => ⟨rfl, rfl⟩) (V.eqh (HH_row_set4 hk) kk)
theorem V.gf5_5 {idx k : Nat} (hd : decode M.2.1 pc = .ok (.getfield idx, 3)) (hf : FL M.2.2.2.2 idx 5 5) (hk : k < 10) (kk : V M d rc rs0 (pc + 3) ls (.int (ro k 5) :: st) (HH f ro rs rw rb m) Q) : V M d rc rs0 pc ls (.ref (16 + 2 * k) :: st) (HH f ro rs rw rb m) Q := V.getf hd hf (HH_row hk) rfl kk
theorem V.pf5_5 {idx k : Nat} {v : Int32} (hd : decode M.2.1 pc = .ok (.putfield idx, 3)) (hf : FP M idx 5 5 .int) (hk : k < 10) (kk : V M d rc rs0 (pc + 3) ls st (HH f (up2 ro k 5 v) rs rw rb m) Q) : V M d rc rs0 pc ls (.int v :: .ref (16 + 2 * k) :: st) (HH f ro rs rw rb m) Q := V.putf hd hf (HH_row hk) (Nat.le_of_ble_eq_true rfl) (fun _ => ⟨rfl, rfl⟩) (V.eqh (HH_row_set5 hk) kk)
theorem V.gf5_6 {idx k : Nat} (hd : decode M.2.1 pc = .ok (.getfield idx, 3)) (hf : FL M.2.2.2.2 idx 5 6) (hk : k < 10) (kk : V M d rc rs0 (pc + 3) ls (.int (ro k 6) :: st) (HH f ro rs rw rb m) Q) : V M d rc rs0 pc ls (.ref (16 + 2 * k) :: st) (HH f ro rs rw rb m) Q := V.getf hd hf (HH_row hk) rfl kk
theorem V.pf5_6 {idx k : Nat} {v : Int32} (hd : decode M.2.1 pc = .ok (.putfield idx, 3)) (hf : FP M idx 5 6 .int) (hk : k < 10) (kk : V M d rc rs0 (pc + 3) ls st (HH f (up2 ro k 6 v) rs rw rb m) Q) : V M d rc rs0 pc ls (.int v :: .ref (16 + 2 * k) :: st) (HH f ro rs rw rb m) Q := V.putf hd hf (HH_row hk) (Nat.le_of_ble_eq_true rfl) (fun _ => ⟨rfl, rfl⟩) (V.eqh (HH_row_set6 hk) kk)
theorem V.gf5_7 {idx k : Nat} (hd : decode M.2.1 pc = .ok (.getfield idx, 3)) (hf : FL M.2.2.2.2 idx 5 7) (hk : k < 10) (kk : V M d rc rs0 (pc + 3) ls (.int (ro k 7) :: st) (HH f ro rs rw rb m) Q) : V M d rc rs0 pc ls (.ref (16 + 2 * k) :: st) (HH f ro rs rw rb m) Q := V.getf hd hf (HH_row hk) rfl kk
theorem V.pf5_7 {idx k : Nat} {v : Int32} (hd : decode M.2.1 pc = .ok (.putfield idx, 3)) (hf : FP M idx 5 7 .int) (hk : k < 10) (kk : V M d rc rs0 (pc + 3) ls st (HH f (up2 ro k 7 v) rs rw rb m) Q) : V M d rc rs0 pc ls (.int v :: .ref (16 + 2 * k) :: st) (HH f ro rs rw rb m) Q := V.putf hd hf (HH_row hk) (Nat.le_of_ble_eq_true rfl) (fun _ => ⟨rfl, rfl⟩) (V.eqh (HH_row_set7 hk) kk)
theorem V.gf5_8 {idx k : Nat} (hd : decode M.2.1 pc = .ok (.getfield idx, 3)) (hf : FL M.2.2.2.2 idx 5 8) (hk : k < 10) (kk : V M d rc rs0 (pc + 3) ls (.int (ro k 8) :: st) (HH f ro rs rw rb m) Q) : V M d rc rs0 pc ls (.ref (16 + 2 * k) :: st) (HH f ro rs rw rb m) Q := V.getf hd hf (HH_row hk) rfl kk
theorem V.pf5_8 {idx k : Nat} {v : Int32} (hd : decode M.2.1 pc = .ok (.putfield idx, 3)) (hf : FP M idx 5 8 .boolean) (hk : k < 10) (hv : v = 0 ∨ v = 1) (kk : V M d rc rs0 (pc + 3) ls st (HH f (up2 ro k 8 v) rs rw rb m) Q) : V M d rc rs0 pc ls (.int v :: .ref (16 + 2 * k) :: st) (HH f ro rs rw rb m) Q := V.putf hd hf (HH_row hk) (Nat.le_of_ble_eq_true rfl) (fun _ => bool_fit hv) (V.eqh (HH_row_set8 hk) kk)
theorem V.gf5_9 {idx k : Nat} (hd : decode M.2.1 pc = .ok (.getfield idx, 3)) (hf : FL M.2.2.2.2 idx 5 9) (hk : k < 10) (kk : V M d rc rs0 (pc + 3) ls (.int (ro k 9) :: st) (HH f ro rs rw rb m) Q) : V M d rc rs0 pc ls (.ref (16 + 2 * k) :: st) (HH f ro rs rw rb m) Q := V.getf hd hf (HH_row hk) rfl kk
theorem V.pf5_9 {idx k : Nat} {v : Int32} (hd : decode M.2.1 pc = .ok (.putfield idx, 3)) (hf : FP M idx 5 9 .boolean) (hk : k < 10) (hv : v = 0 ∨ v = 1) (kk : V M d rc rs0 (pc + 3) ls st (HH f (up2 ro k 9 v) rs rw rb m) Q) : V M d rc rs0 pc ls (.int v :: .ref (16 + 2 * k) :: st) (HH f ro rs rw rb m) Q := V.putf hd hf (HH_row hk) (Nat.le_of_ble_eq_true rfl) (fun _ => bool_fit hv) (V.eqh (HH_row_set9 hk) kk)
theorem V.ald_2 {x : Int32} {j : Nat} (hd : decode M.2.1 pc = .ok (.iaload, 1)) (hj : ix x j 20) (kk : V M d rc rs0 (pc + 1) ls (.int (f 2 j) :: st) (HH f ro rs rw rb m) Q) : V M d rc rs0 pc ls (.int x :: .ref 2 :: st) (HH f ro rs rw rb m) Q := V.iald hd rfl hj kk
theorem V.ast_2 {x v : Int32} {j : Nat} (hd : decode M.2.1 pc = .ok (.iastore, 1)) (hj : ix x j 20) (kk : V M d rc rs0 (pc + 1) ls st (HH (up2 f 2 j v) ro rs rw rb m) Q) : V M d rc rs0 pc ls (.int v :: .int x :: .ref 2 :: st) (HH f ro rs rw rb m) Q := V.iast hd rfl hj kk
theorem V.ald_3 {x : Int32} {j : Nat} (hd : decode M.2.1 pc = .ok (.iaload, 1)) (hj : ix x j 20) (kk : V M d rc rs0 (pc + 1) ls (.int (f 3 j) :: st) (HH f ro rs rw rb m) Q) : V M d rc rs0 pc ls (.int x :: .ref 3 :: st) (HH f ro rs rw rb m) Q := V.iald hd rfl hj kk
theorem V.ast_3 {x v : Int32} {j : Nat} (hd : decode M.2.1 pc = .ok (.iastore, 1)) (hj : ix x j 20) (kk : V M d rc rs0 (pc + 1) ls st (HH (up2 f 3 j v) ro rs rw rb m) Q) : V M d rc rs0 pc ls (.int v :: .int x :: .ref 3 :: st) (HH f ro rs rw rb m) Q := V.iast hd rfl hj kk
theorem V.ald_4 {x : Int32} {j : Nat} (hd : decode M.2.1 pc = .ok (.iaload, 1)) (hj : ix x j 20) (kk : V M d rc rs0 (pc + 1) ls (.int (f 4 j) :: st) (HH f ro rs rw rb m) Q) : V M d rc rs0 pc ls (.int x :: .ref 4 :: st) (HH f ro rs rw rb m) Q := V.iald hd rfl hj kk
theorem V.ast_4 {x v : Int32} {j : Nat} (hd : decode M.2.1 pc = .ok (.iastore, 1)) (hj : ix x j 20) (kk : V M d rc rs0 (pc + 1) ls st (HH (up2 f 4 j v) ro rs rw rb m) Q) : V M d rc rs0 pc ls (.int v :: .int x :: .ref 4 :: st) (HH f ro rs rw rb m) Q := V.iast hd rfl hj kk
theorem V.ald_5 {x : Int32} {j : Nat} (hd : decode M.2.1 pc = .ok (.iaload, 1)) (hj : ix x j 20) (kk : V M d rc rs0 (pc + 1) ls (.int (f 5 j) :: st) (HH f ro rs rw rb m) Q) : V M d rc rs0 pc ls (.int x :: .ref 5 :: st) (HH f ro rs rw rb m) Q := V.iald hd rfl hj kk
theorem V.ast_5 {x v : Int32} {j : Nat} (hd : decode M.2.1 pc = .ok (.iastore, 1)) (hj : ix x j 20) (kk : V M d rc rs0 (pc + 1) ls st (HH (up2 f 5 j v) ro rs rw rb m) Q) : V M d rc rs0 pc ls (.int v :: .int x :: .ref 5 :: st) (HH f ro rs rw rb m) Q := V.iast hd rfl hj kk
theorem V.ald_6 {x : Int32} {j : Nat} (hd : decode M.2.1 pc = .ok (.iaload, 1)) (hj : ix x j 20) (kk : V M d rc rs0 (pc + 1) ls (.int (f 6 j) :: st) (HH f ro rs rw rb m) Q) : V M d rc rs0 pc ls (.int x :: .ref 6 :: st) (HH f ro rs rw rb m) Q := V.iald hd rfl hj kk
theorem V.ast_6 {x v : Int32} {j : Nat} (hd : decode M.2.1 pc = .ok (.iastore, 1)) (hj : ix x j 20) (kk : V M d rc rs0 (pc + 1) ls st (HH (up2 f 6 j v) ro rs rw rb m) Q) : V M d rc rs0 pc ls (.int v :: .int x :: .ref 6 :: st) (HH f ro rs rw rb m) Q := V.iast hd rfl hj kk
theorem V.ald_7 {x : Int32} {j : Nat} (hd : decode M.2.1 pc = .ok (.iaload, 1)) (hj : ix x j 20) (kk : V M d rc rs0 (pc + 1) ls (.int (f 7 j) :: st) (HH f ro rs rw rb m) Q) : V M d rc rs0 pc ls (.int x :: .ref 7 :: st) (HH f ro rs rw rb m) Q := V.iald hd rfl hj kk
theorem V.ast_7 {x v : Int32} {j : Nat} (hd : decode M.2.1 pc = .ok (.iastore, 1)) (hj : ix x j 20) (kk : V M d rc rs0 (pc + 1) ls st (HH (up2 f 7 j v) ro rs rw rb m) Q) : V M d rc rs0 pc ls (.int v :: .int x :: .ref 7 :: st) (HH f ro rs rw rb m) Q := V.iast hd rfl hj kk
theorem V.ald_8 {x : Int32} {j : Nat} (hd : decode M.2.1 pc = .ok (.iaload, 1)) (hj : ix x j 8) (kk : V M d rc rs0 (pc + 1) ls (.int (f 8 j) :: st) (HH f ro rs rw rb m) Q) : V M d rc rs0 pc ls (.int x :: .ref 8 :: st) (HH f ro rs rw rb m) Q := V.iald hd rfl hj kk
theorem V.ast_8 {x v : Int32} {j : Nat} (hd : decode M.2.1 pc = .ok (.iastore, 1)) (hj : ix x j 8) (kk : V M d rc rs0 (pc + 1) ls st (HH (up2 f 8 j v) ro rs rw rb m) Q) : V M d rc rs0 pc ls (.int v :: .int x :: .ref 8 :: st) (HH f ro rs rw rb m) Q := V.iast hd rfl hj kk
theorem V.ald_9 {x : Int32} {j : Nat} (hd : decode M.2.1 pc = .ok (.iaload, 1)) (hj : ix x j 8) (kk : V M d rc rs0 (pc + 1) ls (.int (f 9 j) :: st) (HH f ro rs rw rb m) Q) : V M d rc rs0 pc ls (.int x :: .ref 9 :: st) (HH f ro rs rw rb m) Q := V.iald hd rfl hj kk
theorem V.ast_9 {x v : Int32} {j : Nat} (hd : decode M.2.1 pc = .ok (.iastore, 1)) (hj : ix x j 8) (kk : V M d rc rs0 (pc + 1) ls st (HH (up2 f 9 j v) ro rs rw rb m) Q) : V M d rc rs0 pc ls (.int v :: .int x :: .ref 9 :: st) (HH f ro rs rw rb m) Q := V.iast hd rfl hj kk
theorem V.ald_10 {x : Int32} {j : Nat} (hd : decode M.2.1 pc = .ok (.iaload, 1)) (hj : ix x j 8) (kk : V M d rc rs0 (pc + 1) ls (.int (f 10 j) :: st) (HH f ro rs rw rb m) Q) : V M d rc rs0 pc ls (.int x :: .ref 10 :: st) (HH f ro rs rw rb m) Q := V.iald hd rfl hj kk
theorem V.ast_10 {x v : Int32} {j : Nat} (hd : decode M.2.1 pc = .ok (.iastore, 1)) (hj : ix x j 8) (kk : V M d rc rs0 (pc + 1) ls st (HH (up2 f 10 j v) ro rs rw rb m) Q) : V M d rc rs0 pc ls (.int v :: .int x :: .ref 10 :: st) (HH f ro rs rw rb m) Q := V.iast hd rfl hj kk
theorem V.ald_11 {x : Int32} {j : Nat} (hd : decode M.2.1 pc = .ok (.iaload, 1)) (hj : ix x j 8) (kk : V M d rc rs0 (pc + 1) ls (.int (f 11 j) :: st) (HH f ro rs rw rb m) Q) : V M d rc rs0 pc ls (.int x :: .ref 11 :: st) (HH f ro rs rw rb m) Q := V.iald hd rfl hj kk
theorem V.ast_11 {x v : Int32} {j : Nat} (hd : decode M.2.1 pc = .ok (.iastore, 1)) (hj : ix x j 8) (kk : V M d rc rs0 (pc + 1) ls st (HH (up2 f 11 j v) ro rs rw rb m) Q) : V M d rc rs0 pc ls (.int v :: .int x :: .ref 11 :: st) (HH f ro rs rw rb m) Q := V.iast hd rfl hj kk
theorem V.ald_14 {x : Int32} {j : Nat} (hd : decode M.2.1 pc = .ok (.iaload, 1)) (hj : ix x j 8) (kk : V M d rc rs0 (pc + 1) ls (.int (f 14 j) :: st) (HH f ro rs rw rb m) Q) : V M d rc rs0 pc ls (.int x :: .ref 14 :: st) (HH f ro rs rw rb m) Q := V.iald hd rfl hj kk
theorem V.ast_14 {x v : Int32} {j : Nat} (hd : decode M.2.1 pc = .ok (.iastore, 1)) (hj : ix x j 8) (kk : V M d rc rs0 (pc + 1) ls st (HH (up2 f 14 j v) ro rs rw rb m) Q) : V M d rc rs0 pc ls (.int v :: .int x :: .ref 14 :: st) (HH f ro rs rw rb m) Q := V.iast hd rfl hj kk
theorem V.ald_15 {x : Int32} {j : Nat} (hd : decode M.2.1 pc = .ok (.iaload, 1)) (hj : ix x j 8) (kk : V M d rc rs0 (pc + 1) ls (.int (f 15 j) :: st) (HH f ro rs rw rb m) Q) : V M d rc rs0 pc ls (.int x :: .ref 15 :: st) (HH f ro rs rw rb m) Q := V.iald hd rfl hj kk
theorem V.ast_15 {x v : Int32} {j : Nat} (hd : decode M.2.1 pc = .ok (.iastore, 1)) (hj : ix x j 8) (kk : V M d rc rs0 (pc + 1) ls st (HH (up2 f 15 j v) ro rs rw rb m) Q) : V M d rc rs0 pc ls (.int v :: .int x :: .ref 15 :: st) (HH f ro rs rw rb m) Q := V.iast hd rfl hj kk
theorem V.ald_39 {x : Int32} {j : Nat} (hd : decode M.2.1 pc = .ok (.iaload, 1)) (hj : ix x j 8) (kk : V M d rc rs0 (pc + 1) ls (.int (f 39 j) :: st) (HH f ro rs rw rb m) Q) : V M d rc rs0 pc ls (.int x :: .ref 39 :: st) (HH f ro rs rw rb m) Q := V.iald hd rfl hj kk
theorem V.ast_39 {x v : Int32} {j : Nat} (hd : decode M.2.1 pc = .ok (.iastore, 1)) (hj : ix x j 8) (kk : V M d rc rs0 (pc + 1) ls st (HH (up2 f 39 j v) ro rs rw rb m) Q) : V M d rc rs0 pc ls (.int v :: .int x :: .ref 39 :: st) (HH f ro rs rw rb m) Q := V.iast hd rfl hj kk
theorem V.ald_40 {x : Int32} {j : Nat} (hd : decode M.2.1 pc = .ok (.iaload, 1)) (hj : ix x j 8) (kk : V M d rc rs0 (pc + 1) ls (.int (f 40 j) :: st) (HH f ro rs rw rb m) Q) : V M d rc rs0 pc ls (.int x :: .ref 40 :: st) (HH f ro rs rw rb m) Q := V.iald hd rfl hj kk
theorem V.ast_40 {x v : Int32} {j : Nat} (hd : decode M.2.1 pc = .ok (.iastore, 1)) (hj : ix x j 8) (kk : V M d rc rs0 (pc + 1) ls st (HH (up2 f 40 j v) ro rs rw rb m) Q) : V M d rc rs0 pc ls (.int v :: .int x :: .ref 40 :: st) (HH f ro rs rw rb m) Q := V.iast hd rfl hj kk
theorem V.ald_42 {x : Int32} {j : Nat} (hd : decode M.2.1 pc = .ok (.iaload, 1)) (hj : ix x j 5) (kk : V M d rc rs0 (pc + 1) ls (.int (f 42 j) :: st) (HH f ro rs rw rb m) Q) : V M d rc rs0 pc ls (.int x :: .ref 42 :: st) (HH f ro rs rw rb m) Q := V.iald hd rfl hj kk
theorem V.ast_42 {x v : Int32} {j : Nat} (hd : decode M.2.1 pc = .ok (.iastore, 1)) (hj : ix x j 5) (kk : V M d rc rs0 (pc + 1) ls st (HH (up2 f 42 j v) ro rs rw rb m) Q) : V M d rc rs0 pc ls (.int v :: .int x :: .ref 42 :: st) (HH f ro rs rw rb m) Q := V.iast hd rfl hj kk
theorem V.ald_43 {x : Int32} {j : Nat} (hd : decode M.2.1 pc = .ok (.iaload, 1)) (hj : ix x j 5) (kk : V M d rc rs0 (pc + 1) ls (.int (f 43 j) :: st) (HH f ro rs rw rb m) Q) : V M d rc rs0 pc ls (.int x :: .ref 43 :: st) (HH f ro rs rw rb m) Q := V.iald hd rfl hj kk
theorem V.ast_43 {x v : Int32} {j : Nat} (hd : decode M.2.1 pc = .ok (.iastore, 1)) (hj : ix x j 5) (kk : V M d rc rs0 (pc + 1) ls st (HH (up2 f 43 j v) ro rs rw rb m) Q) : V M d rc rs0 pc ls (.int v :: .int x :: .ref 43 :: st) (HH f ro rs rw rb m) Q := V.iast hd rfl hj kk
theorem V.ald_44 {x : Int32} {j : Nat} (hd : decode M.2.1 pc = .ok (.iaload, 1)) (hj : ix x j 5) (kk : V M d rc rs0 (pc + 1) ls (.int (f 44 j) :: st) (HH f ro rs rw rb m) Q) : V M d rc rs0 pc ls (.int x :: .ref 44 :: st) (HH f ro rs rw rb m) Q := V.iald hd rfl hj kk
theorem V.ast_44 {x v : Int32} {j : Nat} (hd : decode M.2.1 pc = .ok (.iastore, 1)) (hj : ix x j 5) (kk : V M d rc rs0 (pc + 1) ls st (HH (up2 f 44 j v) ro rs rw rb m) Q) : V M d rc rs0 pc ls (.int v :: .int x :: .ref 44 :: st) (HH f ro rs rw rb m) Q := V.iast hd rfl hj kk
theorem V.ald_46 {x : Int32} {j : Nat} (hd : decode M.2.1 pc = .ok (.iaload, 1)) (hj : ix x j 20) (kk : V M d rc rs0 (pc + 1) ls (.int (m 2 j) :: st) (HH f ro rs rw rb m) Q) : V M d rc rs0 pc ls (.int x :: .ref 46 :: st) (HH f ro rs rw rb m) Q := V.iald hd rfl hj kk
theorem V.ast_46 {x v : Int32} {j : Nat} (hd : decode M.2.1 pc = .ok (.iastore, 1)) (hj : ix x j 20) (kk : V M d rc rs0 (pc + 1) ls st (HH f ro rs rw rb (up2 m 2 j v)) Q) : V M d rc rs0 pc ls (.int v :: .int x :: .ref 46 :: st) (HH f ro rs rw rb m) Q := V.iast hd rfl hj kk
theorem V.ald_47 {x : Int32} {j : Nat} (hd : decode M.2.1 pc = .ok (.iaload, 1)) (hj : ix x j 20) (kk : V M d rc rs0 (pc + 1) ls (.int (m 3 j) :: st) (HH f ro rs rw rb m) Q) : V M d rc rs0 pc ls (.int x :: .ref 47 :: st) (HH f ro rs rw rb m) Q := V.iald hd rfl hj kk
theorem V.ast_47 {x v : Int32} {j : Nat} (hd : decode M.2.1 pc = .ok (.iastore, 1)) (hj : ix x j 20) (kk : V M d rc rs0 (pc + 1) ls st (HH f ro rs rw rb (up2 m 3 j v)) Q) : V M d rc rs0 pc ls (.int v :: .int x :: .ref 47 :: st) (HH f ro rs rw rb m) Q := V.iast hd rfl hj kk
theorem V.ald_48 {x : Int32} {j : Nat} (hd : decode M.2.1 pc = .ok (.iaload, 1)) (hj : ix x j 20) (kk : V M d rc rs0 (pc + 1) ls (.int (m 4 j) :: st) (HH f ro rs rw rb m) Q) : V M d rc rs0 pc ls (.int x :: .ref 48 :: st) (HH f ro rs rw rb m) Q := V.iald hd rfl hj kk
theorem V.ast_48 {x v : Int32} {j : Nat} (hd : decode M.2.1 pc = .ok (.iastore, 1)) (hj : ix x j 20) (kk : V M d rc rs0 (pc + 1) ls st (HH f ro rs rw rb (up2 m 4 j v)) Q) : V M d rc rs0 pc ls (.int v :: .int x :: .ref 48 :: st) (HH f ro rs rw rb m) Q := V.iast hd rfl hj kk
theorem V.ald_49 {x : Int32} {j : Nat} (hd : decode M.2.1 pc = .ok (.baload, 1)) (hj : ix x j 20) (kk : V M d rc rs0 (pc + 1) ls (.int (m 5 j) :: st) (HH f ro rs rw rb m) Q) : V M d rc rs0 pc ls (.int x :: .ref 49 :: st) (HH f ro rs rw rb m) Q := V.zald hd rfl hj kk
theorem V.ast_49 {x v : Int32} {j : Nat} (hd : decode M.2.1 pc = .ok (.bastore, 1)) (hj : ix x j 20) (hv : vp_nar .boolean v = v) (kk : V M d rc rs0 (pc + 1) ls st (HH f ro rs rw rb (up2 m 5 j v)) Q) : V M d rc rs0 pc ls (.int v :: .int x :: .ref 49 :: st) (HH f ro rs rw rb m) Q := V.zast hd rfl hj hv kk
theorem V.ald_50 {x : Int32} {j : Nat} (hd : decode M.2.1 pc = .ok (.iaload, 1)) (hj : ix x j 20) (kk : V M d rc rs0 (pc + 1) ls (.int (m 6 j) :: st) (HH f ro rs rw rb m) Q) : V M d rc rs0 pc ls (.int x :: .ref 50 :: st) (HH f ro rs rw rb m) Q := V.iald hd rfl hj kk
theorem V.ast_50 {x v : Int32} {j : Nat} (hd : decode M.2.1 pc = .ok (.iastore, 1)) (hj : ix x j 20) (kk : V M d rc rs0 (pc + 1) ls st (HH f ro rs rw rb (up2 m 6 j v)) Q) : V M d rc rs0 pc ls (.int v :: .int x :: .ref 50 :: st) (HH f ro rs rw rb m) Q := V.iast hd rfl hj kk
theorem V.ald_51 {x : Int32} {j : Nat} (hd : decode M.2.1 pc = .ok (.iaload, 1)) (hj : ix x j 20) (kk : V M d rc rs0 (pc + 1) ls (.int (m 7 j) :: st) (HH f ro rs rw rb m) Q) : V M d rc rs0 pc ls (.int x :: .ref 51 :: st) (HH f ro rs rw rb m) Q := V.iald hd rfl hj kk
theorem V.ast_51 {x v : Int32} {j : Nat} (hd : decode M.2.1 pc = .ok (.iastore, 1)) (hj : ix x j 20) (kk : V M d rc rs0 (pc + 1) ls st (HH f ro rs rw rb (up2 m 7 j v)) Q) : V M d rc rs0 pc ls (.int v :: .int x :: .ref 51 :: st) (HH f ro rs rw rb m) Q := V.iast hd rfl hj kk
theorem V.ald_52 {x : Int32} {j : Nat} (hd : decode M.2.1 pc = .ok (.iaload, 1)) (hj : ix x j 20) (kk : V M d rc rs0 (pc + 1) ls (.int (m 8 j) :: st) (HH f ro rs rw rb m) Q) : V M d rc rs0 pc ls (.int x :: .ref 52 :: st) (HH f ro rs rw rb m) Q := V.iald hd rfl hj kk
theorem V.ast_52 {x v : Int32} {j : Nat} (hd : decode M.2.1 pc = .ok (.iastore, 1)) (hj : ix x j 20) (kk : V M d rc rs0 (pc + 1) ls st (HH f ro rs rw rb (up2 m 8 j v)) Q) : V M d rc rs0 pc ls (.int v :: .int x :: .ref 52 :: st) (HH f ro rs rw rb m) Q := V.iast hd rfl hj kk
theorem V.ald_53 {x : Int32} {j : Nat} (hd : decode M.2.1 pc = .ok (.iaload, 1)) (hj : ix x j 8) (kk : V M d rc rs0 (pc + 1) ls (.int (m 9 j) :: st) (HH f ro rs rw rb m) Q) : V M d rc rs0 pc ls (.int x :: .ref 53 :: st) (HH f ro rs rw rb m) Q := V.iald hd rfl hj kk
theorem V.ast_53 {x v : Int32} {j : Nat} (hd : decode M.2.1 pc = .ok (.iastore, 1)) (hj : ix x j 8) (kk : V M d rc rs0 (pc + 1) ls st (HH f ro rs rw rb (up2 m 9 j v)) Q) : V M d rc rs0 pc ls (.int v :: .int x :: .ref 53 :: st) (HH f ro rs rw rb m) Q := V.iast hd rfl hj kk
theorem V.ald_54 {x : Int32} {j : Nat} (hd : decode M.2.1 pc = .ok (.iaload, 1)) (hj : ix x j 8) (kk : V M d rc rs0 (pc + 1) ls (.int (m 10 j) :: st) (HH f ro rs rw rb m) Q) : V M d rc rs0 pc ls (.int x :: .ref 54 :: st) (HH f ro rs rw rb m) Q := V.iald hd rfl hj kk
theorem V.ast_54 {x v : Int32} {j : Nat} (hd : decode M.2.1 pc = .ok (.iastore, 1)) (hj : ix x j 8) (kk : V M d rc rs0 (pc + 1) ls st (HH f ro rs rw rb (up2 m 10 j v)) Q) : V M d rc rs0 pc ls (.int v :: .int x :: .ref 54 :: st) (HH f ro rs rw rb m) Q := V.iast hd rfl hj kk
theorem V.ald_55 {x : Int32} {j : Nat} (hd : decode M.2.1 pc = .ok (.iaload, 1)) (hj : ix x j 8) (kk : V M d rc rs0 (pc + 1) ls (.int (m 11 j) :: st) (HH f ro rs rw rb m) Q) : V M d rc rs0 pc ls (.int x :: .ref 55 :: st) (HH f ro rs rw rb m) Q := V.iald hd rfl hj kk
theorem V.ast_55 {x v : Int32} {j : Nat} (hd : decode M.2.1 pc = .ok (.iastore, 1)) (hj : ix x j 8) (kk : V M d rc rs0 (pc + 1) ls st (HH f ro rs rw rb (up2 m 11 j v)) Q) : V M d rc rs0 pc ls (.int v :: .int x :: .ref 55 :: st) (HH f ro rs rw rb m) Q := V.iast hd rfl hj kk
theorem V.ald_56 {x : Int32} {j : Nat} (hd : decode M.2.1 pc = .ok (.iaload, 1)) (hj : ix x j 8) (kk : V M d rc rs0 (pc + 1) ls (.int (m 12 j) :: st) (HH f ro rs rw rb m) Q) : V M d rc rs0 pc ls (.int x :: .ref 56 :: st) (HH f ro rs rw rb m) Q := V.iald hd rfl hj kk
theorem V.ast_56 {x v : Int32} {j : Nat} (hd : decode M.2.1 pc = .ok (.iastore, 1)) (hj : ix x j 8) (kk : V M d rc rs0 (pc + 1) ls st (HH f ro rs rw rb (up2 m 12 j v)) Q) : V M d rc rs0 pc ls (.int v :: .int x :: .ref 56 :: st) (HH f ro rs rw rb m) Q := V.iast hd rfl hj kk
theorem V.ald_57 {x : Int32} {j : Nat} (hd : decode M.2.1 pc = .ok (.iaload, 1)) (hj : ix x j 8) (kk : V M d rc rs0 (pc + 1) ls (.int (m 14 j) :: st) (HH f ro rs rw rb m) Q) : V M d rc rs0 pc ls (.int x :: .ref 57 :: st) (HH f ro rs rw rb m) Q := V.iald hd rfl hj kk
theorem V.ast_57 {x v : Int32} {j : Nat} (hd : decode M.2.1 pc = .ok (.iastore, 1)) (hj : ix x j 8) (kk : V M d rc rs0 (pc + 1) ls st (HH f ro rs rw rb (up2 m 14 j v)) Q) : V M d rc rs0 pc ls (.int v :: .int x :: .ref 57 :: st) (HH f ro rs rw rb m) Q := V.iast hd rfl hj kk
theorem V.ald_58 {x : Int32} {j : Nat} (hd : decode M.2.1 pc = .ok (.iaload, 1)) (hj : ix x j 8) (kk : V M d rc rs0 (pc + 1) ls (.int (m 15 j) :: st) (HH f ro rs rw rb m) Q) : V M d rc rs0 pc ls (.int x :: .ref 58 :: st) (HH f ro rs rw rb m) Q := V.iald hd rfl hj kk
theorem V.ast_58 {x v : Int32} {j : Nat} (hd : decode M.2.1 pc = .ok (.iastore, 1)) (hj : ix x j 8) (kk : V M d rc rs0 (pc + 1) ls st (HH f ro rs rw rb (up2 m 15 j v)) Q) : V M d rc rs0 pc ls (.int v :: .int x :: .ref 58 :: st) (HH f ro rs rw rb m) Q := V.iast hd rfl hj kk
theorem V.ald_59 {x : Int32} {j : Nat} (hd : decode M.2.1 pc = .ok (.iaload, 1)) (hj : ix x j 8) (kk : V M d rc rs0 (pc + 1) ls (.int (m 16 j) :: st) (HH f ro rs rw rb m) Q) : V M d rc rs0 pc ls (.int x :: .ref 59 :: st) (HH f ro rs rw rb m) Q := V.iald hd rfl hj kk
theorem V.ast_59 {x v : Int32} {j : Nat} (hd : decode M.2.1 pc = .ok (.iastore, 1)) (hj : ix x j 8) (kk : V M d rc rs0 (pc + 1) ls st (HH f ro rs rw rb (up2 m 16 j v)) Q) : V M d rc rs0 pc ls (.int v :: .int x :: .ref 59 :: st) (HH f ro rs rw rb m) Q := V.iast hd rfl hj kk
theorem V.ald_60 {x : Int32} {j : Nat} (hd : decode M.2.1 pc = .ok (.iaload, 1)) (hj : ix x j 40) (kk : V M d rc rs0 (pc + 1) ls (.int (m 17 j) :: st) (HH f ro rs rw rb m) Q) : V M d rc rs0 pc ls (.int x :: .ref 60 :: st) (HH f ro rs rw rb m) Q := V.iald hd rfl hj kk
theorem V.ast_60 {x v : Int32} {j : Nat} (hd : decode M.2.1 pc = .ok (.iastore, 1)) (hj : ix x j 40) (kk : V M d rc rs0 (pc + 1) ls st (HH f ro rs rw rb (up2 m 17 j v)) Q) : V M d rc rs0 pc ls (.int v :: .int x :: .ref 60 :: st) (HH f ro rs rw rb m) Q := V.iast hd rfl hj kk
theorem V.ald_61 {x : Int32} {j : Nat} (hd : decode M.2.1 pc = .ok (.iaload, 1)) (hj : ix x j 6) (kk : V M d rc rs0 (pc + 1) ls (.int (m 18 j) :: st) (HH f ro rs rw rb m) Q) : V M d rc rs0 pc ls (.int x :: .ref 61 :: st) (HH f ro rs rw rb m) Q := V.iald hd rfl hj kk
theorem V.ast_61 {x v : Int32} {j : Nat} (hd : decode M.2.1 pc = .ok (.iastore, 1)) (hj : ix x j 6) (kk : V M d rc rs0 (pc + 1) ls st (HH f ro rs rw rb (up2 m 18 j v)) Q) : V M d rc rs0 pc ls (.int v :: .int x :: .ref 61 :: st) (HH f ro rs rw rb m) Q := V.iast hd rfl hj kk
theorem V.ald_62 {x : Int32} {j : Nat} (hd : decode M.2.1 pc = .ok (.iaload, 1)) (hj : ix x j 5) (kk : V M d rc rs0 (pc + 1) ls (.int (m 19 j) :: st) (HH f ro rs rw rb m) Q) : V M d rc rs0 pc ls (.int x :: .ref 62 :: st) (HH f ro rs rw rb m) Q := V.iald hd rfl hj kk
theorem V.ast_62 {x v : Int32} {j : Nat} (hd : decode M.2.1 pc = .ok (.iastore, 1)) (hj : ix x j 5) (kk : V M d rc rs0 (pc + 1) ls st (HH f ro rs rw rb (up2 m 19 j v)) Q) : V M d rc rs0 pc ls (.int v :: .int x :: .ref 62 :: st) (HH f ro rs rw rb m) Q := V.iast hd rfl hj kk
theorem V.ald_63 {x : Int32} {j : Nat} (hd : decode M.2.1 pc = .ok (.iaload, 1)) (hj : ix x j 5) (kk : V M d rc rs0 (pc + 1) ls (.int (m 21 j) :: st) (HH f ro rs rw rb m) Q) : V M d rc rs0 pc ls (.int x :: .ref 63 :: st) (HH f ro rs rw rb m) Q := V.iald hd rfl hj kk
theorem V.ast_63 {x v : Int32} {j : Nat} (hd : decode M.2.1 pc = .ok (.iastore, 1)) (hj : ix x j 5) (kk : V M d rc rs0 (pc + 1) ls st (HH f ro rs rw rb (up2 m 21 j v)) Q) : V M d rc rs0 pc ls (.int v :: .int x :: .ref 63 :: st) (HH f ro rs rw rb m) Q := V.iast hd rfl hj kk
theorem V.ald_64 {x : Int32} {j : Nat} (hd : decode M.2.1 pc = .ok (.iaload, 1)) (hj : ix x j 40) (kk : V M d rc rs0 (pc + 1) ls (.int (m 22 j) :: st) (HH f ro rs rw rb m) Q) : V M d rc rs0 pc ls (.int x :: .ref 64 :: st) (HH f ro rs rw rb m) Q := V.iald hd rfl hj kk
theorem V.ast_64 {x v : Int32} {j : Nat} (hd : decode M.2.1 pc = .ok (.iastore, 1)) (hj : ix x j 40) (kk : V M d rc rs0 (pc + 1) ls st (HH f ro rs rw rb (up2 m 22 j v)) Q) : V M d rc rs0 pc ls (.int v :: .int x :: .ref 64 :: st) (HH f ro rs rw rb m) Q := V.iast hd rfl hj kk
theorem V.ald_65 {x : Int32} {j : Nat} (hd : decode M.2.1 pc = .ok (.iaload, 1)) (hj : ix x j 8) (kk : V M d rc rs0 (pc + 1) ls (.int (m 23 j) :: st) (HH f ro rs rw rb m) Q) : V M d rc rs0 pc ls (.int x :: .ref 65 :: st) (HH f ro rs rw rb m) Q := V.iald hd rfl hj kk
theorem V.ast_65 {x v : Int32} {j : Nat} (hd : decode M.2.1 pc = .ok (.iastore, 1)) (hj : ix x j 8) (kk : V M d rc rs0 (pc + 1) ls st (HH f ro rs rw rb (up2 m 23 j v)) Q) : V M d rc rs0 pc ls (.int v :: .int x :: .ref 65 :: st) (HH f ro rs rw rb m) Q := V.iast hd rfl hj kk
theorem V.ald_66 {x : Int32} {j : Nat} (hd : decode M.2.1 pc = .ok (.iaload, 1)) (hj : ix x j 20) (kk : V M d rc rs0 (pc + 1) ls (.int (m 24 j) :: st) (HH f ro rs rw rb m) Q) : V M d rc rs0 pc ls (.int x :: .ref 66 :: st) (HH f ro rs rw rb m) Q := V.iald hd rfl hj kk
theorem V.ast_66 {x v : Int32} {j : Nat} (hd : decode M.2.1 pc = .ok (.iastore, 1)) (hj : ix x j 20) (kk : V M d rc rs0 (pc + 1) ls st (HH f ro rs rw rb (up2 m 24 j v)) Q) : V M d rc rs0 pc ls (.int v :: .int x :: .ref 66 :: st) (HH f ro rs rw rb m) Q := V.iast hd rfl hj kk
theorem V.ald_67 {x : Int32} {j : Nat} (hd : decode M.2.1 pc = .ok (.iaload, 1)) (hj : ix x j 6) (kk : V M d rc rs0 (pc + 1) ls (.int (m 25 j) :: st) (HH f ro rs rw rb m) Q) : V M d rc rs0 pc ls (.int x :: .ref 67 :: st) (HH f ro rs rw rb m) Q := V.iald hd rfl hj kk
theorem V.ast_67 {x v : Int32} {j : Nat} (hd : decode M.2.1 pc = .ok (.iastore, 1)) (hj : ix x j 6) (kk : V M d rc rs0 (pc + 1) ls st (HH f ro rs rw rb (up2 m 25 j v)) Q) : V M d rc rs0 pc ls (.int v :: .int x :: .ref 67 :: st) (HH f ro rs rw rb m) Q := V.iast hd rfl hj kk
theorem V.ald_68 {x : Int32} {j : Nat} (hd : decode M.2.1 pc = .ok (.iaload, 1)) (hj : ix x j 6) (kk : V M d rc rs0 (pc + 1) ls (.int (m 26 j) :: st) (HH f ro rs rw rb m) Q) : V M d rc rs0 pc ls (.int x :: .ref 68 :: st) (HH f ro rs rw rb m) Q := V.iald hd rfl hj kk
theorem V.ast_68 {x v : Int32} {j : Nat} (hd : decode M.2.1 pc = .ok (.iastore, 1)) (hj : ix x j 6) (kk : V M d rc rs0 (pc + 1) ls st (HH f ro rs rw rb (up2 m 26 j v)) Q) : V M d rc rs0 pc ls (.int v :: .int x :: .ref 68 :: st) (HH f ro rs rw rb m) Q := V.iast hd rfl hj kk
theorem V.ald_rs {x : Int32} {j k : Nat} (hd : decode M.2.1 pc = .ok (.iaload, 1)) (hk : k < 10) (hj : ix x j 5) (kk : V M d rc rs0 (pc + 1) ls (.int (rs k j) :: st) (HH f ro rs rw rb m) Q) : V M d rc rs0 pc ls (.int x :: .ref (17 + 2 * k) :: st) (HH f ro rs rw rb m) Q := V.iald hd (HH_rs hk) hj kk
theorem V.ast_rs {x v : Int32} {j k : Nat} (hd : decode M.2.1 pc = .ok (.iastore, 1)) (hk : k < 10) (hj : ix x j 5) (kk : V M d rc rs0 (pc + 1) ls st (HH f ro (up2 rs k j v) rw rb m) Q) : V M d rc rs0 pc ls (.int v :: .int x :: .ref (17 + 2 * k) :: st) (HH f ro rs rw rb m) Q := V.iast hd (HH_rs hk) hj (V.eqh (HH_rs_set hk) kk)
theorem V.ald_13 {x : Int32} {j : Nat} (hd : decode M.2.1 pc = .ok (.aaload, 1)) (hj : ix x j 10) (kk : V M d rc rs0 (pc + 1) ls (.ref (16 + 2 * rw j) :: st) (HH f ro rs rw rb m) Q) : V M d rc rs0 pc ls (.int x :: .ref 13 :: st) (HH f ro rs rw rb m) Q := V.aald hd rfl hj rfl kk
theorem V.ast_13 {x : Int32} {j k : Nat} (hd : decode M.2.1 pc = .ok (.aastore, 1)) (hk : k < 10) (hj : ix x j 10) (kk : V M d rc rs0 (pc + 1) ls st (HH f ro rs (upN rw j k) rb m) Q) : V M d rc rs0 pc ls (.ref (16 + 2 * k) :: .int x :: .ref 13 :: st) (HH f ro rs rw rb m) Q := V.aast hd rfl (HH_row hk) hj (V.eqh (by rw [upN_row]; rfl) kk)
theorem V.ald_38 {x : Int32} {j : Nat} (hd : decode M.2.1 pc = .ok (.aaload, 1)) (hj : ix x j 8) (kk : V M d rc rs0 (pc + 1) ls (.ref (16 + 2 * rb j) :: st) (HH f ro rs rw rb m) Q) : V M d rc rs0 pc ls (.int x :: .ref 38 :: st) (HH f ro rs rw rb m) Q := V.aald hd rfl hj rfl kk
theorem V.ast_38 {x : Int32} {j k : Nat} (hd : decode M.2.1 pc = .ok (.aastore, 1)) (hk : k < 10) (hj : ix x j 8) (kk : V M d rc rs0 (pc + 1) ls st (HH f ro rs rw (upN rb j k) m) Q) : V M d rc rs0 pc ls (.ref (16 + 2 * k) :: .int x :: .ref 38 :: st) (HH f ro rs rw rb m) Q := V.aast hd rfl (HH_row hk) hj (V.eqh (by rw [upN_row]; rfl) kk)
end PICT
