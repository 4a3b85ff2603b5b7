def cwC (a : Nat → Nat) (ca : Nat → ClassId) (st : tSt) : va_W := [(a 0, .inr (7, [.ref (a 1), .ref (a 3), .ref (a 6), .ref (a 13), .ref (a 26), .ref (a 37), .ref (a 38), .ref (a 39), .int (st 0 0), .int (st 1 0), .int (st 2 0), .int (st 3 0), .int (st 4 0)])),
  (a 1, .inr (4, [.ref (a 2), .int (st 5 0)])),
  (a 2, .inl (ca 0, 40, .inl (st 6))),
  (a 3, .inr (5, [.ref (a 4), .ref (a 5)])),
  (a 4, .inl (ca 0, 4, .inl (st 7))),
  (a 5, .inl (ca 0, 4, .inl (st 8))),
  (a 6, .inl (ca 1, 6, .inr (.inr (.inr (.inr (fun i => some (a (7 + i)))))))),
  (a 7, .inr (2, [.int (st 9 0), .int (st 10 0), .int (st 11 0), .int (st 12 0)])),
  (a 8, .inr (2, [.int (st 9 1), .int (st 10 1), .int (st 11 1), .int (st 12 1)])),
  (a 9, .inr (2, [.int (st 9 2), .int (st 10 2), .int (st 11 2), .int (st 12 2)])),
  (a 10, .inr (2, [.int (st 9 3), .int (st 10 3), .int (st 11 3), .int (st 12 3)])),
  (a 11, .inr (2, [.int (st 9 4), .int (st 10 4), .int (st 11 4), .int (st 12 4)])),
  (a 12, .inr (2, [.int (st 9 5), .int (st 10 5), .int (st 11 5), .int (st 12 5)])),
  (a 13, .inl (ca 2, 6, .inr (.inr (.inr (.inr (fun i => some (a (14 + i)))))))),
  (a 14, .inr (0, [.ref (a 20), .int (st 13 0)])),
  (a 15, .inr (0, [.ref (a 21), .int (st 13 1)])),
  (a 16, .inr (0, [.ref (a 22), .int (st 13 2)])),
  (a 17, .inr (0, [.ref (a 23), .int (st 13 3)])),
  (a 18, .inr (0, [.ref (a 24), .int (st 13 4)])),
  (a 19, .inr (0, [.ref (a 25), .int (st 13 5)])),
  (a 20, .inl (ca 0, 8, .inl (st 14))),
  (a 21, .inl (ca 0, 8, .inl (st 15))),
  (a 22, .inl (ca 0, 8, .inl (st 16))),
  (a 23, .inl (ca 0, 8, .inl (st 17))),
  (a 24, .inl (ca 0, 8, .inl (st 18))),
  (a 25, .inl (ca 0, 8, .inl (st 19))),
  (a 26, .inl (ca 3, 10, .inr (.inr (.inr (.inr (fun i => some (a (27 + i)))))))),
  (a 27, .inr (6, [.int (st 20 0), .int (st 21 0), .int (st 22 0)])),
  (a 28, .inr (6, [.int (st 20 1), .int (st 21 1), .int (st 22 1)])),
  (a 29, .inr (6, [.int (st 20 2), .int (st 21 2), .int (st 22 2)])),
  (a 30, .inr (6, [.int (st 20 3), .int (st 21 3), .int (st 22 3)])),
  (a 31, .inr (6, [.int (st 20 4), .int (st 21 4), .int (st 22 4)])),
  (a 32, .inr (6, [.int (st 20 5), .int (st 21 5), .int (st 22 5)])),
  (a 33, .inr (6, [.int (st 20 6), .int (st 21 6), .int (st 22 6)])),
  (a 34, .inr (6, [.int (st 20 7), .int (st 21 7), .int (st 22 7)])),
  (a 35, .inr (6, [.int (st 20 8), .int (st 21 8), .int (st 22 8)])),
  (a 36, .inr (6, [.int (st 20 9), .int (st 21 9), .int (st 22 9)])),
  (a 37, .inl (ca 0, 5, .inl (st 23))),
  (a 38, .inl (ca 0, 8, .inl (st 24))),
  (a 39, .inr (3, [.ref (a 40), .ref (a 41), .ref (a 42), .int (st 26 0)])),
  (a 40, .inr (1, [.ref (a 43), .ref (a 44), .ref (a 45), .ref (a 46), .int (st 27 0)])),
  (a 41, .inl (ca 0, 6, .inl (st 29))),
  (a 42, .inl (ca 0, 10, .inl (st 30))),
  (a 43, .inl (ca 0, 6, .inl (st 31))),
  (a 44, .inl (ca 0, 12, .inl (st 32))),
  (a 45, .inl (ca 0, 12, .inl (st 33))),
  (a 46, .inl (ca 0, 12, .inl (st 34)))]
theorem cC_dom (a : Nat → Nat) (ca : Nat → ClassId) (st : tSt) : (cwC a ca st).map (fun q => q.1) = (List.range 47).map a := rfl
theorem cC_D {dC : Nat → ClassId} {dI : Nat → Nat → Nat} {a : Nat → Nat} {ca : Nat → ClassId} {tb : Nat → Nat} {s : State} (E : tEnv 47 dC dI a ca tb s) (st : tSt) : va_D (tA 47 a s.heap.size) (cwC a ca st) := tD (cC_dom a ca st) E.2.2.2.1
theorem cC_tp (a : Nat → Nat) (ca : Nat → ClassId) (st : tSt) : (cwC a ca st)[0]? = some (a 0, .inr (7, [.ref (a 1), .ref (a 3), .ref (a 6), .ref (a 13), .ref (a 26), .ref (a 37), .ref (a 38), .ref (a 39), .int (st 0 0), .int (st 1 0), .int (st 2 0), .int (st 3 0), .int (st 4 0)])) := rfl
theorem sC_tp_piperCount (a : Nat → Nat) (ca : Nat → ClassId) (st : tSt) (v : Int32) : (cwC a ca st).set 0 (a 0, .inr (7, ([.ref (a 1), .ref (a 3), .ref (a 6), .ref (a 13), .ref (a 26), .ref (a 37), .ref (a 38), .ref (a 39), .int (st 0 0), .int (st 1 0), .int (st 2 0), .int (st 3 0), .int (st 4 0)] : List Value).set 8 (.int v))) = cwC a ca (tUp st 0 0 v) := rfl
theorem sC_tp_tuneCount (a : Nat → Nat) (ca : Nat → ClassId) (st : tSt) (v : Int32) : (cwC a ca st).set 0 (a 0, .inr (7, ([.ref (a 1), .ref (a 3), .ref (a 6), .ref (a 13), .ref (a 26), .ref (a 37), .ref (a 38), .ref (a 39), .int (st 0 0), .int (st 1 0), .int (st 2 0), .int (st 3 0), .int (st 4 0)] : List Value).set 9 (.int v))) = cwC a ca (tUp st 1 0 v) := rfl
theorem sC_tp_today (a : Nat → Nat) (ca : Nat → ClassId) (st : tSt) (v : Int32) : (cwC a ca st).set 0 (a 0, .inr (7, ([.ref (a 1), .ref (a 3), .ref (a 6), .ref (a 13), .ref (a 26), .ref (a 37), .ref (a 38), .ref (a 39), .int (st 0 0), .int (st 1 0), .int (st 2 0), .int (st 3 0), .int (st 4 0)] : List Value).set 10 (.int v))) = cwC a ca (tUp st 2 0 v) := rfl
theorem sC_tp_fund (a : Nat → Nat) (ca : Nat → ClassId) (st : tSt) (v : Int32) : (cwC a ca st).set 0 (a 0, .inr (7, ([.ref (a 1), .ref (a 3), .ref (a 6), .ref (a 13), .ref (a 26), .ref (a 37), .ref (a 38), .ref (a 39), .int (st 0 0), .int (st 1 0), .int (st 2 0), .int (st 3 0), .int (st 4 0)] : List Value).set 11 (.int v))) = cwC a ca (tUp st 3 0 v) := rfl
theorem sC_tp_planned (a : Nat → Nat) (ca : Nat → ClassId) (st : tSt) (v : Int32) : (cwC a ca st).set 0 (a 0, .inr (7, ([.ref (a 1), .ref (a 3), .ref (a 6), .ref (a 13), .ref (a 26), .ref (a 37), .ref (a 38), .ref (a 39), .int (st 0 0), .int (st 1 0), .int (st 2 0), .int (st 3 0), .int (st 4 0)] : List Value).set 12 (.int v))) = cwC a ca (tUp st 4 0 v) := rfl
theorem cC_tape (a : Nat → Nat) (ca : Nat → ClassId) (st : tSt) : (cwC a ca st)[1]? = some (a 1, .inr (4, [.ref (a 2), .int (st 5 0)])) := rfl
theorem sC_tape_length (a : Nat → Nat) (ca : Nat → ClassId) (st : tSt) (v : Int32) : (cwC a ca st).set 1 (a 1, .inr (4, ([.ref (a 2), .int (st 5 0)] : List Value).set 1 (.int v))) = cwC a ca (tUp st 5 0 v) := rfl
theorem cC_bytes (a : Nat → Nat) (ca : Nat → ClassId) (st : tSt) : (cwC a ca st)[2]? = some (a 2, .inl (ca 0, 40, .inl (st 6))) := rfl
theorem sC_bytes (a : Nat → Nat) (ca : Nat → ClassId) (st : tSt) (i : Nat) (v : Int32) : (cwC a ca st).set 2 (a 2, .inl (ca 0, 40, .inl (upd (st 6) i v))) = cwC a ca (tUp st 6 i v) := rfl
theorem rC_bytes (a : Nat → Nat) (ca : Nat → ClassId) (st : tSt) (g : Nat → Int32) : (cwC a ca st).set 2 (a 2, .inl (ca 0, 40, .inl g)) = cwC a ca (tUpA st 6 g) := rfl
theorem cC_tw (a : Nat → Nat) (ca : Nat → ClassId) (st : tSt) : (cwC a ca st)[3]? = some (a 3, .inr (5, [.ref (a 4), .ref (a 5)])) := rfl
theorem cC_numbers (a : Nat → Nat) (ca : Nat → ClassId) (st : tSt) : (cwC a ca st)[4]? = some (a 4, .inl (ca 0, 4, .inl (st 7))) := rfl
theorem sC_numbers (a : Nat → Nat) (ca : Nat → ClassId) (st : tSt) (i : Nat) (v : Int32) : (cwC a ca st).set 4 (a 4, .inl (ca 0, 4, .inl (upd (st 7) i v))) = cwC a ca (tUp st 7 i v) := rfl
theorem rC_numbers (a : Nat → Nat) (ca : Nat → ClassId) (st : tSt) (g : Nat → Int32) : (cwC a ca st).set 4 (a 4, .inl (ca 0, 4, .inl g)) = cwC a ca (tUpA st 7 g) := rfl
theorem cC_coming (a : Nat → Nat) (ca : Nat → ClassId) (st : tSt) : (cwC a ca st)[5]? = some (a 5, .inl (ca 0, 4, .inl (st 8))) := rfl
theorem sC_coming (a : Nat → Nat) (ca : Nat → ClassId) (st : tSt) (i : Nat) (v : Int32) : (cwC a ca st).set 5 (a 5, .inl (ca 0, 4, .inl (upd (st 8) i v))) = cwC a ca (tUp st 8 i v) := rfl
theorem rC_coming (a : Nat → Nat) (ca : Nat → ClassId) (st : tSt) (g : Nat → Int32) : (cwC a ca st).set 5 (a 5, .inl (ca 0, 4, .inl g)) = cwC a ca (tUpA st 8 g) := rfl
theorem cC_pipersA (a : Nat → Nat) (ca : Nat → ClassId) (st : tSt) : (cwC a ca st)[6]? = some (a 6, .inl (ca 1, 6, .inr (.inr (.inr (.inr (fun i => some (a (7 + i)))))))) := rfl
theorem cC_piper (a : Nat → Nat) (ca : Nat → ClassId) (st : tSt) {j : Nat} (hj : j < 6) : (cwC a ca st)[7 + j]? = some (a (7 + j), .inr (2, [.int (st 9 j), .int (st 10 j), .int (st 11 j), .int (st 12 j)])) := by
  match j, hj with
  | 0, _ => rfl
  | 1, _ => rfl
  | 2, _ => rfl
  | 3, _ => rfl
  | 4, _ => rfl
  | 5, _ => rfl
  | _ + 6, h => exact absurd h (by omega)
theorem sC_piper_rank (a : Nat → Nat) (ca : Nat → ClassId) (st : tSt) {j : Nat} (hj : j < 6) (v : Int32) : (cwC a ca st).set (7 + j) (a (7 + j), .inr (2, ([.int (st 9 j), .int (st 10 j), .int (st 11 j), .int (st 12 j)] : List Value).set 0 (.int v))) = cwC a ca (tUp st 9 j v) := by
  match j, hj with
  | 0, _ => rfl
  | 1, _ => rfl
  | 2, _ => rfl
  | 3, _ => rfl
  | 4, _ => rfl
  | 5, _ => rfl
  | _ + 6, h => exact absurd h (by omega)
theorem sC_piper_plays (a : Nat → Nat) (ca : Nat → ClassId) (st : tSt) {j : Nat} (hj : j < 6) (v : Int32) : (cwC a ca st).set (7 + j) (a (7 + j), .inr (2, ([.int (st 9 j), .int (st 10 j), .int (st 11 j), .int (st 12 j)] : List Value).set 1 (.int v))) = cwC a ca (tUp st 10 j v) := by
  match j, hj with
  | 0, _ => rfl
  | 1, _ => rfl
  | 2, _ => rfl
  | 3, _ => rfl
  | 4, _ => rfl
  | 5, _ => rfl
  | _ + 6, h => exact absurd h (by omega)
theorem sC_piper_state (a : Nat → Nat) (ca : Nat → ClassId) (st : tSt) {j : Nat} (hj : j < 6) (v : Int32) : (cwC a ca st).set (7 + j) (a (7 + j), .inr (2, ([.int (st 9 j), .int (st 10 j), .int (st 11 j), .int (st 12 j)] : List Value).set 2 (.int v))) = cwC a ca (tUp st 11 j v) := by
  match j, hj with
  | 0, _ => rfl
  | 1, _ => rfl
  | 2, _ => rfl
  | 3, _ => rfl
  | 4, _ => rfl
  | 5, _ => rfl
  | _ + 6, h => exact absurd h (by omega)
theorem sC_piper_wages (a : Nat → Nat) (ca : Nat → ClassId) (st : tSt) {j : Nat} (hj : j < 6) (v : Int32) : (cwC a ca st).set (7 + j) (a (7 + j), .inr (2, ([.int (st 9 j), .int (st 10 j), .int (st 11 j), .int (st 12 j)] : List Value).set 3 (.int v))) = cwC a ca (tUp st 12 j v) := by
  match j, hj with
  | 0, _ => rfl
  | 1, _ => rfl
  | 2, _ => rfl
  | 3, _ => rfl
  | 4, _ => rfl
  | 5, _ => rfl
  | _ + 6, h => exact absurd h (by omega)
theorem cC_callsA (a : Nat → Nat) (ca : Nat → ClassId) (st : tSt) : (cwC a ca st)[13]? = some (a 13, .inl (ca 2, 6, .inr (.inr (.inr (.inr (fun i => some (a (14 + i)))))))) := rfl
theorem cC_call (a : Nat → Nat) (ca : Nat → ClassId) (st : tSt) {j : Nat} (hj : j < 6) : (cwC a ca st)[14 + j]? = some (a (14 + j), .inr (0, [.ref (a (20 + j)), .int (st 13 j)])) := by
  match j, hj with
  | 0, _ => rfl
  | 1, _ => rfl
  | 2, _ => rfl
  | 3, _ => rfl
  | 4, _ => rfl
  | 5, _ => rfl
  | _ + 6, h => exact absurd h (by omega)
theorem sC_call_there (a : Nat → Nat) (ca : Nat → ClassId) (st : tSt) {j : Nat} (hj : j < 6) (v : Int32) : (cwC a ca st).set (14 + j) (a (14 + j), .inr (0, ([.ref (a (20 + j)), .int (st 13 j)] : List Value).set 1 (.int v))) = cwC a ca (tUp st 13 j v) := by
  match j, hj with
  | 0, _ => rfl
  | 1, _ => rfl
  | 2, _ => rfl
  | 3, _ => rfl
  | 4, _ => rfl
  | 5, _ => rfl
  | _ + 6, h => exact absurd h (by omega)
theorem cC_facts (a : Nat → Nat) (ca : Nat → ClassId) (st : tSt) {j : Nat} (hj : j < 6) : (cwC a ca st)[20 + j]? = some (a (20 + j), .inl (ca 0, 8, .inl (st (14 + j)))) := by
  match j, hj with
  | 0, _ => rfl
  | 1, _ => rfl
  | 2, _ => rfl
  | 3, _ => rfl
  | 4, _ => rfl
  | 5, _ => rfl
  | _ + 6, h => exact absurd h (by omega)
theorem sC_facts (a : Nat → Nat) (ca : Nat → ClassId) (st : tSt) {j : Nat} (hj : j < 6) (i : Nat) (v : Int32) : (cwC a ca st).set (20 + j) (a (20 + j), .inl (ca 0, 8, .inl (upd (st (14 + j)) i v))) = cwC a ca (tUp st (14 + j) i v) := by
  match j, hj with
  | 0, _ => rfl
  | 1, _ => rfl
  | 2, _ => rfl
  | 3, _ => rfl
  | 4, _ => rfl
  | 5, _ => rfl
  | _ + 6, h => exact absurd h (by omega)
theorem rC_facts (a : Nat → Nat) (ca : Nat → ClassId) (st : tSt) {j : Nat} (hj : j < 6) (g : Nat → Int32) : (cwC a ca st).set (20 + j) (a (20 + j), .inl (ca 0, 8, .inl g)) = cwC a ca (tUpA st (14 + j) g) := by
  match j, hj with
  | 0, _ => rfl
  | 1, _ => rfl
  | 2, _ => rfl
  | 3, _ => rfl
  | 4, _ => rfl
  | 5, _ => rfl
  | _ + 6, h => exact absurd h (by omega)
theorem cC_tunesA (a : Nat → Nat) (ca : Nat → ClassId) (st : tSt) : (cwC a ca st)[26]? = some (a 26, .inl (ca 3, 10, .inr (.inr (.inr (.inr (fun i => some (a (27 + i)))))))) := rfl
theorem cC_tune (a : Nat → Nat) (ca : Nat → ClassId) (st : tSt) {j : Nat} (hj : j < 10) : (cwC a ca st)[27 + j]? = some (a (27 + j), .inr (6, [.int (st 20 j), .int (st 21 j), .int (st 22 j)])) := by
  match j, hj with
  | 0, _ => rfl
  | 1, _ => rfl
  | 2, _ => rfl
  | 3, _ => rfl
  | 4, _ => rfl
  | 5, _ => rfl
  | 6, _ => rfl
  | 7, _ => rfl
  | 8, _ => rfl
  | 9, _ => rfl
  | _ + 10, h => exact absurd h (by omega)
theorem sC_tune_occasions (a : Nat → Nat) (ca : Nat → ClassId) (st : tSt) {j : Nat} (hj : j < 10) (v : Int32) : (cwC a ca st).set (27 + j) (a (27 + j), .inr (6, ([.int (st 20 j), .int (st 21 j), .int (st 22 j)] : List Value).set 0 (.int v))) = cwC a ca (tUp st 20 j v) := by
  match j, hj with
  | 0, _ => rfl
  | 1, _ => rfl
  | 2, _ => rfl
  | 3, _ => rfl
  | 4, _ => rfl
  | 5, _ => rfl
  | 6, _ => rfl
  | 7, _ => rfl
  | 8, _ => rfl
  | 9, _ => rfl
  | _ + 10, h => exact absurd h (by omega)
theorem sC_tune_months (a : Nat → Nat) (ca : Nat → ClassId) (st : tSt) {j : Nat} (hj : j < 10) (v : Int32) : (cwC a ca st).set (27 + j) (a (27 + j), .inr (6, ([.int (st 20 j), .int (st 21 j), .int (st 22 j)] : List Value).set 1 (.int v))) = cwC a ca (tUp st 21 j v) := by
  match j, hj with
  | 0, _ => rfl
  | 1, _ => rfl
  | 2, _ => rfl
  | 3, _ => rfl
  | 4, _ => rfl
  | 5, _ => rfl
  | 6, _ => rfl
  | 7, _ => rfl
  | 8, _ => rfl
  | 9, _ => rfl
  | _ + 10, h => exact absurd h (by omega)
theorem sC_tune_lastTurn (a : Nat → Nat) (ca : Nat → ClassId) (st : tSt) {j : Nat} (hj : j < 10) (v : Int32) : (cwC a ca st).set (27 + j) (a (27 + j), .inr (6, ([.int (st 20 j), .int (st 21 j), .int (st 22 j)] : List Value).set 2 (.int v))) = cwC a ca (tUp st 22 j v) := by
  match j, hj with
  | 0, _ => rfl
  | 1, _ => rfl
  | 2, _ => rfl
  | 3, _ => rfl
  | 4, _ => rfl
  | 5, _ => rfl
  | 6, _ => rfl
  | 7, _ => rfl
  | 8, _ => rfl
  | 9, _ => rfl
  | _ + 10, h => exact absurd h (by omega)
theorem cC_piecesOf (a : Nat → Nat) (ca : Nat → ClassId) (st : tSt) : (cwC a ca st)[37]? = some (a 37, .inl (ca 0, 5, .inl (st 23))) := rfl
theorem sC_piecesOf (a : Nat → Nat) (ca : Nat → ClassId) (st : tSt) (i : Nat) (v : Int32) : (cwC a ca st).set 37 (a 37, .inl (ca 0, 5, .inl (upd (st 23) i v))) = cwC a ca (tUp st 23 i v) := rfl
theorem rC_piecesOf (a : Nat → Nat) (ca : Nat → ClassId) (st : tSt) (g : Nat → Int32) : (cwC a ca st).set 37 (a 37, .inl (ca 0, 5, .inl g)) = cwC a ca (tUpA st 23 g) := rfl
theorem cC_asked (a : Nat → Nat) (ca : Nat → ClassId) (st : tSt) : (cwC a ca st)[38]? = some (a 38, .inl (ca 0, 8, .inl (st 24))) := rfl
theorem sC_asked (a : Nat → Nat) (ca : Nat → ClassId) (st : tSt) (i : Nat) (v : Int32) : (cwC a ca st).set 38 (a 38, .inl (ca 0, 8, .inl (upd (st 24) i v))) = cwC a ca (tUp st 24 i v) := rfl
theorem rC_asked (a : Nat → Nat) (ca : Nat → ClassId) (st : tSt) (g : Nat → Int32) : (cwC a ca st).set 38 (a 38, .inl (ca 0, 8, .inl g)) = cwC a ca (tUpA st 24 g) := rfl
theorem cC_plan (a : Nat → Nat) (ca : Nat → ClassId) (st : tSt) : (cwC a ca st)[39]? = some (a 39, .inr (3, [.ref (a 40), .ref (a 41), .ref (a 42), .int (st 26 0)])) := rfl
theorem sC_plan_bits (a : Nat → Nat) (ca : Nat → ClassId) (st : tSt) (v : Int32) : (cwC a ca st).set 39 (a 39, .inr (3, ([.ref (a 40), .ref (a 41), .ref (a 42), .int (st 26 0)] : List Value).set 3 (.int v))) = cwC a ca (tUp st 26 0 v) := rfl
theorem cC_cast (a : Nat → Nat) (ca : Nat → ClassId) (st : tSt) : (cwC a ca st)[40]? = some (a 40, .inr (1, [.ref (a 43), .ref (a 44), .ref (a 45), .ref (a 46), .int (st 27 0)])) := rfl
theorem sC_cast_partCount (a : Nat → Nat) (ca : Nat → ClassId) (st : tSt) (v : Int32) : (cwC a ca st).set 40 (a 40, .inr (1, ([.ref (a 43), .ref (a 44), .ref (a 45), .ref (a 46), .int (st 27 0)] : List Value).set 4 (.int v))) = cwC a ca (tUp st 27 0 v) := rfl
theorem cC_chosenTunes (a : Nat → Nat) (ca : Nat → ClassId) (st : tSt) : (cwC a ca st)[41]? = some (a 41, .inl (ca 0, 6, .inl (st 29))) := rfl
theorem sC_chosenTunes (a : Nat → Nat) (ca : Nat → ClassId) (st : tSt) (i : Nat) (v : Int32) : (cwC a ca st).set 41 (a 41, .inl (ca 0, 6, .inl (upd (st 29) i v))) = cwC a ca (tUp st 29 i v) := rfl
theorem rC_chosenTunes (a : Nat → Nat) (ca : Nat → ClassId) (st : tSt) (g : Nat → Int32) : (cwC a ca st).set 41 (a 41, .inl (ca 0, 6, .inl g)) = cwC a ca (tUpA st 29 g) := rfl
theorem cC_lastTurns (a : Nat → Nat) (ca : Nat → ClassId) (st : tSt) : (cwC a ca st)[42]? = some (a 42, .inl (ca 0, 10, .inl (st 30))) := rfl
theorem sC_lastTurns (a : Nat → Nat) (ca : Nat → ClassId) (st : tSt) (i : Nat) (v : Int32) : (cwC a ca st).set 42 (a 42, .inl (ca 0, 10, .inl (upd (st 30) i v))) = cwC a ca (tUp st 30 i v) := rfl
theorem rC_lastTurns (a : Nat → Nat) (ca : Nat → ClassId) (st : tSt) (g : Nat → Int32) : (cwC a ca st).set 42 (a 42, .inl (ca 0, 10, .inl g)) = cwC a ca (tUpA st 30 g) := rfl
theorem cC_openTo (a : Nat → Nat) (ca : Nat → ClassId) (st : tSt) : (cwC a ca st)[43]? = some (a 43, .inl (ca 0, 6, .inl (st 31))) := rfl
theorem sC_openTo (a : Nat → Nat) (ca : Nat → ClassId) (st : tSt) (i : Nat) (v : Int32) : (cwC a ca st).set 43 (a 43, .inl (ca 0, 6, .inl (upd (st 31) i v))) = cwC a ca (tUp st 31 i v) := rfl
theorem rC_openTo (a : Nat → Nat) (ca : Nat → ClassId) (st : tSt) (g : Nat → Int32) : (cwC a ca st).set 43 (a 43, .inl (ca 0, 6, .inl g)) = cwC a ca (tUpA st 31 g) := rfl
theorem cC_bars (a : Nat → Nat) (ca : Nat → ClassId) (st : tSt) : (cwC a ca st)[44]? = some (a 44, .inl (ca 0, 12, .inl (st 32))) := rfl
theorem sC_bars (a : Nat → Nat) (ca : Nat → ClassId) (st : tSt) (i : Nat) (v : Int32) : (cwC a ca st).set 44 (a 44, .inl (ca 0, 12, .inl (upd (st 32) i v))) = cwC a ca (tUp st 32 i v) := rfl
theorem rC_bars (a : Nat → Nat) (ca : Nat → ClassId) (st : tSt) (g : Nat → Int32) : (cwC a ca st).set 44 (a 44, .inl (ca 0, 12, .inl g)) = cwC a ca (tUpA st 32 g) := rfl
theorem cC_callOf (a : Nat → Nat) (ca : Nat → ClassId) (st : tSt) : (cwC a ca st)[45]? = some (a 45, .inl (ca 0, 12, .inl (st 33))) := rfl
theorem sC_callOf (a : Nat → Nat) (ca : Nat → ClassId) (st : tSt) (i : Nat) (v : Int32) : (cwC a ca st).set 45 (a 45, .inl (ca 0, 12, .inl (upd (st 33) i v))) = cwC a ca (tUp st 33 i v) := rfl
theorem rC_callOf (a : Nat → Nat) (ca : Nat → ClassId) (st : tSt) (g : Nat → Int32) : (cwC a ca st).set 45 (a 45, .inl (ca 0, 12, .inl g)) = cwC a ca (tUpA st 33 g) := rfl
theorem cC_piperFor (a : Nat → Nat) (ca : Nat → ClassId) (st : tSt) : (cwC a ca st)[46]? = some (a 46, .inl (ca 0, 12, .inl (st 34))) := rfl
theorem sC_piperFor (a : Nat → Nat) (ca : Nat → ClassId) (st : tSt) (i : Nat) (v : Int32) : (cwC a ca st).set 46 (a 46, .inl (ca 0, 12, .inl (upd (st 34) i v))) = cwC a ca (tUp st 34 i v) := rfl
theorem rC_piperFor (a : Nat → Nat) (ca : Nat → ClassId) (st : tSt) (g : Nat → Int32) : (cwC a ca st).set 46 (a 46, .inl (ca 0, 12, .inl g)) = cwC a ca (tUpA st 34 g) := rfl
def cwM (a : Nat → Nat) (ca : Nat → ClassId) (st : tSt) : va_W := [(a 0, .inr (8, [.ref (a 1), .int (st 0 0), .int (st 1 0), .int (st 2 0), .int (st 3 0), .int (st 4 0), .int (st 5 0), .ref (a 2), .ref (a 3), .ref (a 4), .ref (a 5), .ref (a 6), .ref (a 7), .ref (a 8), .ref (a 9), .ref (a 10), .ref (a 11), .ref (a 12), .ref (a 13), .int (st 6 0), .int (st 7 0), .int (st 8 0), .ref (a 14), .ref (a 15), .ref (a 16), .ref (a 17), .ref (a 18), .ref (a 19), .ref (a 20)])),
  (a 1, .inl (ca 4, 40, .inl (st 9))),
  (a 2, .inl (ca 0, 4, .inl (st 10))),
  (a 3, .inl (ca 0, 4, .inl (st 11))),
  (a 4, .inl (ca 0, 6, .inl (st 12))),
  (a 5, .inl (ca 0, 6, .inl (st 13))),
  (a 6, .inl (ca 0, 6, .inl (st 14))),
  (a 7, .inl (ca 0, 6, .inl (st 15))),
  (a 8, .inl (ca 0, 5, .inl (st 16))),
  (a 9, .inl (ca 0, 48, .inl (st 17))),
  (a 10, .inl (ca 0, 10, .inl (st 18))),
  (a 11, .inl (ca 0, 10, .inl (st 19))),
  (a 12, .inl (ca 0, 10, .inl (st 20))),
  (a 13, .inl (ca 0, 10, .inl (st 21))),
  (a 14, .inl (ca 0, 6, .inl (st 22))),
  (a 15, .inl (ca 0, 12, .inl (st 23))),
  (a 16, .inl (ca 0, 12, .inl (st 24))),
  (a 17, .inl (ca 0, 12, .inl (st 25))),
  (a 18, .inl (ca 0, 12, .inl (st 26))),
  (a 19, .inl (ca 0, 6, .inl (st 27))),
  (a 20, .inl (ca 0, 10, .inl (st 28)))]
theorem cM_dom (a : Nat → Nat) (ca : Nat → ClassId) (st : tSt) : (cwM a ca st).map (fun q => q.1) = (List.range 21).map a := rfl
theorem cM_D {dC : Nat → ClassId} {dI : Nat → Nat → Nat} {a : Nat → Nat} {ca : Nat → ClassId} {tb : Nat → Nat} {s : State} (E : tEnv 21 dC dI a ca tb s) (st : tSt) : va_D (tA 21 a s.heap.size) (cwM a ca st) := tD (cM_dom a ca st) E.2.2.2.1
theorem cM_mo (a : Nat → Nat) (ca : Nat → ClassId) (st : tSt) : (cwM a ca st)[0]? = some (a 0, .inr (8, [.ref (a 1), .int (st 0 0), .int (st 1 0), .int (st 2 0), .int (st 3 0), .int (st 4 0), .int (st 5 0), .ref (a 2), .ref (a 3), .ref (a 4), .ref (a 5), .ref (a 6), .ref (a 7), .ref (a 8), .ref (a 9), .ref (a 10), .ref (a 11), .ref (a 12), .ref (a 13), .int (st 6 0), .int (st 7 0), .int (st 8 0), .ref (a 14), .ref (a 15), .ref (a 16), .ref (a 17), .ref (a 18), .ref (a 19), .ref (a 20)])) := rfl
theorem sM_mo_taped (a : Nat → Nat) (ca : Nat → ClassId) (st : tSt) (v : Int32) : (cwM a ca st).set 0 (a 0, .inr (8, ([.ref (a 1), .int (st 0 0), .int (st 1 0), .int (st 2 0), .int (st 3 0), .int (st 4 0), .int (st 5 0), .ref (a 2), .ref (a 3), .ref (a 4), .ref (a 5), .ref (a 6), .ref (a 7), .ref (a 8), .ref (a 9), .ref (a 10), .ref (a 11), .ref (a 12), .ref (a 13), .int (st 6 0), .int (st 7 0), .int (st 8 0), .ref (a 14), .ref (a 15), .ref (a 16), .ref (a 17), .ref (a 18), .ref (a 19), .ref (a 20)] : List Value).set 1 (.int v))) = cwM a ca (tUp st 0 0 v) := rfl
theorem sM_mo_today (a : Nat → Nat) (ca : Nat → ClassId) (st : tSt) (v : Int32) : (cwM a ca st).set 0 (a 0, .inr (8, ([.ref (a 1), .int (st 0 0), .int (st 1 0), .int (st 2 0), .int (st 3 0), .int (st 4 0), .int (st 5 0), .ref (a 2), .ref (a 3), .ref (a 4), .ref (a 5), .ref (a 6), .ref (a 7), .ref (a 8), .ref (a 9), .ref (a 10), .ref (a 11), .ref (a 12), .ref (a 13), .int (st 6 0), .int (st 7 0), .int (st 8 0), .ref (a 14), .ref (a 15), .ref (a 16), .ref (a 17), .ref (a 18), .ref (a 19), .ref (a 20)] : List Value).set 2 (.int v))) = cwM a ca (tUp st 1 0 v) := rfl
theorem sM_mo_pipers (a : Nat → Nat) (ca : Nat → ClassId) (st : tSt) (v : Int32) : (cwM a ca st).set 0 (a 0, .inr (8, ([.ref (a 1), .int (st 0 0), .int (st 1 0), .int (st 2 0), .int (st 3 0), .int (st 4 0), .int (st 5 0), .ref (a 2), .ref (a 3), .ref (a 4), .ref (a 5), .ref (a 6), .ref (a 7), .ref (a 8), .ref (a 9), .ref (a 10), .ref (a 11), .ref (a 12), .ref (a 13), .int (st 6 0), .int (st 7 0), .int (st 8 0), .ref (a 14), .ref (a 15), .ref (a 16), .ref (a 17), .ref (a 18), .ref (a 19), .ref (a 20)] : List Value).set 3 (.int v))) = cwM a ca (tUp st 2 0 v) := rfl
theorem sM_mo_tunes (a : Nat → Nat) (ca : Nat → ClassId) (st : tSt) (v : Int32) : (cwM a ca st).set 0 (a 0, .inr (8, ([.ref (a 1), .int (st 0 0), .int (st 1 0), .int (st 2 0), .int (st 3 0), .int (st 4 0), .int (st 5 0), .ref (a 2), .ref (a 3), .ref (a 4), .ref (a 5), .ref (a 6), .ref (a 7), .ref (a 8), .ref (a 9), .ref (a 10), .ref (a 11), .ref (a 12), .ref (a 13), .int (st 6 0), .int (st 7 0), .int (st 8 0), .ref (a 14), .ref (a 15), .ref (a 16), .ref (a 17), .ref (a 18), .ref (a 19), .ref (a 20)] : List Value).set 4 (.int v))) = cwM a ca (tUp st 3 0 v) := rfl
theorem sM_mo_fund (a : Nat → Nat) (ca : Nat → ClassId) (st : tSt) (v : Int32) : (cwM a ca st).set 0 (a 0, .inr (8, ([.ref (a 1), .int (st 0 0), .int (st 1 0), .int (st 2 0), .int (st 3 0), .int (st 4 0), .int (st 5 0), .ref (a 2), .ref (a 3), .ref (a 4), .ref (a 5), .ref (a 6), .ref (a 7), .ref (a 8), .ref (a 9), .ref (a 10), .ref (a 11), .ref (a 12), .ref (a 13), .int (st 6 0), .int (st 7 0), .int (st 8 0), .ref (a 14), .ref (a 15), .ref (a 16), .ref (a 17), .ref (a 18), .ref (a 19), .ref (a 20)] : List Value).set 5 (.int v))) = cwM a ca (tUp st 4 0 v) := rfl
theorem sM_mo_stamps (a : Nat → Nat) (ca : Nat → ClassId) (st : tSt) (v : Int32) : (cwM a ca st).set 0 (a 0, .inr (8, ([.ref (a 1), .int (st 0 0), .int (st 1 0), .int (st 2 0), .int (st 3 0), .int (st 4 0), .int (st 5 0), .ref (a 2), .ref (a 3), .ref (a 4), .ref (a 5), .ref (a 6), .ref (a 7), .ref (a 8), .ref (a 9), .ref (a 10), .ref (a 11), .ref (a 12), .ref (a 13), .int (st 6 0), .int (st 7 0), .int (st 8 0), .ref (a 14), .ref (a 15), .ref (a 16), .ref (a 17), .ref (a 18), .ref (a 19), .ref (a 20)] : List Value).set 6 (.int v))) = cwM a ca (tUp st 5 0 v) := rfl
theorem sM_mo_many (a : Nat → Nat) (ca : Nat → ClassId) (st : tSt) (v : Int32) : (cwM a ca st).set 0 (a 0, .inr (8, ([.ref (a 1), .int (st 0 0), .int (st 1 0), .int (st 2 0), .int (st 3 0), .int (st 4 0), .int (st 5 0), .ref (a 2), .ref (a 3), .ref (a 4), .ref (a 5), .ref (a 6), .ref (a 7), .ref (a 8), .ref (a 9), .ref (a 10), .ref (a 11), .ref (a 12), .ref (a 13), .int (st 6 0), .int (st 7 0), .int (st 8 0), .ref (a 14), .ref (a 15), .ref (a 16), .ref (a 17), .ref (a 18), .ref (a 19), .ref (a 20)] : List Value).set 19 (.int v))) = cwM a ca (tUp st 6 0 v) := rfl
theorem sM_mo_set (a : Nat → Nat) (ca : Nat → ClassId) (st : tSt) (v : Int32) : (cwM a ca st).set 0 (a 0, .inr (8, ([.ref (a 1), .int (st 0 0), .int (st 1 0), .int (st 2 0), .int (st 3 0), .int (st 4 0), .int (st 5 0), .ref (a 2), .ref (a 3), .ref (a 4), .ref (a 5), .ref (a 6), .ref (a 7), .ref (a 8), .ref (a 9), .ref (a 10), .ref (a 11), .ref (a 12), .ref (a 13), .int (st 6 0), .int (st 7 0), .int (st 8 0), .ref (a 14), .ref (a 15), .ref (a 16), .ref (a 17), .ref (a 18), .ref (a 19), .ref (a 20)] : List Value).set 20 (.int v))) = cwM a ca (tUp st 7 0 v) := rfl
theorem sM_mo_parts (a : Nat → Nat) (ca : Nat → ClassId) (st : tSt) (v : Int32) : (cwM a ca st).set 0 (a 0, .inr (8, ([.ref (a 1), .int (st 0 0), .int (st 1 0), .int (st 2 0), .int (st 3 0), .int (st 4 0), .int (st 5 0), .ref (a 2), .ref (a 3), .ref (a 4), .ref (a 5), .ref (a 6), .ref (a 7), .ref (a 8), .ref (a 9), .ref (a 10), .ref (a 11), .ref (a 12), .ref (a 13), .int (st 6 0), .int (st 7 0), .int (st 8 0), .ref (a 14), .ref (a 15), .ref (a 16), .ref (a 17), .ref (a 18), .ref (a 19), .ref (a 20)] : List Value).set 21 (.int v))) = cwM a ca (tUp st 8 0 v) := rfl
theorem cM_tape (a : Nat → Nat) (ca : Nat → ClassId) (st : tSt) : (cwM a ca st)[1]? = some (a 1, .inl (ca 4, 40, .inl (st 9))) := rfl
theorem sM_tape (a : Nat → Nat) (ca : Nat → ClassId) (st : tSt) (i : Nat) (v : Int32) : (cwM a ca st).set 1 (a 1, .inl (ca 4, 40, .inl (upd (st 9) i v))) = cwM a ca (tUp st 9 i v) := rfl
theorem rM_tape (a : Nat → Nat) (ca : Nat → ClassId) (st : tSt) (g : Nat → Int32) : (cwM a ca st).set 1 (a 1, .inl (ca 4, 40, .inl g)) = cwM a ca (tUpA st 9 g) := rfl
theorem cM_four (a : Nat → Nat) (ca : Nat → ClassId) (st : tSt) {j : Nat} (hj : j < 2) : (cwM a ca st)[2 + j]? = some (a (2 + j), .inl (ca 0, 4, .inl (st (10 + j)))) := by
  match j, hj with
  | 0, _ => rfl
  | 1, _ => rfl
  | _ + 2, h => exact absurd h (by omega)
theorem sM_four (a : Nat → Nat) (ca : Nat → ClassId) (st : tSt) {j : Nat} (hj : j < 2) (i : Nat) (v : Int32) : (cwM a ca st).set (2 + j) (a (2 + j), .inl (ca 0, 4, .inl (upd (st (10 + j)) i v))) = cwM a ca (tUp st (10 + j) i v) := by
  match j, hj with
  | 0, _ => rfl
  | 1, _ => rfl
  | _ + 2, h => exact absurd h (by omega)
theorem rM_four (a : Nat → Nat) (ca : Nat → ClassId) (st : tSt) {j : Nat} (hj : j < 2) (g : Nat → Int32) : (cwM a ca st).set (2 + j) (a (2 + j), .inl (ca 0, 4, .inl g)) = cwM a ca (tUpA st (10 + j) g) := by
  match j, hj with
  | 0, _ => rfl
  | 1, _ => rfl
  | _ + 2, h => exact absurd h (by omega)
theorem cM_rank (a : Nat → Nat) (ca : Nat → ClassId) (st : tSt) : (cwM a ca st)[4]? = some (a 4, .inl (ca 0, 6, .inl (st 12))) := rfl
theorem sM_rank (a : Nat → Nat) (ca : Nat → ClassId) (st : tSt) (i : Nat) (v : Int32) : (cwM a ca st).set 4 (a 4, .inl (ca 0, 6, .inl (upd (st 12) i v))) = cwM a ca (tUp st 12 i v) := rfl
theorem rM_rank (a : Nat → Nat) (ca : Nat → ClassId) (st : tSt) (g : Nat → Int32) : (cwM a ca st).set 4 (a 4, .inl (ca 0, 6, .inl g)) = cwM a ca (tUpA st 12 g) := rfl
theorem cM_plays (a : Nat → Nat) (ca : Nat → ClassId) (st : tSt) : (cwM a ca st)[5]? = some (a 5, .inl (ca 0, 6, .inl (st 13))) := rfl
theorem sM_plays (a : Nat → Nat) (ca : Nat → ClassId) (st : tSt) (i : Nat) (v : Int32) : (cwM a ca st).set 5 (a 5, .inl (ca 0, 6, .inl (upd (st 13) i v))) = cwM a ca (tUp st 13 i v) := rfl
theorem rM_plays (a : Nat → Nat) (ca : Nat → ClassId) (st : tSt) (g : Nat → Int32) : (cwM a ca st).set 5 (a 5, .inl (ca 0, 6, .inl g)) = cwM a ca (tUpA st 13 g) := rfl
theorem cM_how (a : Nat → Nat) (ca : Nat → ClassId) (st : tSt) : (cwM a ca st)[6]? = some (a 6, .inl (ca 0, 6, .inl (st 14))) := rfl
theorem sM_how (a : Nat → Nat) (ca : Nat → ClassId) (st : tSt) (i : Nat) (v : Int32) : (cwM a ca st).set 6 (a 6, .inl (ca 0, 6, .inl (upd (st 14) i v))) = cwM a ca (tUp st 14 i v) := rfl
theorem rM_how (a : Nat → Nat) (ca : Nat → ClassId) (st : tSt) (g : Nat → Int32) : (cwM a ca st).set 6 (a 6, .inl (ca 0, 6, .inl g)) = cwM a ca (tUpA st 14 g) := rfl
theorem cM_wages (a : Nat → Nat) (ca : Nat → ClassId) (st : tSt) : (cwM a ca st)[7]? = some (a 7, .inl (ca 0, 6, .inl (st 15))) := rfl
theorem sM_wages (a : Nat → Nat) (ca : Nat → ClassId) (st : tSt) (i : Nat) (v : Int32) : (cwM a ca st).set 7 (a 7, .inl (ca 0, 6, .inl (upd (st 15) i v))) = cwM a ca (tUp st 15 i v) := rfl
theorem rM_wages (a : Nat → Nat) (ca : Nat → ClassId) (st : tSt) (g : Nat → Int32) : (cwM a ca st).set 7 (a 7, .inl (ca 0, 6, .inl g)) = cwM a ca (tUpA st 15 g) := rfl
theorem cM_pieces (a : Nat → Nat) (ca : Nat → ClassId) (st : tSt) : (cwM a ca st)[8]? = some (a 8, .inl (ca 0, 5, .inl (st 16))) := rfl
theorem sM_pieces (a : Nat → Nat) (ca : Nat → ClassId) (st : tSt) (i : Nat) (v : Int32) : (cwM a ca st).set 8 (a 8, .inl (ca 0, 5, .inl (upd (st 16) i v))) = cwM a ca (tUp st 16 i v) := rfl
theorem rM_pieces (a : Nat → Nat) (ca : Nat → ClassId) (st : tSt) (g : Nat → Int32) : (cwM a ca st).set 8 (a 8, .inl (ca 0, 5, .inl g)) = cwM a ca (tUpA st 16 g) := rfl
theorem cM_call (a : Nat → Nat) (ca : Nat → ClassId) (st : tSt) : (cwM a ca st)[9]? = some (a 9, .inl (ca 0, 48, .inl (st 17))) := rfl
theorem sM_call (a : Nat → Nat) (ca : Nat → ClassId) (st : tSt) (i : Nat) (v : Int32) : (cwM a ca st).set 9 (a 9, .inl (ca 0, 48, .inl (upd (st 17) i v))) = cwM a ca (tUp st 17 i v) := rfl
theorem rM_call (a : Nat → Nat) (ca : Nat → ClassId) (st : tSt) (g : Nat → Int32) : (cwM a ca st).set 9 (a 9, .inl (ca 0, 48, .inl g)) = cwM a ca (tUpA st 17 g) := rfl
theorem cM_fits (a : Nat → Nat) (ca : Nat → ClassId) (st : tSt) : (cwM a ca st)[10]? = some (a 10, .inl (ca 0, 10, .inl (st 18))) := rfl
theorem sM_fits (a : Nat → Nat) (ca : Nat → ClassId) (st : tSt) (i : Nat) (v : Int32) : (cwM a ca st).set 10 (a 10, .inl (ca 0, 10, .inl (upd (st 18) i v))) = cwM a ca (tUp st 18 i v) := rfl
theorem rM_fits (a : Nat → Nat) (ca : Nat → ClassId) (st : tSt) (g : Nat → Int32) : (cwM a ca st).set 10 (a 10, .inl (ca 0, 10, .inl g)) = cwM a ca (tUpA st 18 g) := rfl
theorem cM_months (a : Nat → Nat) (ca : Nat → ClassId) (st : tSt) : (cwM a ca st)[11]? = some (a 11, .inl (ca 0, 10, .inl (st 19))) := rfl
theorem sM_months (a : Nat → Nat) (ca : Nat → ClassId) (st : tSt) (i : Nat) (v : Int32) : (cwM a ca st).set 11 (a 11, .inl (ca 0, 10, .inl (upd (st 19) i v))) = cwM a ca (tUp st 19 i v) := rfl
theorem rM_months (a : Nat → Nat) (ca : Nat → ClassId) (st : tSt) (g : Nat → Int32) : (cwM a ca st).set 11 (a 11, .inl (ca 0, 10, .inl g)) = cwM a ca (tUpA st 19 g) := rfl
theorem cM_heardDay (a : Nat → Nat) (ca : Nat → ClassId) (st : tSt) : (cwM a ca st)[12]? = some (a 12, .inl (ca 0, 10, .inl (st 20))) := rfl
theorem sM_heardDay (a : Nat → Nat) (ca : Nat → ClassId) (st : tSt) (i : Nat) (v : Int32) : (cwM a ca st).set 12 (a 12, .inl (ca 0, 10, .inl (upd (st 20) i v))) = cwM a ca (tUp st 20 i v) := rfl
theorem rM_heardDay (a : Nat → Nat) (ca : Nat → ClassId) (st : tSt) (g : Nat → Int32) : (cwM a ca st).set 12 (a 12, .inl (ca 0, 10, .inl g)) = cwM a ca (tUpA st 20 g) := rfl
theorem cM_heardAs (a : Nat → Nat) (ca : Nat → ClassId) (st : tSt) : (cwM a ca st)[13]? = some (a 13, .inl (ca 0, 10, .inl (st 21))) := rfl
theorem sM_heardAs (a : Nat → Nat) (ca : Nat → ClassId) (st : tSt) (i : Nat) (v : Int32) : (cwM a ca st).set 13 (a 13, .inl (ca 0, 10, .inl (upd (st 21) i v))) = cwM a ca (tUp st 21 i v) := rfl
theorem rM_heardAs (a : Nat → Nat) (ca : Nat → ClassId) (st : tSt) (g : Nat → Int32) : (cwM a ca st).set 13 (a 13, .inl (ca 0, 10, .inl g)) = cwM a ca (tUpA st 21 g) := rfl
theorem cM_row (a : Nat → Nat) (ca : Nat → ClassId) (st : tSt) : (cwM a ca st)[14]? = some (a 14, .inl (ca 0, 6, .inl (st 22))) := rfl
theorem sM_row (a : Nat → Nat) (ca : Nat → ClassId) (st : tSt) (i : Nat) (v : Int32) : (cwM a ca st).set 14 (a 14, .inl (ca 0, 6, .inl (upd (st 22) i v))) = cwM a ca (tUp st 22 i v) := rfl
theorem rM_row (a : Nat → Nat) (ca : Nat → ClassId) (st : tSt) (g : Nat → Int32) : (cwM a ca st).set 14 (a 14, .inl (ca 0, 6, .inl g)) = cwM a ca (tUpA st 22 g) := rfl
theorem cM_partCall (a : Nat → Nat) (ca : Nat → ClassId) (st : tSt) : (cwM a ca st)[15]? = some (a 15, .inl (ca 0, 12, .inl (st 23))) := rfl
theorem sM_partCall (a : Nat → Nat) (ca : Nat → ClassId) (st : tSt) (i : Nat) (v : Int32) : (cwM a ca st).set 15 (a 15, .inl (ca 0, 12, .inl (upd (st 23) i v))) = cwM a ca (tUp st 23 i v) := rfl
theorem rM_partCall (a : Nat → Nat) (ca : Nat → ClassId) (st : tSt) (g : Nat → Int32) : (cwM a ca st).set 15 (a 15, .inl (ca 0, 12, .inl g)) = cwM a ca (tUpA st 23 g) := rfl
theorem cM_partOf (a : Nat → Nat) (ca : Nat → ClassId) (st : tSt) : (cwM a ca st)[16]? = some (a 16, .inl (ca 0, 12, .inl (st 24))) := rfl
theorem sM_partOf (a : Nat → Nat) (ca : Nat → ClassId) (st : tSt) (i : Nat) (v : Int32) : (cwM a ca st).set 16 (a 16, .inl (ca 0, 12, .inl (upd (st 24) i v))) = cwM a ca (tUp st 24 i v) := rfl
theorem rM_partOf (a : Nat → Nat) (ca : Nat → ClassId) (st : tSt) (g : Nat → Int32) : (cwM a ca st).set 16 (a 16, .inl (ca 0, 12, .inl g)) = cwM a ca (tUpA st 24 g) := rfl
theorem cM_taker (a : Nat → Nat) (ca : Nat → ClassId) (st : tSt) : (cwM a ca st)[17]? = some (a 17, .inl (ca 0, 12, .inl (st 25))) := rfl
theorem sM_taker (a : Nat → Nat) (ca : Nat → ClassId) (st : tSt) (i : Nat) (v : Int32) : (cwM a ca st).set 17 (a 17, .inl (ca 0, 12, .inl (upd (st 25) i v))) = cwM a ca (tUp st 25 i v) := rfl
theorem rM_taker (a : Nat → Nat) (ca : Nat → ClassId) (st : tSt) (g : Nat → Int32) : (cwM a ca st).set 17 (a 17, .inl (ca 0, 12, .inl g)) = cwM a ca (tUpA st 25 g) := rfl
theorem cM_blame (a : Nat → Nat) (ca : Nat → ClassId) (st : tSt) : (cwM a ca st)[18]? = some (a 18, .inl (ca 0, 12, .inl (st 26))) := rfl
theorem sM_blame (a : Nat → Nat) (ca : Nat → ClassId) (st : tSt) (i : Nat) (v : Int32) : (cwM a ca st).set 18 (a 18, .inl (ca 0, 12, .inl (upd (st 26) i v))) = cwM a ca (tUp st 26 i v) := rfl
theorem rM_blame (a : Nat → Nat) (ca : Nat → ClassId) (st : tSt) (g : Nat → Int32) : (cwM a ca st).set 18 (a 18, .inl (ca 0, 12, .inl g)) = cwM a ca (tUpA st 26 g) := rfl
theorem cM_has (a : Nat → Nat) (ca : Nat → ClassId) (st : tSt) : (cwM a ca st)[19]? = some (a 19, .inl (ca 0, 6, .inl (st 27))) := rfl
theorem sM_has (a : Nat → Nat) (ca : Nat → ClassId) (st : tSt) (i : Nat) (v : Int32) : (cwM a ca st).set 19 (a 19, .inl (ca 0, 6, .inl (upd (st 27) i v))) = cwM a ca (tUp st 27 i v) := rfl
theorem rM_has (a : Nat → Nat) (ca : Nat → ClassId) (st : tSt) (g : Nat → Int32) : (cwM a ca st).set 19 (a 19, .inl (ca 0, 6, .inl g)) = cwM a ca (tUpA st 27 g) := rfl
theorem cM_turn (a : Nat → Nat) (ca : Nat → ClassId) (st : tSt) : (cwM a ca st)[20]? = some (a 20, .inl (ca 0, 10, .inl (st 28))) := rfl
theorem sM_turn (a : Nat → Nat) (ca : Nat → ClassId) (st : tSt) (i : Nat) (v : Int32) : (cwM a ca st).set 20 (a 20, .inl (ca 0, 10, .inl (upd (st 28) i v))) = cwM a ca (tUp st 28 i v) := rfl
theorem rM_turn (a : Nat → Nat) (ca : Nat → ClassId) (st : tSt) (g : Nat → Int32) : (cwM a ca st).set 20 (a 20, .inl (ca 0, 10, .inl g)) = cwM a ca (tUpA st 28 g) := rfl
