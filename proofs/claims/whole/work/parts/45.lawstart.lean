theorem kw_686 : Cond.instantiable RX7 13 ∈ tWALL := tin1 (List.mem_of_getElem? (i := 15) (by decide +kernel)) rfl
theorem kw_687 : Cond.instantiable RX8 29 ∈ tWALL := tin3 (List.mem_of_getElem? (i := 91) (by decide +kernel)) rfl
theorem kw_688 : Cond.code yX7_init cX7_init 2 none ∈ tWALL := tin1 (List.mem_of_getElem? (i := 18) (by decide +kernel)) rfl
theorem kw_689 : Cond.classLink RL 7 RX7 ∈ tWALL := tin1 (List.mem_of_getElem? (i := 14) (by decide +kernel)) rfl
theorem kw_690 : Cond.methodLink RL 9 yX7_init ∈ tWALL := tin1 (List.mem_of_getElem? (i := 16) (by decide +kernel)) rfl
theorem kw_691 : Cond.instanceMethod yX7_init ∈ tWALL := tin1 (List.mem_of_getElem? (i := 17) (by decide +kernel)) rfl
theorem kw_692 : Cond.code yX8_init cX8_init 2 none ∈ tWALL := tin3 (List.mem_of_getElem? (i := 94) (by decide +kernel)) rfl
theorem kw_693 : Cond.classLink RL 10 RX8 ∈ tWALL := tin3 (List.mem_of_getElem? (i := 90) (by decide +kernel)) rfl
theorem kw_694 : Cond.methodLink RL 12 yX8_init ∈ tWALL := tin3 (List.mem_of_getElem? (i := 92) (by decide +kernel)) rfl
theorem kw_695 : Cond.instanceMethod yX8_init ∈ tWALL := tin3 (List.mem_of_getElem? (i := 93) (by decide +kernel)) rfl
theorem lw_nst {b : Nat} {s : State} (hts : ∀ w ∈ lw_tbl, w.before #[Value.ref b] s = true) : tNst s := by
  intro w hw
  have h1 := hts w (tNEST_in hw)
  have h2 := (List.mem_filter.mp hw).2
  cases w <;> first | exact va_Nw.of rfl h1 | cases h2
theorem lw_left {D : va_G} {cl : List vw_C} {w1 w2 : va_W} {H : Heap} (h : va_P D cl (w1 ++ w2) H) : va_P D cl w1 H := fun k x hk => h k x (by rw [List.getElem?_append_left (List.getElem?_eq_some_iff.mp hk).1]; exact hk)
theorem lw_rgt {w1 w2 : va_W} {k : Nat} {x : Nat × va_E} (hk : w2[k]? = some x) : (w1 ++ w2)[w1.length + k]? = some x := by
  rw [List.getElem?_append_right (by omega)]
  rw [show w1.length + k - w1.length = k by omega]
  exact hk
theorem lw_right {D : va_G} {cl : List vw_C} {w1 w2 : va_W} {H : Heap} (h : va_P D cl (w1 ++ w2) H) : va_P D cl w2 H := fun k x hk => h _ x (lw_rgt hk)
theorem lw_apart {A : Nat → Prop} {w1 w2 : va_W} {n1 n2 : Nat} {a1 a2 : Nat → Nat} (hD : va_D A (w1 ++ w2)) (h1 : w1.map (fun q => q.1) = (List.range n1).map a1) (h2 : w2.map (fun q => q.1) = (List.range n2).map a2) :
    ((∀ i j, i < n1 → j < n1 → a1 i = a1 j → i = j) ∧ ∀ i, i < n1 → A (a1 i)) ∧ ((∀ i j, i < n2 → j < n2 → a2 i = a2 j → i = j) ∧ ∀ i, i < n2 → A (a2 i)) ∧ ∀ i j, i < n1 → j < n2 → a1 i ≠ a2 j := by
  have l1 : w1.length = n1 := by have := congrArg List.length h1; simpa using this
  have L : ∀ i, i < n1 → ∃ q, (w1 ++ w2)[i]? = some q ∧ q.1 = a1 i := by
    intro i hi
    obtain ⟨q, hq, e⟩ := lw_at h1 i hi
    exact ⟨q, by rw [List.getElem?_append_left (by omega)]; exact hq, e⟩
  have R : ∀ i, i < n2 → ∃ q, (w1 ++ w2)[w1.length + i]? = some q ∧ q.1 = a2 i := by
    intro i hi
    obtain ⟨q, hq, e⟩ := lw_at h2 i hi
    exact ⟨q, lw_rgt hq, e⟩
  refine ⟨⟨fun i j hi hj e => ?_, fun i hi => ?_⟩, ⟨fun i j hi hj e => ?_, fun i hi => ?_⟩, fun i j hi hj e => ?_⟩
  · obtain ⟨x, hx, ex⟩ := L i hi
    obtain ⟨y, hy, ey⟩ := L j hj
    exact hD.1 i j x y hx hy (by rw [ex, ey]; exact e)
  · obtain ⟨x, hx, ex⟩ := L i hi
    rw [← ex]
    exact hD.2 i x hx
  · obtain ⟨x, hx, ex⟩ := R i hi
    obtain ⟨y, hy, ey⟩ := R j hj
    have := hD.1 _ _ x y hx hy (by rw [ex, ey]; exact e)
    omega
  · obtain ⟨x, hx, ex⟩ := R i hi
    rw [← ex]
    exact hD.2 _ x hx
  · obtain ⟨x, hx, ex⟩ := L i hi
    obtain ⟨y, hy, ey⟩ := R j hj
    have := hD.1 _ _ x y hx hy (by rw [ex, ey]; exact e)
    omega
theorem lw_tab_LETTERS {b : Nat} {s : State} (hts : ∀ w ∈ lw_tbl, w.before #[Value.ref b] s = true) (hgv : (Jvm.Cond.and given_1 narrow_1).before #[Value.ref b] s = true) : ∃ t : Nat, tTb1 "TowerPipers$TownWord" "LETTERS" "[C" .char t 4 tab_LETTERS (fun q => s.heap.size ≤ q) s s.heap := by
  have hs := flat_of_before _ hgv
  have hA : ∀ a : Nat, a < s.heap.size → ¬ (fun q => s.heap.size ≤ q) a := fun a h => Nat.not_le.mpr h
  obtain ⟨t, h1, h2⟩ := va_Tof (tm := (Term.static "TowerPipers$TownWord" "LETTERS" "[C")) (ty := .char) (N := 4) (f := fun j => .int (tab_LETTERS j)) (A := fun q => s.heap.size ≤ q) (by decide) (hs (.arrayOf (Term.static "TowerPipers$TownWord" "LETTERS" "[C") .char) (by decide +kernel)) (va_eqt (hs (.eq (.length (Term.static "TowerPipers$TownWord" "LETTERS" "[C")) (.int 4)) (by decide +kernel))) (fun j hj => by
    match j, hj with
    | 0, _ => exact va_eqt (hs (.eq (.elem (Term.static "TowerPipers$TownWord" "LETTERS" "[C") (.int 0)) (.int 119)) (by decide +kernel))
    | 1, _ => exact va_eqt (hs (.eq (.elem (Term.static "TowerPipers$TownWord" "LETTERS" "[C") (.int 1)) (.int 102)) (by decide +kernel))
    | 2, _ => exact va_eqt (hs (.eq (.elem (Term.static "TowerPipers$TownWord" "LETTERS" "[C") (.int 2)) (.int 112)) (by decide +kernel))
    | 3, _ => exact va_eqt (hs (.eq (.elem (Term.static "TowerPipers$TownWord" "LETTERS" "[C") (.int 3)) (.int 103)) (by decide +kernel))
    | _ + 4, h => exact absurd h (by omega)) hA
  exact ⟨t, va_Zref (hts (.laysStatic "TowerPipers$TownWord" "LETTERS" "[C") (List.mem_append_right _ (List.mem_append_left _ (List.mem_of_getElem? (i := 227) (by decide +kernel))))) (hts (.initialized "TowerPipers$TownWord") (tWALL_in kw_14)) h1 hA, h2⟩
theorem lw_tab_AT_FIRST {b : Nat} {s : State} (hts : ∀ w ∈ lw_tbl, w.before #[Value.ref b] s = true) (hgv : (Jvm.Cond.and given_1 narrow_1).before #[Value.ref b] s = true) : ∃ t : Nat, tTb1 "TowerPipers$TownWord" "AT_FIRST" "[I" .int t 4 tab_AT_FIRST (fun q => s.heap.size ≤ q) s s.heap := by
  have hs := flat_of_before _ hgv
  have hA : ∀ a : Nat, a < s.heap.size → ¬ (fun q => s.heap.size ≤ q) a := fun a h => Nat.not_le.mpr h
  obtain ⟨t, h1, h2⟩ := va_Tof (tm := (Term.static "TowerPipers$TownWord" "AT_FIRST" "[I")) (ty := .int) (N := 4) (f := fun j => .int (tab_AT_FIRST j)) (A := fun q => s.heap.size ≤ q) (by decide) (hs (.arrayOf (Term.static "TowerPipers$TownWord" "AT_FIRST" "[I") .int) (by decide +kernel)) (va_eqt (hs (.eq (.length (Term.static "TowerPipers$TownWord" "AT_FIRST" "[I")) (.int 4)) (by decide +kernel))) (fun j hj => by
    match j, hj with
    | 0, _ => exact va_eqt (hs (.eq (.elem (Term.static "TowerPipers$TownWord" "AT_FIRST" "[I") (.int 0)) (.int 1)) (by decide +kernel))
    | 1, _ => exact va_eqt (hs (.eq (.elem (Term.static "TowerPipers$TownWord" "AT_FIRST" "[I") (.int 1)) (.int 10)) (by decide +kernel))
    | 2, _ => exact va_eqt (hs (.eq (.elem (Term.static "TowerPipers$TownWord" "AT_FIRST" "[I") (.int 2)) (.int 100)) (by decide +kernel))
    | 3, _ => exact va_eqt (hs (.eq (.elem (Term.static "TowerPipers$TownWord" "AT_FIRST" "[I") (.int 3)) (.int 50)) (by decide +kernel))
    | _ + 4, h => exact absurd h (by omega)) hA
  exact ⟨t, va_Zref (hts (.laysStatic "TowerPipers$TownWord" "AT_FIRST" "[I") (List.mem_append_right _ (List.mem_append_left _ (List.mem_of_getElem? (i := 212) (by decide +kernel))))) (hts (.initialized "TowerPipers$TownWord") (tWALL_in kw_14)) h1 hA, h2⟩
theorem lw_tab_HIGHEST {b : Nat} {s : State} (hts : ∀ w ∈ lw_tbl, w.before #[Value.ref b] s = true) (hgv : (Jvm.Cond.and given_1 narrow_1).before #[Value.ref b] s = true) : ∃ t : Nat, tTb1 "TowerPipers$TownWord" "HIGHEST" "[I" .int t 4 tab_HIGHEST (fun q => s.heap.size ≤ q) s s.heap := by
  have hs := flat_of_before _ hgv
  have hA : ∀ a : Nat, a < s.heap.size → ¬ (fun q => s.heap.size ≤ q) a := fun a h => Nat.not_le.mpr h
  obtain ⟨t, h1, h2⟩ := va_Tof (tm := (Term.static "TowerPipers$TownWord" "HIGHEST" "[I")) (ty := .int) (N := 4) (f := fun j => .int (tab_HIGHEST j)) (A := fun q => s.heap.size ≤ q) (by decide) (hs (.arrayOf (Term.static "TowerPipers$TownWord" "HIGHEST" "[I") .int) (by decide +kernel)) (va_eqt (hs (.eq (.length (Term.static "TowerPipers$TownWord" "HIGHEST" "[I")) (.int 4)) (by decide +kernel))) (fun j hj => by
    match j, hj with
    | 0, _ => exact va_eqt (hs (.eq (.elem (Term.static "TowerPipers$TownWord" "HIGHEST" "[I") (.int 0)) (.int 20)) (by decide +kernel))
    | 1, _ => exact va_eqt (hs (.eq (.elem (Term.static "TowerPipers$TownWord" "HIGHEST" "[I") (.int 1)) (.int 100)) (by decide +kernel))
    | 2, _ => exact va_eqt (hs (.eq (.elem (Term.static "TowerPipers$TownWord" "HIGHEST" "[I") (.int 2)) (.int 9999)) (by decide +kernel))
    | 3, _ => exact va_eqt (hs (.eq (.elem (Term.static "TowerPipers$TownWord" "HIGHEST" "[I") (.int 3)) (.int 9999)) (by decide +kernel))
    | _ + 4, h => exact absurd h (by omega)) hA
  exact ⟨t, va_Zref (hts (.laysStatic "TowerPipers$TownWord" "HIGHEST" "[I") (List.mem_append_right _ (List.mem_append_left _ (List.mem_of_getElem? (i := 239) (by decide +kernel))))) (hts (.initialized "TowerPipers$TownWord") (tWALL_in kw_14)) h1 hA, h2⟩
theorem lw_tab_LEAST {b : Nat} {s : State} (hts : ∀ w ∈ lw_tbl, w.before #[Value.ref b] s = true) (hgv : (Jvm.Cond.and given_1 narrow_1).before #[Value.ref b] s = true) : ∃ t : Nat, tTb1 "TowerPipers$Call" "LEAST" "[I" .int t 8 tab_LEAST (fun q => s.heap.size ≤ q) s s.heap := by
  have hs := flat_of_before _ hgv
  have hA : ∀ a : Nat, a < s.heap.size → ¬ (fun q => s.heap.size ≤ q) a := fun a h => Nat.not_le.mpr h
  obtain ⟨t, h1, h2⟩ := va_Tof (tm := (Term.static "TowerPipers$Call" "LEAST" "[I")) (ty := .int) (N := 8) (f := fun j => .int (tab_LEAST j)) (A := fun q => s.heap.size ≤ q) (by decide) (hs (.arrayOf (Term.static "TowerPipers$Call" "LEAST" "[I") .int) (by decide +kernel)) (va_eqt (hs (.eq (.length (Term.static "TowerPipers$Call" "LEAST" "[I")) (.int 8)) (by decide +kernel))) (fun j hj => by
    match j, hj with
    | 0, _ => exact va_eqt (hs (.eq (.elem (Term.static "TowerPipers$Call" "LEAST" "[I") (.int 0)) (.int 0)) (by decide +kernel))
    | 1, _ => exact va_eqt (hs (.eq (.elem (Term.static "TowerPipers$Call" "LEAST" "[I") (.int 1)) (.int 0)) (by decide +kernel))
    | 2, _ => exact va_eqt (hs (.eq (.elem (Term.static "TowerPipers$Call" "LEAST" "[I") (.int 2)) (.int 1)) (by decide +kernel))
    | 3, _ => exact va_eqt (hs (.eq (.elem (Term.static "TowerPipers$Call" "LEAST" "[I") (.int 3)) (.int 0)) (by decide +kernel))
    | 4, _ => exact va_eqt (hs (.eq (.elem (Term.static "TowerPipers$Call" "LEAST" "[I") (.int 4)) (.int 0)) (by decide +kernel))
    | 5, _ => exact va_eqt (hs (.eq (.elem (Term.static "TowerPipers$Call" "LEAST" "[I") (.int 5)) (.int 0)) (by decide +kernel))
    | 6, _ => exact va_eqt (hs (.eq (.elem (Term.static "TowerPipers$Call" "LEAST" "[I") (.int 6)) (.int (-1))) (by decide +kernel))
    | 7, _ => exact va_eqt (hs (.eq (.elem (Term.static "TowerPipers$Call" "LEAST" "[I") (.int 7)) (.int 0)) (by decide +kernel))
    | _ + 8, h => exact absurd h (by omega)) hA
  exact ⟨t, va_Zref (hts (.laysStatic "TowerPipers$Call" "LEAST" "[I") (List.mem_append_right _ (List.mem_append_right _ (List.mem_append_left _ (List.mem_of_getElem? (i := 44) (by decide +kernel)))))) (hts (.initialized "TowerPipers$Call") (tWALL_in kw_63)) h1 hA, h2⟩
theorem lw_tab_MOST {b : Nat} {s : State} (hts : ∀ w ∈ lw_tbl, w.before #[Value.ref b] s = true) (hgv : (Jvm.Cond.and given_1 narrow_1).before #[Value.ref b] s = true) : ∃ t : Nat, tTb1 "TowerPipers$Call" "MOST" "[I" .int t 8 tab_MOST (fun q => s.heap.size ≤ q) s s.heap := by
  have hs := flat_of_before _ hgv
  have hA : ∀ a : Nat, a < s.heap.size → ¬ (fun q => s.heap.size ≤ q) a := fun a h => Nat.not_le.mpr h
  obtain ⟨t, h1, h2⟩ := va_Tof (tm := (Term.static "TowerPipers$Call" "MOST" "[I")) (ty := .int) (N := 8) (f := fun j => .int (tab_MOST j)) (A := fun q => s.heap.size ≤ q) (by decide) (hs (.arrayOf (Term.static "TowerPipers$Call" "MOST" "[I") .int) (by decide +kernel)) (va_eqt (hs (.eq (.length (Term.static "TowerPipers$Call" "MOST" "[I")) (.int 8)) (by decide +kernel))) (fun j hj => by
    match j, hj with
    | 0, _ => exact va_eqt (hs (.eq (.elem (Term.static "TowerPipers$Call" "MOST" "[I") (.int 0)) (.int 3)) (by decide +kernel))
    | 1, _ => exact va_eqt (hs (.eq (.elem (Term.static "TowerPipers$Call" "MOST" "[I") (.int 1)) (.int 95)) (by decide +kernel))
    | 2, _ => exact va_eqt (hs (.eq (.elem (Term.static "TowerPipers$Call" "MOST" "[I") (.int 2)) (.int 24)) (by decide +kernel))
    | 3, _ => exact va_eqt (hs (.eq (.elem (Term.static "TowerPipers$Call" "MOST" "[I") (.int 3)) (.int 9)) (by decide +kernel))
    | 4, _ => exact va_eqt (hs (.eq (.elem (Term.static "TowerPipers$Call" "MOST" "[I") (.int 4)) (.int 5)) (by decide +kernel))
    | 5, _ => exact va_eqt (hs (.eq (.elem (Term.static "TowerPipers$Call" "MOST" "[I") (.int 5)) (.int 4)) (by decide +kernel))
    | 6, _ => exact va_eqt (hs (.eq (.elem (Term.static "TowerPipers$Call" "MOST" "[I") (.int 6)) (.int 4)) (by decide +kernel))
    | 7, _ => exact va_eqt (hs (.eq (.elem (Term.static "TowerPipers$Call" "MOST" "[I") (.int 7)) (.int 9999)) (by decide +kernel))
    | _ + 8, h => exact absurd h (by omega)) hA
  exact ⟨t, va_Zref (hts (.laysStatic "TowerPipers$Call" "MOST" "[I") (List.mem_append_right _ (List.mem_append_right _ (List.mem_append_left _ (List.mem_of_getElem? (i := 46) (by decide +kernel)))))) (hts (.initialized "TowerPipers$Call") (tWALL_in kw_63)) h1 hA, h2⟩
theorem lw_arrI {b : Nat} {s : State} (hts : ∀ w ∈ lw_tbl, w.before #[Value.ref b] s = true) : ∃ cA : ClassId, ArrOfT s cA .int ∧ va_RA s cA .int := by
  obtain ⟨cA, kA, comp, h1, h2, h3⟩ := Cond.arrayClass_spec (hts (.arrayClass .int) (tWALL_in kw_526))
  exact ⟨cA, fun n z => ⟨fun k h => (by cases h), kA, h2, comp, h3⟩, h1⟩
theorem lw_arrB {b : Nat} {s : State} (hts : ∀ w ∈ lw_tbl, w.before #[Value.ref b] s = true) : ∃ cA : ClassId, ArrOfT s cA .byte ∧ va_RA s cA .byte := by
  obtain ⟨cA, kA, comp, h1, h2, h3⟩ := Cond.arrayClass_spec (hts (.arrayClass .byte) (tWALL_in kw_571))
  exact ⟨cA, fun n z => ⟨fun k h => (by cases h), kA, h2, comp, h3⟩, h1⟩
theorem lw_arrO {C : String} {b : Nat} {s : State} (h : (Cond.arrayOver (.object C)).before #[Value.ref b] s = true) : ∃ cA : ClassId, ArrOfT s cA (.object C) ∧ va_RA s cA (.object C) := by
  obtain ⟨comp, cA, kA, h1, h2, h3, h4, h5⟩ := Cond.arrayOver_spec h
  exact ⟨cA, fun n z => ⟨fun k h => (by cases h), kA, h3, comp, h4⟩, kA, comp, h3, h4, h1, h5⟩
set_option maxHeartbeats 8000000 in
set_option maxRecDepth 200000 in
theorem whole_start_of {Rel : tSt → tSt → Prop} (hpure : lwPure Rel) (hrel : Rel st0C st0M) {p : Program} {e : Env} {s : State} {m : MethodId} {below : List Frame} {meth : Method} {c : Code} (l : Launch) {b L : Nat} {xs : Nat → Int32} (hL : L ≤ 4608) (C0 : lw_At p s m meth c b L xs) : W p l e room_1 s m #[Value.ref b] below meth c s.heap [] 0 0 (lw_Z below #[Value.ref b] s) (entryFrame m ([Value.ref b] : List Value).toArray 4) := by
  obtain ⟨hx, hb, hr, hml, hown, hts, hX, hbl, hlocks, hgv⟩ := id C0
  have S : CallFix p m c cL_law 4 s #[Value.ref b] lw_tbl RL := ⟨hx, hb, hml, hown, hts⟩
  have hin0 : ∀ w ∈ tWALL, w ∈ lw_tbl := fun w h => tWALL_in h
  have hA : ∀ q : Nat, s.heap.size ≤ q → (fun q : Nat => s.heap.size ≤ q) q := fun _ h => h
  obtain ⟨c0, iS0, hKn0⟩ := u_known (C := RX0) (T := TX0) (N := 2) (n := 2) hts (fun w h => tWALL_in (iwX0 w h)) (hts (.instantiable RX0 2) (tWALL_in kw_563))
  obtain ⟨c1, iS1, hKn1⟩ := u_known (C := RX1) (T := TX1) (N := 5) (n := 5) hts (fun w h => tWALL_in (iwX1 w h)) (hts (.instantiable RX1 5) (tWALL_in kw_536))
  obtain ⟨c2, iS2, hKn2⟩ := u_known (C := RX2) (T := TX2) (N := 4) (n := 4) hts (fun w h => tWALL_in (iwX2 w h)) (hts (.instantiable RX2 4) (tWALL_in kw_559))
  obtain ⟨c3, iS3, hKn3⟩ := u_known (C := RX3) (T := TX3) (N := 4) (n := 4) hts (fun w h => tWALL_in (iwX3 w h)) (hts (.instantiable RX3 4) (tWALL_in kw_555))
  obtain ⟨c4, iS4, hKn4⟩ := u_known (C := RX4) (T := TX4) (N := 2) (n := 2) hts (fun w h => tWALL_in (iwX4 w h)) (hts (.instantiable RX4 2) (tWALL_in kw_542))
  obtain ⟨c5, iS5, hKn5⟩ := u_known (C := RX5) (T := TX5) (N := 2) (n := 2) hts (fun w h => tWALL_in (iwX5 w h)) (hts (.instantiable RX5 2) (tWALL_in kw_547))
  obtain ⟨c6, iS6, hKn6⟩ := u_known (C := RX6) (T := TX6) (N := 3) (n := 3) hts (fun w h => tWALL_in (iwX6 w h)) (hts (.instantiable RX6 3) (tWALL_in kw_567))
  obtain ⟨c7, iS7, hKn7⟩ := u_known (C := RX7) (T := TX7) (N := 13) (n := 13) hts (fun w h => tWALL_in (iwX7 w h)) (hts (.instantiable RX7 13) (tWALL_in kw_686))
  obtain ⟨c8, iS8, hKn8⟩ := u_known (C := RX8) (T := TX8) (N := 29) (n := 29) hts (fun w h => tWALL_in (iwX8 w h)) (hts (.instantiable RX8 29) (tWALL_in kw_687))
  obtain ⟨dC, dI, hKc⟩ : ∃ (dC : Nat → ClassId) (dI : Nat → Nat → Nat), ∀ (k : Nat) (q : vw_C), vwCl[k]? = some q → u_Kn s q.1 q.2.1 q.2.2 (dC k) (dI k) := by
    refine ⟨fun k => match k with | 0 => c0 | 1 => c1 | 2 => c2 | 3 => c3 | 4 => c4 | 5 => c5 | 6 => c6 | 7 => c7 | _ => c8, fun k => match k with | 0 => iS0 | 1 => iS1 | 2 => iS2 | 3 => iS3 | 4 => iS4 | 5 => iS5 | 6 => iS6 | 7 => iS7 | _ => iS8, ?_⟩
    intro k q hq
    match k, hq with
    | 0, hq => cases hq; exact hKn0
    | 1, hq => cases hq; exact hKn1
    | 2, hq => cases hq; exact hKn2
    | 3, hq => cases hq; exact hKn3
    | 4, hq => cases hq; exact hKn4
    | 5, hq => cases hq; exact hKn5
    | 6, hq => cases hq; exact hKn6
    | 7, hq => cases hq; exact hKn7
    | 8, hq => cases hq; exact hKn8
    | k + 9, hq => simp [vwCl] at hq
  have hao1 : (Cond.arrayOver (.object "TowerPipers$Piper")).before #[Value.ref b] s = true := hts _ (List.mem_append_right _ (List.mem_append_left _ (List.mem_of_getElem? (i := 50) (by decide +kernel))))
  obtain ⟨k1, hk1⟩ := lw_arrO hao1
  have hao2 : (Cond.arrayOver (.object "TowerPipers$Call")).before #[Value.ref b] s = true := hts _ (List.mem_append_right _ (List.mem_append_left _ (List.mem_of_getElem? (i := 52) (by decide +kernel))))
  obtain ⟨k2, hk2⟩ := lw_arrO hao2
  have hao3 : (Cond.arrayOver (.object "TowerPipers$Tune")).before #[Value.ref b] s = true := hts _ (List.mem_append_right _ (List.mem_append_left _ (List.mem_of_getElem? (i := 54) (by decide +kernel))))
  obtain ⟨k3, hk3⟩ := lw_arrO hao3
  obtain ⟨k0, hk0⟩ := lw_arrI hts
  obtain ⟨k4, hk4⟩ := lw_arrB hts
  obtain ⟨ca, ea⟩ : ∃ ca : Nat → ClassId, ca = fun k => match k with | 0 => k0 | 1 => k1 | 2 => k2 | 3 => k3 | _ => k4 := ⟨_, rfl⟩
  have hK : va_K (dC, dI) vwCl (tTys ca) s := by
    refine ⟨hKc, fun k q hq => ?_⟩
    subst ea
    match k, hq with
    | 0, hq => cases hq; exact hk0
    | 1, hq => cases hq; exact hk1
    | 2, hq => cases hq; exact hk2
    | 3, hq => cases hq; exact hk3
    | 4, hq => cases hq; exact hk4
    | k + 5, hq => simp [tTys] at hq
  have hN : tNst s := lw_nst hts
  have K : kEnv dC dI ca s := ⟨hK, hN, va_AO.of hao1, va_AO.of hao2, va_AO.of hao3⟩
  obtain ⟨t0, ht0⟩ := lw_tab_LETTERS hts hgv
  obtain ⟨t1, ht1⟩ := lw_tab_AT_FIRST hts hgv
  obtain ⟨t2, ht2⟩ := lw_tab_HIGHEST hts hgv
  obtain ⟨t3, ht3⟩ := lw_tab_LEAST hts hgv
  obtain ⟨t4, ht4⟩ := lw_tab_MOST hts hgv
  obtain ⟨tb, et⟩ : ∃ tb : Nat → Nat, tb = fun k => match k with | 0 => t0 | 1 => t1 | 2 => t2 | 3 => t3 | _ => t4 := ⟨_, rfl⟩
  have hT : tTbl tb (fun q => s.heap.size ≤ q) s s.heap := by subst et; exact ⟨ht0, ht1, ht2, ht3, ht4⟩
  have hS : va_S (fun q : Nat => s.heap.size ≤ q) s.heap s.heap [] := va_S.rf
  have hP : va_P (dC, dI) vwCl [] s.heap := fun k q h => by simp at h
  have hD : va_D (fun q : Nat => s.heap.size ≤ q) [] := ⟨fun i j p q h => by simp at h, fun k q h => by simp at h⟩
  have hl := lv_entry ([.ref b]) (n := 4) (Nat.le_of_ble_eq_true rfl)
  rw [lg_entry_eq]
  generalize (lg_sl ([.ref b]) ++ List.replicate (4 - (lg_sl ([.ref b])).length) Slot.unset).toArray = ls at hl ⊢
  have hl : lv_has ls 4 [(0, .ref b)] := hl
  refine k_mk (pc := 0) (wn := wnX7_init ca) S hin0 (tGoodL kw_688) K hP hD hS hA iwX7 tyX7 tyX7_ok rfl kw_689 kw_686 kw_6 (fs := [.null, .null, .null, .null, .null, .null, .null, .null, .int 0, .int 0, .int 0, .int 0, .int 0]) hfsX7 (fun q sz => kc_X7_init l dC dI ca q sz) rfl rfl kw_690 kw_691 (by decide +kernel) ⟨rfl, rfl, (Nat.le_of_ble_eq_true rfl), (Nat.le_of_ble_eq_true rfl)⟩ (Nat.le_of_ble_eq_true rfl) (Nat.le_of_ble_eq_true rfl) hl.1 (Nat.le_of_ble_eq_true rfl) dL_law_0 dL_law_3 dL_law_4 (fun q1 w1 H locs hP hD hS => ?_)
  obtain ⟨a, eqa⟩ : ∃ a : Nat → Nat, a = fun k => if k = 0 then q1 else w1 k := ⟨_, rfl⟩
  have hP : va_P (dC, dI) vwCl (cwC a ca st0C) H := by rw [eqa]; exact hP
  have hD : va_D (fun q : Nat => s.heap.size ≤ q) (cwC a ca st0C) := by rw [eqa]; exact hD
  have ea0 : q1 = a 0 := by rw [eqa]; rfl
  rw [ea0]
  refine W.widen (k := 47) (n := 281) (by decide) (by decide) ?_
  refine lv_astore_n (pc := 7) S.1 S.2.1 (lv' := [(1, .ref (a 0)), (0, .ref b)]) dL_law_7 rfl hl (by decide) rfl (fun ls hl => ?_)
  refine k_mk (pc := 8) (wn := wnX8_init ca) S hin0 (tGoodL kw_692) K hP hD hS hA iwX8 tyX8 tyX8_ok rfl kw_693 kw_687 kw_373 (fs := [.null, .int 0, .int 0, .int 0, .int 0, .int 0, .int 0, .null, .null, .null, .null, .null, .null, .null, .null, .null, .null, .null, .null, .int 0, .int 0, .int 0, .null, .null, .null, .null, .null, .null, .null]) hfsX8 (fun q sz => kc_X8_init l dC dI ca q sz) rfl rfl kw_694 kw_695 (by decide +kernel) ⟨rfl, rfl, (Nat.le_of_ble_eq_true rfl), (Nat.le_of_ble_eq_true rfl)⟩ (Nat.le_of_ble_eq_true rfl) (Nat.le_of_ble_eq_true rfl) hl.1 (Nat.le_of_ble_eq_true rfl) dL_law_8 dL_law_11 dL_law_12 (fun q2 w2 H locs hP hD hS => ?_)
  obtain ⟨am, eqm⟩ : ∃ a : Nat → Nat, a = fun k => if k = 0 then q2 else w2 k := ⟨_, rfl⟩
  have hP : va_P (dC, dI) vwCl (cwC a ca st0C ++ cwM am ca st0M) H := by rw [eqm]; exact hP
  have hD : va_D (fun q : Nat => s.heap.size ≤ q) (cwC a ca st0C ++ cwM am ca st0M) := by rw [eqm]; exact hD
  have em0 : q2 = am 0 := by rw [eqm]; rfl
  rw [em0]
  refine W.widen (k := 68) (n := 545) (by decide) (by decide) ?_
  obtain ⟨⟨g1, g2⟩, ⟨g3, g4⟩, g5⟩ := lw_apart hD (cC_dom a ca st0C) (cM_dom am ca st0M)
  refine lv_astore_n (pc := 15) S.1 S.2.1 (lv' := [(2, .ref (am 0)), (1, .ref (a 0)), (0, .ref b)]) dL_law_15 rfl hl (by decide) rfl (fun ls hl => ?_)
  refine lv_iconst (pc := 16) S.1 S.2.1 (v := 0) dL_law_16 (by decide) ?_
  refine lv_istore_n (pc := 17) S.1 S.2.1 (lv' := [(3, .int 0), (2, .ref (am 0)), (1, .ref (a 0)), (0, .ref b)]) dL_law_17 rfl hl (by decide) rfl (fun ls hl => ?_)
  exact law_loop hpure hL C0 ⟨hK, hN, hT, g1, g2⟩ ⟨hK, hN, hT, g3, g4⟩ g5 (L + 1) 0 0 (Nat.zero_le L) (by omega) nI_0.symm st0C st0M hrel _ _ (lw_left hP) (lw_right hP) hS ls (lv_sub hl [3, 2, 1, 0] rfl)
