/-! states of a world, its words, its surroundings -/
abbrev tSt : Type := Nat → Nat → Int32
def tUp (st : tSt) (k j : Nat) (v : Int32) : tSt := fun k' => if k' = k then upd (st k) j v else st k'
def tUpA (st : tSt) (k : Nat) (g : Nat → Int32) : tSt := fun k' => if k' = k then g else st k'
theorem tUp_self (st : tSt) (k j : Nat) (v : Int32) : tUp st k j v k = upd (st k) j v := by simp [tUp]
theorem tUp_ne (st : tSt) {k k' : Nat} (j : Nat) (v : Int32) (h : k' ≠ k) : tUp st k j v k' = st k' := by simp [tUp, h]
theorem tUpA_self (st : tSt) (k : Nat) (g : Nat → Int32) : tUpA st k g k = g := by simp [tUpA]
theorem tUpA_ne (st : tSt) {k k' : Nat} (g : Nat → Int32) (h : k' ≠ k) : tUpA st k g k' = st k' := by simp [tUpA, h]
def tNestW : Cond → Bool
  | .fieldLinkNest .. => true
  | .methodLinkNest .. => true
  | _ => false
def tWALL : List Cond := lw_tbl.filter goodWord
def tNEST : List Cond := lw_tbl.filter tNestW
theorem tin0 {w : Cond} (h : w ∈ k2_sels lw_privs) (g : goodWord w = true) : w ∈ tWALL := List.mem_filter.mpr ⟨List.mem_append_left _ h, g⟩
theorem tin1 {w : Cond} (h : w ∈ tables_1_1) (g : goodWord w = true) : w ∈ tWALL := List.mem_filter.mpr ⟨List.mem_append_right _ (List.mem_append_left _ h), g⟩
theorem tin2 {w : Cond} (h : w ∈ tables_1_2) (g : goodWord w = true) : w ∈ tWALL := List.mem_filter.mpr ⟨List.mem_append_right _ (List.mem_append_right _ (List.mem_append_left _ h)), g⟩
theorem tin3 {w : Cond} (h : w ∈ tables_1_3) (g : goodWord w = true) : w ∈ tWALL := List.mem_filter.mpr ⟨List.mem_append_right _ (List.mem_append_right _ (List.mem_append_right _ (List.mem_append_left _ h))), g⟩
theorem tin4 {w : Cond} (h : w ∈ tables_1_4) (g : goodWord w = true) : w ∈ tWALL := List.mem_filter.mpr ⟨List.mem_append_right _ (List.mem_append_right _ (List.mem_append_right _ (List.mem_append_right _ h))), g⟩
theorem tne1 {w : Cond} (h : w ∈ tables_1_1) (g : tNestW w = true) : w ∈ tNEST := List.mem_filter.mpr ⟨List.mem_append_right _ (List.mem_append_left _ h), g⟩
theorem tne2 {w : Cond} (h : w ∈ tables_1_2) (g : tNestW w = true) : w ∈ tNEST := List.mem_filter.mpr ⟨List.mem_append_right _ (List.mem_append_right _ (List.mem_append_left _ h)), g⟩
theorem tne3 {w : Cond} (h : w ∈ tables_1_3) (g : tNestW w = true) : w ∈ tNEST := List.mem_filter.mpr ⟨List.mem_append_right _ (List.mem_append_right _ (List.mem_append_right _ (List.mem_append_left _ h))), g⟩
theorem tne4 {w : Cond} (h : w ∈ tables_1_4) (g : tNestW w = true) : w ∈ tNEST := List.mem_filter.mpr ⟨List.mem_append_right _ (List.mem_append_right _ (List.mem_append_right _ (List.mem_append_right _ h))), g⟩
theorem tWALL_in {w : Cond} (h : w ∈ tWALL) : w ∈ lw_tbl := (List.mem_filter.mp h).1
theorem tNEST_in {w : Cond} (h : w ∈ tNEST) : w ∈ lw_tbl := (List.mem_filter.mp h).1
theorem tGood {w0 : Cond} {y : MethodName} {bytes : ByteArray} {maxL : Nat} {ret : Option FieldType} (h : Cond.code y bytes maxL ret ∈ tWALL) : GoodIn (w0 :: tWALL) (Cond.code y bytes maxL ret :: tWALL) := by
  intro w hw
  have h2 : w ∈ tWALL := by
    rcases List.mem_cons.mp hw with h1 | h1
    · rw [h1]; exact h
    · exact h1
  exact ⟨List.mem_cons_of_mem _ h2, good_of_word (List.mem_filter.mp h2).2⟩
theorem tGoodL {y : MethodName} {bytes : ByteArray} {maxL : Nat} {ret : Option FieldType} (h : Cond.code y bytes maxL ret ∈ tWALL) : GoodIn lw_tbl (Cond.code y bytes maxL ret :: tWALL) := by
  intro w hw
  have h2 : w ∈ tWALL := by
    rcases List.mem_cons.mp hw with h1 | h1
    · rw [h1]; exact h
    · exact h1
  exact ⟨tWALL_in h2, good_of_word (List.mem_filter.mp h2).2⟩
def tNst (U : State) : Prop := ∀ w ∈ tNEST, va_Nw w U
theorem tNst.warm {s U : State} (hW : s.WarmedH U.vm) (h : tNst s) : tNst U := by
  intro w hw
  have h1 := h w hw
  have h2 := (List.mem_filter.mp hw).2
  cases w <;> first | exact va_Nw.warmF hW h1 | exact va_Nw.warmM hW h1 | cases h2
theorem tNst.same {u U : State} (e : u.vm = U.vm) (h : tNst u) : tNst U := by
  intro w hw
  have h1 := h w hw
  have h2 := (List.mem_filter.mp hw).2
  cases w <;> first | exact va_Nw.same rfl e h1 | cases h2
/-! the class's static tables -/
def tab_LETTERS : Nat → Int32 := fun k => match k with
  | 0 => 119
  | 1 => 102
  | 2 => 112
  | _ => 103
def tab_AT_FIRST : Nat → Int32 := fun k => match k with
  | 0 => 1
  | 1 => 10
  | 2 => 100
  | _ => 50
def tab_HIGHEST : Nat → Int32 := fun k => match k with
  | 0 => 20
  | 1 => 100
  | 2 => 9999
  | _ => 9999
def tab_LEAST : Nat → Int32 := fun k => match k with
  | 2 => 1
  | 6 => -1
  | _ => 0
def tab_MOST : Nat → Int32 := fun k => match k with
  | 0 => 3
  | 1 => 95
  | 2 => 24
  | 3 => 9
  | 4 => 5
  | 5 => 4
  | 6 => 4
  | _ => 9999
def tTb1 (C n d : String) (ty : FieldType) (t N : Nat) (f : Nat → Int32) (A : Nat → Prop) (U : State) (H : Heap) : Prop := va_Z C n d (.ref t) A U H ∧ va_T ty t N (fun j => .int (f j)) A U H
theorem tTb1.moved {C n d : String} {ty : FieldType} {t N : Nat} {f : Nat → Int32} {A : Nat → Prop} {u U : State} {H : Heap} (hvm : u.vm.Alike U.vm) (h : tTb1 C n d ty t N f A u H) : tTb1 C n d ty t N f A U H := ⟨va_Z.moved hvm h.1, va_T.moved hvm h.2⟩
theorem tTb1.kept {C n d : String} {ty : FieldType} {t N : Nat} {f : Nat → Int32} {A : Nat → Prop} {U : State} {H H1 : Heap} (h : tTb1 C n d ty t N f A U H) (hq : ∀ a : Nat, a < H.size → ¬ A a → H1[a]? = H[a]?) : tTb1 C n d ty t N f A U H1 := ⟨va_Z.kept h.1 hq, va_T.kept h.2 hq⟩
theorem tTb1.narrow {C n d : String} {ty : FieldType} {t N : Nat} {f : Nat → Int32} {A B : Nat → Prop} {U : State} {H : Heap} (h : tTb1 C n d ty t N f A U H) (hAB : ∀ q, B q → A q) : tTb1 C n d ty t N f B U H := ⟨va_Z.narrow h.1 hAB, va_T.narrow h.2 hAB⟩
def tTbl (tb : Nat → Nat) (A : Nat → Prop) (U : State) (H : Heap) : Prop :=
  tTb1 "TowerPipers$TownWord" "LETTERS" "[C" .char (tb 0) 4 tab_LETTERS A U H ∧ tTb1 "TowerPipers$TownWord" "AT_FIRST" "[I" .int (tb 1) 4 tab_AT_FIRST A U H ∧ tTb1 "TowerPipers$TownWord" "HIGHEST" "[I" .int (tb 2) 4 tab_HIGHEST A U H ∧ tTb1 "TowerPipers$Call" "LEAST" "[I" .int (tb 3) 8 tab_LEAST A U H ∧ tTb1 "TowerPipers$Call" "MOST" "[I" .int (tb 4) 8 tab_MOST A U H
theorem tTbl.moved {tb : Nat → Nat} {A : Nat → Prop} {u U : State} {H : Heap} (hvm : u.vm.Alike U.vm) (h : tTbl tb A u H) : tTbl tb A U H := ⟨h.1.moved hvm, h.2.1.moved hvm, h.2.2.1.moved hvm, h.2.2.2.1.moved hvm, h.2.2.2.2.moved hvm⟩
theorem tTbl.kept {tb : Nat → Nat} {A : Nat → Prop} {U : State} {H H1 : Heap} (h : tTbl tb A U H) (hz : H.size ≤ H1.size) (hq : ∀ a : Nat, a < H.size → ¬ A a → H1[a]? = H[a]?) : tTbl tb A U H1 := ⟨h.1.kept hq, h.2.1.kept hq, h.2.2.1.kept hq, h.2.2.2.1.kept hq, h.2.2.2.2.kept hq⟩
theorem tTbl.narrow {tb : Nat → Nat} {A B : Nat → Prop} {U : State} {H : Heap} (h : tTbl tb A U H) (hAB : ∀ q, B q → A q) : tTbl tb B U H := ⟨h.1.narrow hAB, h.2.1.narrow hAB, h.2.2.1.narrow hAB, h.2.2.2.1.narrow hAB, h.2.2.2.2.narrow hAB⟩
/-! a world: n cells at the addresses a -/
def tA (n : Nat) (a : Nat → Nat) (sz : Nat) : Nat → Prop := fun q => (∃ k, k < n ∧ q = a k) ∨ sz ≤ q
theorem tA.mono {n : Nat} {a : Nat → Nat} {s1 s2 : Nat} (h : s1 ≤ s2) (q : Nat) (hq : tA n a s2 q) : tA n a s1 q := by
  rcases hq with h1 | h1
  · exact Or.inl h1
  · exact Or.inr (Nat.le_trans h h1)
abbrev tTys (ca : Nat → ClassId) : List (ClassId × FieldType) := [(ca 0, .int), (ca 1, .object RX2), (ca 2, .object RX0), (ca 3, .object RX6), (ca 4, .byte)]
def tEnv (n : Nat) (dC : Nat → ClassId) (dI : Nat → Nat → Nat) (a : Nat → Nat) (ca : Nat → ClassId) (tb : Nat → Nat) (U : State) : Prop :=
  va_K (dC, dI) vwCl (tTys ca) U ∧ tNst U ∧ tTbl tb (tA n a U.heap.size) U U.heap ∧ (∀ i j, i < n → j < n → a i = a j → i = j) ∧ (∀ i, i < n → a i < U.heap.size)
theorem tEnv.step {n : Nat} {dC : Nat → ClassId} {dI : Nat → Nat → Nat} {a : Nat → Nat} {ca : Nat → ClassId} {tb : Nat → Nat} {s U : State} {H : Heap} {locs : List Loc} (E : tEnv n dC dI a ca tb s) (hS : va_S (tA n a s.heap.size) s.heap H locs) (hU : U.heap = H) (hW : s.WarmedH U.vm) : tEnv n dC dI a ca tb U := by
  obtain ⟨h1, h2, h3, h4, h5⟩ := E
  subst hU
  exact ⟨va_K.moved hW.alike h1, h2.warm hW, ((h3.moved hW.alike).kept hS.1 hS.2.1).narrow (tA.mono hS.1), h4, fun i hi => Nat.lt_of_lt_of_le (h5 i hi) hS.1⟩
theorem tEnv.blind {n : Nat} {dC : Nat → ClassId} {dI : Nat → Nat → Nat} {a : Nat → Nat} {ca : Nat → ClassId} {tb : Nat → Nat} {U : State} (E : tEnv n dC dI a ca tb U) (g : JFrame) (mk : MethodId) (v : Array Value) : tEnv n dC dI a ca tb (U.calling g mk v) := by
  obtain ⟨h1, h2, h3, h4, h5⟩ := E
  exact ⟨va_K.moved (u := U) (U := U.calling g mk v) (Vm.Alike.refl U.vm) h1, tNst.same (u := U) (U := U.calling g mk v) rfl h2, tTbl.moved (u := U) (U := U.calling g mk v) (Vm.Alike.refl U.vm) h3, h4, h5⟩
theorem tD {ws : va_W} {n : Nat} {a : Nat → Nat} {sz : Nat} (hm : ws.map (fun q => q.1) = (List.range n).map a) (hi : ∀ i j, i < n → j < n → a i = a j → i = j) : va_D (tA n a sz) ws := by
  have key : ∀ (k : Nat) (q : Nat × va_E), ws[k]? = some q → k < n ∧ q.1 = a k := by
    intro k q hk
    have h1 : (ws.map (fun q => q.1))[k]? = some q.1 := by rw [List.getElem?_map, hk]; rfl
    rw [hm, List.getElem?_map] at h1
    by_cases hkn : k < n
    · rw [List.getElem?_range hkn] at h1
      exact ⟨hkn, (Option.some.inj h1).symm⟩
    · rw [List.getElem?_eq_none (by simpa using hkn)] at h1
      cases h1
  refine ⟨fun i j p q hi' hj' e => ?_, fun k q hk => ?_⟩
  · obtain ⟨h1, h2⟩ := key i p hi'
    obtain ⟨h3, h4⟩ := key j q hj'
    exact hi i j h1 h3 (by rw [← h2, ← h4]; exact e)
  · obtain ⟨h1, h2⟩ := key k q hk
    exact Or.inl ⟨k, h1, h2⟩
def tPre (n : Nat) (wd : tSt → va_W) (dC : Nat → ClassId) (dI : Nat → Nat → Nat) (a : Nat → Nat) (ca : Nat → ClassId) (tb : Nat → Nat) (sz : Nat) (st : tSt) : State → Prop := fun U => U.heap.size = sz ∧ tEnv n dC dI a ca tb U ∧ va_P (dC, dI) vwCl (wd st) U.heap
def tB (wd : tSt → va_W) (dC : Nat → ClassId) (dI : Nat → Nat → Nat) : tSt → State → Prop := fun st t => va_P (dC, dI) vwCl (wd st) t.heap
theorem tp_met {l : Launch} {y : MethodName} {rm : Room} {cc : ByteArray} {maxL : Nat} {ret : Option FieldType} {av : List Value} {Qc : Array Value → State → Outcome → State → Prop} {free : Addr → Prop} {n : Nat} {wd : tSt → va_W} {dC : Nat → ClassId} {dI : Nat → Nat → Nat} {a : Nat → Nat} {ca : Nat → ClassId} {tb : Nat → Nat} {sz : Nat} {st : tSt} (hy : plainName y.cls = true) (hlen : (lg_sl av).length ≤ maxL)
    (body : ∀ (p : Program) (e : Env) (s : State) (m : MethodId) (below : List Frame) (meth : Method) (c : Code) (ls : Array Slot), CallFix p m c cc maxL s av.toArray (.code y cc maxL ret :: tWALL) y.cls → meth.sig.returnType = ret → meth.locks = false → s.heap.size = sz → tEnv n dC dI a ca tb s → va_P (dC, dI) vwCl (wd st) s.heap → lv_has ls maxL (lv_args 0 av) → W p l e rm s m av.toArray below meth c s.heap [] 0 0 (MQ below Qc av.toArray s 0 0 free) (F0 m 0 ls [])) :
    Met l y (.code y cc maxL ret :: tWALL) rm (va_Pc av (tPre n wd dC dI a ca tb sz st)) Qc 0 0 free := by
  refine Met.ofW (cc := cc) (maxL := maxL) (ret := ret) hy rfl ?_
  intro p e s m args below meth c s₁ B hml hv
  obtain ⟨rfl, hsz, hE, hP⟩ := hv
  rw [lg_entry_eq]
  exact body p e s m below meth c _ ⟨B.exec, B.bytes, hml, findClass_of_methodNamed B.named, atoms_spec (ws := _) B.pre⟩ B.returns B.notSynchronized hsz hE hP (lv_entry av hlen)
theorem t_lt {i : Int32} {n : Nat} (h : vp_in i n) : i.toNatClampNeg < n := Nat.not_le.mp fun q => h (Or.inr q)
section TPW
variable {p : Program} {l : Launch} {e : Env} {R : Room} {s : State} {m : MethodId} {args : Array Value} {below : List Frame} {meth : Method} {c : Code} {H : Heap} {locs : List Loc} {Q : State → Prop}
variable {cc : ByteArray} {nL pc : Nat} {ls : Array Slot} {rest stk : List Value} {D : va_G} {A : Nat → Prop} {b : Nat} {tys : List (ClassId × FieldType)} {ws : va_W} {wd : tSt → va_W} {st st2 : tSt} {H0 : Heap} {w0 : Cond} {own : String}
theorem tp_get (S : CallFix p m c cc nL s args (w0 :: tWALL) own) (hK : va_K D vwCl tys s) (hP : va_P D vwCl ws H) {C : String} {T : u_T} {N ci index : Nat} (hin : ∀ w ∈ u_ws C T N, w ∈ tWALL) (q0 : Nat) {fs : List Value} (he : ws[q0]? = some (b, .inr (ci, fs))) (hc : vwCl[ci]? = some (C, T, N)) (k : Nat) (hk : k < N) (hlink : Cond.fieldLink own index (T k).1 (T k).2.1 (T k).2.2.1 ∈ tWALL) {v : Value} (hv : fs[k]? = some v) (hdg : decode cc pc = .ok (.getfield index, 3))
    (kk : W p l e R s m args below meth c H locs 0 0 Q (F0 m (pc + 3) ls (v :: rest))) : W p l e R s m args below meth c H locs 0 0 Q (F0 m pc ls (.ref b :: rest)) :=
  va_get S.1 S.2.1 S.2.2.2.2 (fun w h => List.mem_cons_of_mem _ (hin w h)) S.2.2.2.1 hK hP q0 he hc k hk (S.2.2.2.2 _ (List.mem_cons_of_mem _ hlink)) (fun _ h => h) hv hdg kk
theorem tp_getN (S : CallFix p m c cc nL s args (w0 :: tWALL) own) (hN : tNst s) (hK : va_K D vwCl tys s) (hP : va_P D vwCl ws H) {C host : String} {T : u_T} {N ci index : Nat} (hin : ∀ w ∈ u_ws C T N, w ∈ tWALL) (q0 : Nat) {fs : List Value} (he : ws[q0]? = some (b, .inr (ci, fs))) (hc : vwCl[ci]? = some (C, T, N)) (k : Nat) (hk : k < N) (hlink : Cond.fieldLinkNest own index (T k).1 (T k).2.1 (T k).2.2.1 host ∈ tNEST) {v : Value} (hv : fs[k]? = some v) (hdg : decode cc pc = .ok (.getfield index, 3))
    (kk : W p l e R s m args below meth c H locs 0 0 Q (F0 m (pc + 3) ls (v :: rest))) : W p l e R s m args below meth c H locs 0 0 Q (F0 m pc ls (.ref b :: rest)) :=
  va_getN S.1 S.2.1 S.2.2.2.2 (fun w h => List.mem_cons_of_mem _ (hin w h)) S.2.2.2.1 hK hP q0 he hc k hk (va_Nw.use rfl (hN _ hlink)) (fun _ h => h) hv hdg kk
theorem tp_put (S : CallFix p m c cc nL s args (w0 :: tWALL) own) (hK : va_K D vwCl tys s) (hP : va_P D vwCl (wd st) H) (hD : va_D A (wd st)) (hS : va_S A H0 H locs) {C : String} {T : u_T} {N ci index : Nat} (hin : ∀ w ∈ u_ws C T N, w ∈ tWALL) (ty0 : Nat → FieldType) (hty : ∀ k, k < N → parseFieldDescriptor (T k).2.2.1 = some (ty0 k)) (hnm : ∀ a, a < N → ∀ b, b < N → a ≠ b → (T a).2.1 ≠ (T b).2.1) (q0 : Nat) {fs : List Value} (he : (wd st)[q0]? = some (b, .inr (ci, fs))) (hc : vwCl[ci]? = some (C, T, N)) (k : Nat) (hk : k < N) (hlink : Cond.fieldLink own index (T k).1 (T k).2.1 (T k).2.2.1 ∈ tWALL) (hfin : (T k).2.2.2 = false) {ty : FieldType} {v : Value} (hd : parseFieldDescriptor (T k).2.2.1 = some ty) (hn : narrow ty v = v) (hfit : fits ty v = true) (hl : k < fs.length) (hset : (wd st).set q0 (b, .inr (ci, fs.set k v)) = wd st2)
    (hdg : decode cc pc = .ok (.putfield index, 3)) (kk : ∀ (st3 : tSt) (H1 : Heap) (locs1 : List Loc), st3 = st2 → va_P D vwCl (wd st3) H1 → va_S A H0 H1 locs1 → W p l e R s m args below meth c H1 locs1 0 0 Q (F0 m (pc + 3) ls rest)) : W p l e R s m args below meth c H locs 0 0 Q (F0 m pc ls (v :: .ref b :: rest)) :=
  va_put S.1 S.2.1 S.2.2.2.2 (fun w h => List.mem_cons_of_mem _ (hin w h)) ty0 hty hnm S.2.2.2.1 hK hP hD hS q0 he hc k hk (S.2.2.2.2 _ (List.mem_cons_of_mem _ hlink)) (fun _ h => h) hfin hd hn hfit hl hdg (fun H1 locs1 h1 _ h3 => kk st2 H1 locs1 rfl (hset ▸ h1) h3)
theorem tp_putN (S : CallFix p m c cc nL s args (w0 :: tWALL) own) (hN : tNst s) (hK : va_K D vwCl tys s) (hP : va_P D vwCl (wd st) H) (hD : va_D A (wd st)) (hS : va_S A H0 H locs) {C host : String} {T : u_T} {N ci index : Nat} (hin : ∀ w ∈ u_ws C T N, w ∈ tWALL) (ty0 : Nat → FieldType) (hty : ∀ k, k < N → parseFieldDescriptor (T k).2.2.1 = some (ty0 k)) (hnm : ∀ a, a < N → ∀ b, b < N → a ≠ b → (T a).2.1 ≠ (T b).2.1) (q0 : Nat) {fs : List Value} (he : (wd st)[q0]? = some (b, .inr (ci, fs))) (hc : vwCl[ci]? = some (C, T, N)) (k : Nat) (hk : k < N) (hlink : Cond.fieldLinkNest own index (T k).1 (T k).2.1 (T k).2.2.1 host ∈ tNEST) (hfin : (T k).2.2.2 = false) {ty : FieldType} {v : Value} (hd : parseFieldDescriptor (T k).2.2.1 = some ty) (hn : narrow ty v = v) (hfit : fits ty v = true) (hl : k < fs.length) (hset : (wd st).set q0 (b, .inr (ci, fs.set k v)) = wd st2)
    (hdg : decode cc pc = .ok (.putfield index, 3)) (kk : ∀ (st3 : tSt) (H1 : Heap) (locs1 : List Loc), st3 = st2 → va_P D vwCl (wd st3) H1 → va_S A H0 H1 locs1 → W p l e R s m args below meth c H1 locs1 0 0 Q (F0 m (pc + 3) ls rest)) : W p l e R s m args below meth c H locs 0 0 Q (F0 m pc ls (v :: .ref b :: rest)) :=
  va_putN S.1 S.2.1 S.2.2.2.2 (fun w h => List.mem_cons_of_mem _ (hin w h)) ty0 hty hnm S.2.2.2.1 hK hP hD hS q0 he hc k hk (va_Nw.use rfl (hN _ hlink)) (fun _ h => h) hfin hd hn hfit hl hdg (fun H1 locs1 h1 _ h3 => kk st2 H1 locs1 rfl (hset ▸ h1) h3)
theorem tp_iald (S : CallFix p m c cc nL s args (w0 :: tWALL) own) (hK : va_K D vwCl tys s) (hP : va_P D vwCl ws H) (q0 t0 : Nat) {cA : ClassId} {n : Nat} {f : Nat → Int32} (ha : ws[q0]? = some (b, .inl (cA, n, .inl f))) (ht : tys[t0]? = some (cA, .int)) {i : Int32} {j : Nat} (hj : i.toNatClampNeg = j) (hin : vp_in i n) (hdg : decode cc pc = .ok (.iaload, 1))
    (kk : W p l e R s m args below meth c H locs 0 0 Q (F0 m (pc + 1) ls (.int (f j) :: rest))) : W p l e R s m args below meth c H locs 0 0 Q (F0 m pc ls (.int i :: .ref b :: rest)) := by
  subst hj; exact va_iald S.1 S.2.1 hK hP q0 t0 ha ht hin hdg kk
theorem tp_bald (S : CallFix p m c cc nL s args (w0 :: tWALL) own) (hK : va_K D vwCl tys s) (hP : va_P D vwCl ws H) (q0 t0 : Nat) {cA : ClassId} {n : Nat} {f : Nat → Int32} (ha : ws[q0]? = some (b, .inl (cA, n, .inl f))) (ht : tys[t0]? = some (cA, .byte)) {i : Int32} {j : Nat} (hj : i.toNatClampNeg = j) (hin : vp_in i n) (hdg : decode cc pc = .ok (.baload, 1))
    (kk : W p l e R s m args below meth c H locs 0 0 Q (F0 m (pc + 1) ls (.int (f j) :: rest))) : W p l e R s m args below meth c H locs 0 0 Q (F0 m pc ls (.int i :: .ref b :: rest)) := by
  subst hj; exact va_bald S.1 S.2.1 hK hP q0 t0 ha ht hin hdg kk
theorem tp_aald (S : CallFix p m c cc nL s args (w0 :: tWALL) own) (hK : va_K D vwCl tys s) (hP : va_P D vwCl ws H) (q0 t0 : Nat) {cA : ClassId} {C : String} {n : Nat} {f : Nat → Option Nat} (ha : ws[q0]? = some (b, .inl (cA, n, .inr (.inr (.inr (.inr f)))))) (ht : tys[t0]? = some (cA, .object C)) {i : Int32} {j d : Nat} (hj : i.toNatClampNeg = j) (hf : f j = some d) (hin : vp_in i n) (hdg : decode cc pc = .ok (.aaload, 1))
    (kk : W p l e R s m args below meth c H locs 0 0 Q (F0 m (pc + 1) ls (.ref d :: rest))) : W p l e R s m args below meth c H locs 0 0 Q (F0 m pc ls (.int i :: .ref b :: rest)) := by
  subst hj; refine va_aldq S.1 S.2.1 hK hP q0 t0 ha ht hin hdg ?_; rw [hf]; exact kk
theorem tp_iast (S : CallFix p m c cc nL s args (w0 :: tWALL) own) (hK : va_K D vwCl tys s) (hP : va_P D vwCl (wd st) H) (hD : va_D A (wd st)) (hS : va_S A H0 H locs) (q0 t0 : Nat) {cA : ClassId} {n : Nat} {f : Nat → Int32} (ha : (wd st)[q0]? = some (b, .inl (cA, n, .inl f))) (ht : tys[t0]? = some (cA, .int)) {i x : Int32} {j : Nat} (hj : i.toNatClampNeg = j) (hin : vp_in i n) (hset : (wd st).set q0 (b, .inl (cA, n, .inl (upd f j x))) = wd st2) (hdg : decode cc pc = .ok (.iastore, 1))
    (kk : ∀ (st3 : tSt) (H1 : Heap) (locs1 : List Loc), st3 = st2 → va_P D vwCl (wd st3) H1 → va_S A H0 H1 locs1 → W p l e R s m args below meth c H1 locs1 0 0 Q (F0 m (pc + 1) ls rest)) : W p l e R s m args below meth c H locs 0 0 Q (F0 m pc ls (.int x :: .int i :: .ref b :: rest)) := by
  subst hj; exact va_iast S.1 S.2.1 hK hP hD hS q0 t0 ha ht hin hdg (fun H1 locs1 h1 _ h3 => kk st2 H1 locs1 rfl (hset ▸ h1) h3)
theorem tp_bast (S : CallFix p m c cc nL s args (w0 :: tWALL) own) (hK : va_K D vwCl tys s) (hP : va_P D vwCl (wd st) H) (hD : va_D A (wd st)) (hS : va_S A H0 H locs) (q0 t0 : Nat) {cA : ClassId} {n : Nat} {f : Nat → Int32} (ha : (wd st)[q0]? = some (b, .inl (cA, n, .inl f))) (ht : tys[t0]? = some (cA, .byte)) {i x : Int32} {j : Nat} (hj : i.toNatClampNeg = j) (hin : vp_in i n) (hset : (wd st).set q0 (b, .inl (cA, n, .inl (upd f j (vp_nar .byte x)))) = wd st2) (hdg : decode cc pc = .ok (.bastore, 1))
    (kk : ∀ (st3 : tSt) (H1 : Heap) (locs1 : List Loc), st3 = st2 → va_P D vwCl (wd st3) H1 → va_S A H0 H1 locs1 → W p l e R s m args below meth c H1 locs1 0 0 Q (F0 m (pc + 1) ls rest)) : W p l e R s m args below meth c H locs 0 0 Q (F0 m pc ls (.int x :: .int i :: .ref b :: rest)) := by
  subst hj; exact va_bast S.1 S.2.1 hK hP hD hS q0 t0 ha ht hin hdg (fun H1 locs1 h1 _ h3 => kk st2 H1 locs1 rfl (hset ▸ h1) h3)
end TPW
