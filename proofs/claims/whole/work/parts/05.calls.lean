/-! calls inside a world, and ends -/
def tQi (wd : tSt → va_W) (n : Nat) (dC : Nat → ClassId) (dI : Nat → Nat → Nat) (a : Nat → Nat) (args : Array Value) (below : List Frame) (s : State) (post : Int32 → tSt → Prop) : State → Prop := MQ below (va_Qi post (tB wd dC dI) (tA n a s.heap.size)) args s 0 0 (tA n a s.heap.size)
def tQv (wd : tSt → va_W) (n : Nat) (dC : Nat → ClassId) (dI : Nat → Nat → Nat) (a : Nat → Nat) (args : Array Value) (below : List Frame) (s : State) (post : tSt → Prop) : State → Prop := MQ below (va_Qv post (tB wd dC dI) (tA n a s.heap.size)) args s 0 0 (tA n a s.heap.size)
def tQr (wd : tSt → va_W) (n : Nat) (dC : Nat → ClassId) (dI : Nat → Nat → Nat) (a : Nat → Nat) (args : Array Value) (below : List Frame) (s : State) (ra : Nat) (post : tSt → Prop) : State → Prop := MQ below (va_Qr post (fun u x t => x = ra ∧ tB wd dC dI u t) (tA n a s.heap.size)) args s 0 0 (tA n a s.heap.size)
/-- at a place of a method: with the world at st and the locals lv it comes to Q -/
def tAt (p : Program) (l : Launch) (e : Env) (R : Room) (s : State) (m : MethodId) (args : Array Value) (below : List Frame) (meth : Method) (c : Code) (D : va_G) (wd : tSt → va_W) (A : Nat → Prop) (Q : State → Prop) (nL pc : Nat) (lv : List (Nat × Value)) (stk : List Value) (st : tSt) : Prop :=
  ∀ (H : Heap) (locs : List Loc) (ls : Array Slot), va_P D vwCl (wd st) H → va_S A s.heap H locs → lv_has ls nL lv → W p l e R s m args below meth c H locs 0 0 Q (F0 m pc ls stk)
section TPC
variable {p : Program} {l : Launch} {e : Env} {R : Room} {s : State} {m : MethodId} {args : Array Value} {below : List Frame} {meth : Method} {c : Code} {H : Heap} {locs : List Loc} {Q : State → Prop}
variable {cc : ByteArray} {nL pc : Nat} {ls : Array Slot} {rest stk : List Value} {b : Nat} {wd : tSt → va_W} {st : tSt} {w0 : Cond} {own : String} {n : Nat} {dC : Nat → ClassId} {dI : Nat → Nat → Nat} {a : Nat → Nat} {ca : Nat → ClassId} {tb : Nat → Nat}
variable {y : MethodName} {bytes : ByteArray} {maxL np index : Nat} {ret : Option FieldType} {rm : Room} {As : List Value} {Qc : Array Value → State → Outcome → State → Prop}
theorem tBlind {av : List Value} {sz : Nat} : FrameBlind (va_Pc av (tPre n wd dC dI a ca tb sz st)) := fun x U g mk q => ⟨q.1, q.2.1, q.2.2.1.blind g mk x, q.2.2.2⟩
/-- what a call needs of the words: its code, its link, the room -/
def tCw (R : Room) (own : String) (index : Nat) (y : MethodName) (bytes : ByteArray) (maxL : Nat) (ret : Option FieldType) (rm : Room) (np : Nat) : Prop :=
  Cond.code y bytes maxL ret ∈ tWALL ∧ Cond.initialized y.cls ∈ tWALL ∧ (rm.cells = 0 ∧ rm.slots = 0 ∧ rm.frames + 1 ≤ R.frames ∧ 8 + (maxL + 11) + rm.locals ≤ R.locals) ∧ y.cls ≠ "java/lang/invoke/MethodHandle" ∧ y.cls ≠ "java/lang/invoke/VarHandle" ∧ (parseMethodDescriptor y.desc).map (fun d => d.parameters.length) = some np
theorem tRunV (S : CallFix p m c cc nL s args (w0 :: tWALL) own) (E : tEnv n dC dI a ca tb s) (hP : va_P (dC, dI) vwCl (wd st) H) (hS : va_S (tA n a s.heap.size) s.heap H locs)
    (hM : Met l y (.code y bytes maxL ret :: tWALL) rm (va_Pc (.ref b :: As) (tPre n wd dC dI a ca tb H.size st)) Qc 0 0 (tA n a H.size))
    (hw : tCw R own index y bytes maxL ret rm np) (hl : Cond.methodLink own index y ∈ tWALL) (hi : Cond.instanceMethod y ∈ tWALL) (hs : Cond.selects y.cls y y ∈ tWALL)
    (q0 ci : Nat) {q : vw_C} {fs : List Value} (hq : vwCl[ci]? = some q) (hqc : q.1 = y.cls) (he : (wd st)[q0]? = some (b, .inr (ci, fs)))
    (hn : As.length = np) (hsize : ls.size = nL) (hstk : stk = As.reverse ++ .ref b :: rest) (hrest : (rest.map fun v => v.category).sum ≤ 8) (hdg : decode cc pc = .ok (.invokevirtual index, 3)) :
    va_Run p l e R s m args below meth c H locs 0 0 0 0 (F0 m pc ls stk) rest (Qc (Value.ref b :: As).toArray) (tA n a H.size) := by
  obtain ⟨h1, h2, ⟨h3, h4, h5, h6⟩, h7, h8, h9⟩ := hw
  have ok : ∀ w ∈ tWALL, w.before args s = true := fun w h => S.2.2.2.2 w (List.mem_cons_of_mem _ h)
  refine va_runV (C := y.cls) S hM ⟨callB_of np S.2.2.2.2 (tGood h1) rfl h3 h4 (ok _ h2) (ok _ hl) ⟨h7, h8, h9⟩ ⟨h5, h6⟩, ok _ hi, ok _ hs⟩ ⟨tBlind, ?_, fun U hU hW => ⟨rfl, by rw [hU], E.step hS hU hW, by rw [hU]; exact hP⟩⟩ rfl hn hsize hstk (lv_room hrest) hdg ⟨by simp, by simp⟩
  rw [← hqc]
  exact va_recv E.1 hP hq he
theorem tRunS (S : CallFix p m c cc nL s args (w0 :: tWALL) own) (E : tEnv n dC dI a ca tb s) (hP : va_P (dC, dI) vwCl (wd st) H) (hS : va_S (tA n a s.heap.size) s.heap H locs)
    (hM : Met l y (.code y bytes maxL ret :: tWALL) rm (va_Pc As (tPre n wd dC dI a ca tb H.size st)) Qc 0 0 (tA n a H.size))
    (hw : tCw R own index y bytes maxL ret rm np) (hl : Cond.methodLink own index y ∈ tWALL) (hi : Cond.static y ∈ tWALL)
    (hn : As.length = np) (hsize : ls.size = nL) (hstk : stk = As.reverse ++ rest) (hrest : (rest.map fun v => v.category).sum ≤ 8) (hdg : decode cc pc = .ok (.invokestatic index, 3)) :
    va_Run p l e R s m args below meth c H locs 0 0 0 0 (F0 m pc ls stk) rest (Qc As.toArray) (tA n a H.size) := by
  obtain ⟨h1, h2, ⟨h3, h4, h5, h6⟩, h7, h8, h9⟩ := hw
  have ok : ∀ w ∈ tWALL, w.before args s = true := fun w h => S.2.2.2.2 w (List.mem_cons_of_mem _ h)
  exact va_runS S hM ⟨callB_of np S.2.2.2.2 (tGood h1) rfl h3 h4 (ok _ h2) (ok _ hl) ⟨h7, h8, h9⟩ ⟨h5, h6⟩, ok _ hi⟩ ⟨tBlind, fun U hU hW => ⟨rfl, by rw [hU], E.step hS hU hW, by rw [hU]; exact hP⟩⟩ rfl hn hsize hstk (lv_room hrest) hdg ⟨by simp, by simp⟩
theorem tRunSN {host : String} (S : CallFix p m c cc nL s args (w0 :: tWALL) own) (E : tEnv n dC dI a ca tb s) (hP : va_P (dC, dI) vwCl (wd st) H) (hS : va_S (tA n a s.heap.size) s.heap H locs)
    (hM : Met l y (.code y bytes maxL ret :: tWALL) rm (va_Pc As (tPre n wd dC dI a ca tb H.size st)) Qc 0 0 (tA n a H.size))
    (hw : tCw R own index y bytes maxL ret rm np) (hl : Cond.methodLinkNest own index y host ∈ tNEST) (hi : Cond.static y ∈ tWALL)
    (hn : As.length = np) (hsize : ls.size = nL) (hstk : stk = As.reverse ++ rest) (hrest : (rest.map fun v => v.category).sum ≤ 8) (hdg : decode cc pc = .ok (.invokestatic index, 3)) :
    va_Run p l e R s m args below meth c H locs 0 0 0 0 (F0 m pc ls stk) rest (Qc As.toArray) (tA n a H.size) := by
  obtain ⟨h1, h2, ⟨h3, h4, h5, h6⟩, h7, h8, h9⟩ := hw
  have ok : ∀ w ∈ tWALL, w.before args s = true := fun w h => S.2.2.2.2 w (List.mem_cons_of_mem _ h)
  exact va_runSN S hM ⟨va_cnB np S.2.2.2.2 (tGood h1) rfl h3 h4 (E.2.1 _ hl) (ok _ h2) ⟨h7, h8, h9⟩ ⟨h5, h6⟩, ok _ hi, trivial⟩ ⟨tBlind, fun U hU hW => ⟨rfl, by rw [hU], E.step hS hU hW, by rw [hU]; exact hP⟩⟩ rfl hn hsize hstk (lv_room hrest) hdg ⟨by simp, by simp⟩
theorem tGi {A1 : Array Value} {post : Int32 → tSt → Prop} (hS : va_S (tA n a s.heap.size) s.heap H locs) (hr : va_Run p l e R s m args below meth c H locs 0 0 0 0 (F0 m pc ls stk) rest (va_Qi post (tB wd dC dI) (tA n a H.size) A1) (tA n a H.size))
    (kk : ∀ (r : Int32) (st1 : tSt) (H1 : Heap) (locs1 : List Loc), post r st1 → va_P (dC, dI) vwCl (wd st1) H1 → va_S (tA n a s.heap.size) s.heap H1 locs1 → W p l e R s m args below meth c H1 locs1 0 0 Q (F0 m (pc + 3) ls (.int r :: rest))) : W p l e R s m args below meth c H locs 0 0 Q (F0 m pc ls stk) := by
  refine va_calli hr hS (fun q _ h => tA.mono hS.1 q h) (fun q h => tA.mono hS.1 q h) (fun r u t H1 locs1 ht hvm hw hB hz1 hk1 hS1 => ?_)
  exact kk r u H1 locs1 hw (by rw [← ht]; exact hB) hS1
theorem tGv {A1 : Array Value} {post : tSt → Prop} (hS : va_S (tA n a s.heap.size) s.heap H locs) (hr : va_Run p l e R s m args below meth c H locs 0 0 0 0 (F0 m pc ls stk) rest (va_Qv post (tB wd dC dI) (tA n a H.size) A1) (tA n a H.size))
    (kk : ∀ (st1 : tSt) (H1 : Heap) (locs1 : List Loc), post st1 → va_P (dC, dI) vwCl (wd st1) H1 → va_S (tA n a s.heap.size) s.heap H1 locs1 → W p l e R s m args below meth c H1 locs1 0 0 Q (F0 m (pc + 3) ls rest)) : W p l e R s m args below meth c H locs 0 0 Q (F0 m pc ls stk) := by
  refine va_callv hr hS (fun q _ h => tA.mono hS.1 q h) (fun q h => tA.mono hS.1 q h) (fun u t H1 locs1 ht hvm hw hB hz1 hk1 hS1 => ?_)
  exact kk u H1 locs1 hw (by rw [← ht]; exact hB) hS1
theorem tGr {A1 : Array Value} {post : tSt → Prop} {ra : Nat} (hS : va_S (tA n a s.heap.size) s.heap H locs) (hr : va_Run p l e R s m args below meth c H locs 0 0 0 0 (F0 m pc ls stk) rest (va_Qr post (fun u x t => x = ra ∧ tB wd dC dI u t) (tA n a H.size) A1) (tA n a H.size))
    (kk : ∀ (st1 : tSt) (H1 : Heap) (locs1 : List Loc), post st1 → va_P (dC, dI) vwCl (wd st1) H1 → va_S (tA n a s.heap.size) s.heap H1 locs1 → W p l e R s m args below meth c H1 locs1 0 0 Q (F0 m (pc + 3) ls (.ref ra :: rest))) : W p l e R s m args below meth c H locs 0 0 Q (F0 m pc ls stk) := by
  refine va_callr hr hS (fun q _ h => tA.mono hS.1 q h) (fun q h => tA.mono hS.1 q h) (fun u x t H1 locs1 ht hvm hw hB hz1 hk1 hS1 => ?_)
  obtain ⟨h1, h2⟩ := hB
  subst h1
  exact kk u H1 locs1 hw (by rw [← ht]; exact h2) hS1
theorem tRi {v : Int32} {post : Int32 → tSt → Prop} (S : CallFix p m c cc nL s args (w0 :: tWALL) own) (hr : meth.sig.returnType = some .int) (hlk : meth.locks = false) (hP : va_P (dC, dI) vwCl (wd st) H) (hS : va_S (tA n a s.heap.size) s.heap H locs) (hp : post v st) (hdg : decode cc pc = .ok (.ireturn, 1)) :
    W p l e R s m args below meth c H locs 0 0 (tQi wd n dC dI a args below s post) (F0 m pc ls [.int v]) :=
  W.iret S.1 S.2.1 hr (fun t ht hW => ⟨⟨v, st, rfl, hp, by show va_P _ _ _ t.heap; rw [ht]; exact hP⟩, hS.F ht⟩) hS.2.2 hdg hlk
theorem tRz {v : Int32} {post : Int32 → tSt → Prop} (S : CallFix p m c cc nL s args (w0 :: tWALL) own) (hr : meth.sig.returnType = some .boolean) (hlk : meth.locks = false) (hP : va_P (dC, dI) vwCl (wd st) H) (hS : va_S (tA n a s.heap.size) s.heap H locs) (hv : v = 0 ∨ v = 1) (hp : post v st) (hdg : decode cc pc = .ok (.ireturn, 1)) :
    W p l e R s m args below meth c H locs 0 0 (tQi wd n dC dI a args below s post) (F0 m pc ls [.int v]) :=
  W.zret S.1 S.2.1 hr (by rcases hv with h | h <;> rw [h] <;> decide +kernel) (fun t ht hW => ⟨⟨v, st, rfl, hp, by show va_P _ _ _ t.heap; rw [ht]; exact hP⟩, hS.F ht⟩) hS.2.2 hdg hlk
theorem tRv {post : tSt → Prop} (S : CallFix p m c cc nL s args (w0 :: tWALL) own) (hr : meth.sig.returnType = none) (hlk : meth.locks = false) (hP : va_P (dC, dI) vwCl (wd st) H) (hS : va_S (tA n a s.heap.size) s.heap H locs) (hp : post st) (hdg : decode cc pc = .ok (.return_, 1)) :
    W p l e R s m args below meth c H locs 0 0 (tQv wd n dC dI a args below s post) (F0 m pc ls []) :=
  W.vret S.1 S.2.1 hr (fun t ht hW => ⟨⟨st, rfl, hp, by show va_P _ _ _ t.heap; rw [ht]; exact hP⟩, hS.F ht⟩) hS.2.2 hdg hlk
theorem tRr {ra : Nat} {cn : String} {post : tSt → Prop} (S : CallFix p m c cc nL s args (w0 :: tWALL) own) (hr : meth.sig.returnType = some (.object cn)) (hlk : meth.locks = false) (hP : va_P (dC, dI) vwCl (wd st) H) (hS : va_S (tA n a s.heap.size) s.heap H locs) (hp : post st) (hdg : decode cc pc = .ok (.areturn, 1)) :
    W p l e R s m args below meth c H locs 0 0 (tQr wd n dC dI a args below s ra post) (F0 m pc ls [.ref ra]) :=
  W.aret S.1 S.2.1 hr (Or.inl ⟨cn, rfl⟩) (Or.inr ⟨ra, rfl⟩) (fun t ht hW => ⟨⟨st, ra, rfl, hp, rfl, by show va_P _ _ _ t.heap; rw [ht]; exact hP⟩, hS.F ht⟩) hS.2.2 hdg hlk
end TPC
