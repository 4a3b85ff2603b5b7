/-! makings: worlds that grow -/
def kEnv (dC : Nat → ClassId) (dI : Nat → Nat → Nat) (ca : Nat → ClassId) (U : State) : Prop := va_K (dC, dI) vwCl (tTys ca) U ∧ tNst U ∧ va_AO RX2 U ∧ va_AO RX0 U ∧ va_AO RX6 U
theorem kEnv.warm {dC : Nat → ClassId} {dI : Nat → Nat → Nat} {ca : Nat → ClassId} {s U : State} (K : kEnv dC dI ca s) (hW : s.WarmedH U.vm) : kEnv dC dI ca U := ⟨va_K.moved hW.alike K.1, K.2.1.warm hW, va_AO.moved hW.alike K.2.2.1, va_AO.moved hW.alike K.2.2.2.1, va_AO.moved hW.alike K.2.2.2.2⟩
theorem kEnv.blind {dC : Nat → ClassId} {dI : Nat → Nat → Nat} {ca : Nat → ClassId} {U : State} (K : kEnv dC dI ca U) (g : JFrame) (mk : MethodId) (v : Array Value) : kEnv dC dI ca (U.calling g mk v) := ⟨va_K.moved (u := U) (U := U.calling g mk v) (Vm.Alike.refl U.vm) K.1, tNst.same (u := U) (U := U.calling g mk v) rfl K.2.1, va_AO.moved (u := U) (U := U.calling g mk v) (Vm.Alike.refl U.vm) K.2.2.1, va_AO.moved (u := U) (U := U.calling g mk v) (Vm.Alike.refl U.vm) K.2.2.2.1, va_AO.moved (u := U) (U := U.calling g mk v) (Vm.Alike.refl U.vm) K.2.2.2.2⟩
def kA (q sz : Nat) : Nat → Prop := fun x => x = q ∨ sz ≤ x
def kPre (dC : Nat → ClassId) (dI : Nat → Nat → Nat) (ca : Nat → ClassId) (sz : Nat) (ws : va_W) : State → Prop := fun U => U.heap.size = sz ∧ kEnv dC dI ca U ∧ va_P (dC, dI) vwCl ws U.heap
def kB (dC : Nat → ClassId) (dI : Nat → Nat → Nat) (q sz : Nat) (wn : (Nat → Nat) → va_W) : (Nat → Nat) → State → Prop := fun as t => va_P (dC, dI) vwCl (wn as) t.heap ∧ va_D (kA q sz) (wn as)
def kQ (dC : Nat → ClassId) (dI : Nat → Nat → Nat) (q sz : Nat) (wn : (Nat → Nat) → va_W) : Array Value → State → Outcome → State → Prop := va_Qv (fun _ : Nat → Nat => True) (kB dC dI q sz wn) (kA q sz)
theorem k_blind {dC : Nat → ClassId} {dI : Nat → Nat → Nat} {ca : Nat → ClassId} {av : List Value} {sz : Nat} {ws : va_W} : FrameBlind (va_Pc av (kPre dC dI ca sz ws)) := fun x U g mk q => ⟨q.1, q.2.1, q.2.2.1.blind g mk x, q.2.2.2⟩
theorem k_met {l : Launch} {y : MethodName} {rm : Room} {cc : ByteArray} {maxL : Nat} {q : Nat} {e0 : va_E} {Qc : Array Value → State → Outcome → State → Prop} {dC : Nat → ClassId} {dI : Nat → Nat → Nat} {ca : Nat → ClassId} {sz mc ms : Nat} (hy : plainName y.cls = true) (hn : y.name = "<init>") (hlen : (lg_sl [Value.ref q]).length ≤ maxL)
    (body : ∀ (p : Program) (e : Env) (s : State) (m : MethodId) (below : List Frame) (meth : Method) (c : Code) (ls : Array Slot), CallFix p m c cc maxL s ([Value.ref q] : List Value).toArray (.code y cc maxL none :: tWALL) y.cls → meth.sig.returnType = none → meth.locks = false → meth.name = "<init>" → s.heap.size = sz → kEnv dC dI ca s → va_P (dC, dI) vwCl [(q, e0)] s.heap → va_D (kA q sz) [(q, e0)] → lv_has ls maxL (lv_args 0 [Value.ref q]) → W p l e rm s m ([Value.ref q] : List Value).toArray below meth c s.heap [] 0 0 (MQ below Qc ([Value.ref q] : List Value).toArray s mc ms (kA q sz)) (F0 m 0 ls [])) :
    Met l y (.code y cc maxL none :: tWALL) rm (va_Pc [.ref q] (kPre dC dI ca sz [(q, e0)])) Qc mc ms (kA q sz) := by
  refine Met.ofW (cc := cc) (maxL := maxL) (ret := none) hy rfl ?_
  intro p e s m args below meth c s₁ B hml hv
  obtain ⟨rfl, hsz, hE, hP⟩ := hv
  rw [lg_entry_eq]
  refine body p e s m below meth c _ ⟨B.exec, B.bytes, hml, findClass_of_methodNamed B.named, atoms_spec (ws := _) B.pre⟩ B.returns B.notSynchronized ?_ hsz hE hP ?_ (lv_entry [Value.ref q] hlen)
  · rw [← hn]; exact (name_of_methodNamed B.named B.method).1
  · refine ⟨fun i j p q h1 h2 _ => ?_, fun k x hx => ?_⟩
    · have a1 : i < 1 := (List.getElem?_eq_some_iff.mp h1).1
      have a2 : j < 1 := (List.getElem?_eq_some_iff.mp h2).1
      omega
    · have a1 : k < 1 := (List.getElem?_eq_some_iff.mp hx).1
      have a2 : k = 0 := by omega
      subst a2
      cases hx
      exact Or.inl rfl
section KCT
variable {p : Program} {l : Launch} {e : Env} {R : Room} {s : State} {m : MethodId} {args : Array Value} {below : List Frame} {meth : Method} {c : Code} {H : Heap} {locs : List Loc} {cells slots : Nat} {Q : State → Prop}
variable {cc : ByteArray} {nL pc : Nat} {ls : Array Slot} {rest : List Value} {dC : Nat → ClassId} {dI : Nat → Nat → Nat} {ca : Nat → ClassId} {A : Nat → Prop} {b : Nat} {ws : va_W} {Ts : List Cond} {own : String}
theorem k_newI (hx : p.tables.exec = Jvm.exec) (hb : c.code = cc) (harr : (Cond.arrayClass .int).before args s = true) (hK : va_K (dC, dI) vwCl (tTys ca) s) (hP : va_P (dC, dI) vwCl ws H) (hD : va_D A ws) (hS : va_S A s.heap H locs) (hA : ∀ q, s.heap.size ≤ q → A q) {n : Int32} (N' : Nat) (hn : ¬ n < 0) (hN : n.toNatClampNeg = N') (hby : N' * 4 ≤ 536870912) (hc : cells + 1 ≤ R.cells) (hs : slots + N' ≤ R.slots) (hdg : decode cc pc = .ok (.newarray .int, 2))
    (kk : ∀ (q : Nat) (H1 : Heap), va_P (dC, dI) vwCl (ws ++ [(q, .inl (ca 0, N', .inl (fun _ => 0)))]) H1 → va_D A (ws ++ [(q, .inl (ca 0, N', .inl (fun _ => 0)))]) → va_S A s.heap H1 locs → W p l e R s m args below meth c H1 locs (cells + 1) (slots + N') Q (F0 m (pc + 2) ls (.ref q :: rest))) : W p l e R s m args below meth c H locs cells slots Q (F0 m pc ls (.int n :: rest)) := by
  refine va_newa (atype := .int) hx hb harr (ty := .int) rfl hK hP hD hS hA (a0 := (N', .inl (fun _ => 0))) (fun cA => rfl) hn hN hby hc hs hdg ?_
  intro q cA H1 h1 h2 h3 h4
  have e1 : s.vm.findClass ("[" ++ FieldType.int.toString) = some cA := (h1.2 5 (cA, .int) rfl).2
  have e2 : s.vm.findClass ("[" ++ FieldType.int.toString) = some (ca 0) := (hK.2 0 (ca 0, .int) rfl).2
  have e3 : cA = ca 0 := Option.some.inj (e1.symm.trans e2)
  subst e3
  exact kk q H1 h2 h3 h4
theorem k_newB (hx : p.tables.exec = Jvm.exec) (hb : c.code = cc) (harr : (Cond.arrayClass .byte).before args s = true) (hK : va_K (dC, dI) vwCl (tTys ca) s) (hP : va_P (dC, dI) vwCl ws H) (hD : va_D A ws) (hS : va_S A s.heap H locs) (hA : ∀ q, s.heap.size ≤ q → A q) {n : Int32} (N' : Nat) (hn : ¬ n < 0) (hN : n.toNatClampNeg = N') (hby : N' * 1 ≤ 536870912) (hc : cells + 1 ≤ R.cells) (hs : slots + N' ≤ R.slots) (hdg : decode cc pc = .ok (.newarray .byte, 2))
    (kk : ∀ (q : Nat) (H1 : Heap), va_P (dC, dI) vwCl (ws ++ [(q, .inl (ca 4, N', .inl (fun _ => 0)))]) H1 → va_D A (ws ++ [(q, .inl (ca 4, N', .inl (fun _ => 0)))]) → va_S A s.heap H1 locs → W p l e R s m args below meth c H1 locs (cells + 1) (slots + N') Q (F0 m (pc + 2) ls (.ref q :: rest))) : W p l e R s m args below meth c H locs cells slots Q (F0 m pc ls (.int n :: rest)) := by
  refine va_newa (atype := .byte) hx hb harr (ty := .byte) rfl hK hP hD hS hA (a0 := (N', .inl (fun _ => 0))) (fun cA => rfl) hn hN hby hc hs hdg ?_
  intro q cA H1 h1 h2 h3 h4
  have e1 : s.vm.findClass ("[" ++ FieldType.byte.toString) = some cA := (h1.2 5 (cA, .byte) rfl).2
  have e2 : s.vm.findClass ("[" ++ FieldType.byte.toString) = some (ca 4) := (hK.2 4 (ca 4, .byte) rfl).2
  have e3 : cA = ca 4 := Option.some.inj (e1.symm.trans e2)
  subst e3
  exact kk q H1 h2 h3 h4
theorem k_newq (hx : p.tables.exec = Jvm.exec) (hb : c.code = cc) {C : String} {index : Nat} (hown : s.vm.findClass own = some m.cls) (hcl : (Cond.classLink own index C).before args s = true) (hov : va_AO C s) (t0 : Nat) (ht : (tTys ca)[t0]? = some (ca t0, .object C)) (hK : va_K (dC, dI) vwCl (tTys ca) s) (hP : va_P (dC, dI) vwCl ws H) (hD : va_D A ws) (hS : va_S A s.heap H locs) (hA : ∀ q, s.heap.size ≤ q → A q) {n : Int32} (N' : Nat) (hn : ¬ n < 0) (hN : n.toNatClampNeg = N') (hby : N' * 4 ≤ 536870912) (hc : cells + 1 ≤ R.cells) (hs : slots + N' ≤ R.slots) (hdg : decode cc pc = .ok (.anewarray index, 3))
    (kk : ∀ (q : Nat) (H1 : Heap), va_P (dC, dI) vwCl (ws ++ [(q, .inl (ca t0, N', .inr (.inr (.inr (.inr (fun _ => none))))))]) H1 → va_D A (ws ++ [(q, .inl (ca t0, N', .inr (.inr (.inr (.inr (fun _ => none))))))]) → va_S A s.heap H1 locs → W p l e R s m args below meth c H1 locs (cells + 1) (slots + N') Q (F0 m (pc + 3) ls (.ref q :: rest))) : W p l e R s m args below meth c H locs cells slots Q (F0 m pc ls (.int n :: rest)) := by
  refine va_newq hx hb hown hcl hov hK hP hD hS hA hn hN hby hc hs hdg ?_
  intro q cA H1 h1 h2 h3 h4
  obtain ⟨-, -, -, -, -, e1⟩ := (h1.2 5 (cA, .object C) rfl).2
  obtain ⟨-, -, -, -, -, e2⟩ := (hK.2 t0 _ ht).2
  have e3 : cA = ca t0 := Option.some.inj (e1.symm.trans e2)
  rw [e3] at h2 h3
  exact kk q H1 h2 h3 h4
/-- behind a making: what was there stands, and the new cells beside it -/
theorem k_grow {H' H1 : Heap} {q : Nat} {e0 : va_E} {wn : va_W} (hP : va_P (dC, dI) vwCl (ws ++ [(q, e0)]) H') (hD : va_D A (ws ++ [(q, e0)])) (hz : s.heap.size ≤ H'.size) (hA : ∀ q, s.heap.size ≤ q → A q) (hk : ∀ x : Nat, x < H'.size → ¬ kA q H'.size x → H1[x]? = H'[x]?) (hP1 : va_P (dC, dI) vwCl wn H1) (hD1 : va_D (kA q H'.size) wn) : va_P (dC, dI) vwCl (ws ++ wn) H1 ∧ va_D A (ws ++ wn) := by
  have hlast : (ws ++ [(q, e0)])[ws.length]? = some (q, e0) := by simp
  have hqA : A q := hD.2 _ _ hlast
  have hws : ∀ (k : Nat) (x : Nat × va_E), ws[k]? = some x → (ws ++ [(q, e0)])[k]? = some x ∧ x.1 < H'.size ∧ x.1 ≠ q := by
    intro k x hx
    have hl : k < ws.length := (List.getElem?_eq_some_iff.mp hx).1
    have h1 : (ws ++ [(q, e0)])[k]? = some x := by rw [List.getElem?_append_left hl]; exact hx
    refine ⟨h1, (hP k x h1).lt, fun h => ?_⟩
    have := hD.1 k ws.length x (q, e0) h1 hlast h
    omega
  refine ⟨va_P.app (fun k x hx => ?_) hP1, va_D.app ⟨fun i j x y hi hj hxy => ?_, fun k x hx => hD.2 k x (hws k x hx).1⟩ (hD1.weaken (fun k x _ h => ?_)) (fun i j x y hx hy hxy => ?_)⟩
  · obtain ⟨h1, h2, h3⟩ := hws k x hx
    refine (hP k x h1).kept (hk x.1 h2 ?_)
    rintro (h | h)
    · exact h3 h
    · omega
  · exact hD.1 i j x y (hws i x hi).1 (hws j y hj).1 hxy
  · rcases h with h | h
    · rw [h]; exact hqA
    · exact hA _ (Nat.le_trans hz h)
  · obtain ⟨h1, h2, h3⟩ := hws i x hx
    rcases hD1.2 j y hy with h | h
    · exact h3 (hxy.trans h)
    · omega
theorem k_refarr {cA : ClassId} {n : Nat} {f g : Nat → Option Nat} (hP : va_P (dC, dI) vwCl ws H) (i : Nat) (hi : ws[i]? = some (b, .inl (cA, n, .inr (.inr (.inr (.inr f)))))) (hfg : ∀ j, j < n → f j = g j) : va_P (dC, dI) vwCl (ws.set i (b, .inl (cA, n, .inr (.inr (.inr (.inr g)))))) H := by
  have hl := (List.getElem?_eq_some_iff.mp hi).1
  intro k x hk
  by_cases hki : k = i
  · subst hki
    rw [List.getElem?_set_self hl] at hk
    cases hk
    have h0 : H[b]? = some (vp_cell cA (n, .inr (.inr (.inr (.inr f))))) := hP k _ hi
    show H[b]? = some (vp_cell cA (n, .inr (.inr (.inr (.inr g)))))
    rw [h0, vp_cell_q, vp_cell_q]
    congr 1
    simp only [arrV]
    congr 2
    funext j
    rw [hfg j.val j.isLt]
  · rw [List.getElem?_set_ne (Ne.symm hki)] at hk
    exact hP k x hk
theorem k_putF (S : CallFix p m c cc nL s args (Ts) own) (hin0 : ∀ w ∈ tWALL, w ∈ Ts) (hK : va_K (dC, dI) vwCl (tTys ca) s) (hP : va_P (dC, dI) vwCl ws H) (hD : va_D A ws) (hS : va_S A s.heap H locs) {C : String} {T : u_T} {N ci index : Nat} (hin : ∀ w ∈ u_ws C T N, w ∈ tWALL) (ty0 : Nat → FieldType) (hty : ∀ k, k < N → parseFieldDescriptor (T k).2.2.1 = some (ty0 k)) (hnm : ∀ a, a < N → ∀ b, b < N → a ≠ b → (T a).2.1 ≠ (T b).2.1) (hnme : meth.name = "<init>") (q0 : Nat) {fs : List Value} (he : ws[q0]? = some (b, .inr (ci, fs))) (hc : vwCl[ci]? = some (C, T, N)) (k : Nat) (hk : k < N) (hlink : Cond.fieldLink own index (T k).1 (T k).2.1 (T k).2.2.1 ∈ tWALL) (hfin : (T k).2.2.2 = true) (hdecl : (T k).1 = own) {ty : FieldType} {v : Value} (hd : parseFieldDescriptor (T k).2.2.1 = some ty) (hn : narrow ty v = v) (hfit : fits ty v = true) (hl : k < fs.length)
    (hdg : decode cc pc = .ok (.putfield index, 3)) (kk : ∀ (H1 : Heap) (locs1 : List Loc), va_P (dC, dI) vwCl (ws.set q0 (b, .inr (ci, fs.set k v))) H1 → va_D A (ws.set q0 (b, .inr (ci, fs.set k v))) → va_S A s.heap H1 locs1 → W p l e R s m args below meth c H1 locs1 cells slots Q (F0 m (pc + 3) ls rest)) : W p l e R s m args below meth c H locs cells slots Q (F0 m pc ls (v :: .ref b :: rest)) :=
  va_putF S.1 S.2.1 S.2.2.2.2 (fun w h => hin0 _ (hin w h)) ty0 hty hnm S.2.2.2.1 hK hP hD hS q0 he hc k hk (S.2.2.2.2 _ (hin0 _ hlink)) (fun _ h => h) hfin hnme hdecl hd hn hfit hl hdg kk
theorem k_put (S : CallFix p m c cc nL s args (Ts) own) (hin0 : ∀ w ∈ tWALL, w ∈ Ts) (hK : va_K (dC, dI) vwCl (tTys ca) s) (hP : va_P (dC, dI) vwCl ws H) (hD : va_D A ws) (hS : va_S A s.heap H locs) {C : String} {T : u_T} {N ci index : Nat} (hin : ∀ w ∈ u_ws C T N, w ∈ tWALL) (ty0 : Nat → FieldType) (hty : ∀ k, k < N → parseFieldDescriptor (T k).2.2.1 = some (ty0 k)) (hnm : ∀ a, a < N → ∀ b, b < N → a ≠ b → (T a).2.1 ≠ (T b).2.1) (q0 : Nat) {fs : List Value} (he : ws[q0]? = some (b, .inr (ci, fs))) (hc : vwCl[ci]? = some (C, T, N)) (k : Nat) (hk : k < N) (hlink : Cond.fieldLink own index (T k).1 (T k).2.1 (T k).2.2.1 ∈ tWALL) (hfin : (T k).2.2.2 = false) {ty : FieldType} {v : Value} (hd : parseFieldDescriptor (T k).2.2.1 = some ty) (hn : narrow ty v = v) (hfit : fits ty v = true) (hl : k < fs.length)
    (hdg : decode cc pc = .ok (.putfield index, 3)) (kk : ∀ (H1 : Heap) (locs1 : List Loc), va_P (dC, dI) vwCl (ws.set q0 (b, .inr (ci, fs.set k v))) H1 → va_D A (ws.set q0 (b, .inr (ci, fs.set k v))) → va_S A s.heap H1 locs1 → W p l e R s m args below meth c H1 locs1 cells slots Q (F0 m (pc + 3) ls rest)) : W p l e R s m args below meth c H locs cells slots Q (F0 m pc ls (v :: .ref b :: rest)) :=
  va_put S.1 S.2.1 S.2.2.2.2 (fun w h => hin0 _ (hin w h)) ty0 hty hnm S.2.2.2.1 hK hP hD hS q0 he hc k hk (S.2.2.2.2 _ (hin0 _ hlink)) (fun _ h => h) hfin hd hn hfit hl hdg kk
theorem k_get (S : CallFix p m c cc nL s args (Ts) own) (hin0 : ∀ w ∈ tWALL, w ∈ Ts) (hK : va_K (dC, dI) vwCl (tTys ca) s) (hP : va_P (dC, dI) vwCl ws H) {C : String} {T : u_T} {N ci index : Nat} (hin : ∀ w ∈ u_ws C T N, w ∈ tWALL) (q0 : Nat) {fs : List Value} (he : ws[q0]? = some (b, .inr (ci, fs))) (hc : vwCl[ci]? = some (C, T, N)) (k : Nat) (hk : k < N) (hlink : Cond.fieldLink own index (T k).1 (T k).2.1 (T k).2.2.1 ∈ tWALL) {v : Value} (hv : fs[k]? = some v) (hdg : decode cc pc = .ok (.getfield index, 3))
    (kk : W p l e R s m args below meth c H locs cells slots Q (F0 m (pc + 3) ls (v :: rest))) : W p l e R s m args below meth c H locs cells slots Q (F0 m pc ls (.ref b :: rest)) :=
  va_get S.1 S.2.1 S.2.2.2.2 (fun w h => hin0 _ (hin w h)) S.2.2.2.1 hK hP q0 he hc k hk (S.2.2.2.2 _ (hin0 _ hlink)) (fun _ h => h) hv hdg kk
/-- new, dup, invokespecial of a nest mate's constructor -/
theorem k_mkN {host : String} {y : MethodName} {bytes : ByteArray} {maxL index idx2 : Nat} {rm : Room} {C : String} {T : u_T} {N ci mc ms : Nat} {fs : List Value} {wn : Nat → (Nat → Nat) → va_W} (S : CallFix p m c cc nL s args (Ts) own) (hin0 : ∀ w ∈ tWALL, w ∈ Ts) (hG : GoodIn Ts (.code y bytes maxL none :: tWALL)) (K : kEnv dC dI ca s) (hP : va_P (dC, dI) vwCl ws H) (hD : va_D A ws) (hS : va_S A s.heap H locs) (hA : ∀ q, s.heap.size ≤ q → A q)
    (hin : ∀ w ∈ u_ws C T N, w ∈ tWALL) (ty : Nat → FieldType) (hty : ∀ k, k < N → parseFieldDescriptor (T k).2.2.1 = some (ty k)) (hc : vwCl[ci]? = some (C, T, N)) (hcl : Cond.classLink own index C ∈ tWALL) (hinst : Cond.instantiable C N ∈ tWALL) (hini : Cond.initialized C ∈ tWALL) (hfs : ∀ j, j < N → defaultValue (ty j) = vp_V fs j)
    (hM : ∀ (q sz : Nat), Met l y (.code y bytes maxL none :: tWALL) rm (va_Pc [.ref q] (kPre dC dI ca sz [(q, .inr (ci, fs))])) (kQ dC dI q sz (wn q)) mc ms (kA q sz)) (hyC : y.cls = C) (hyn : y.name = "<init>") (hl : Cond.methodLinkNest own idx2 y host ∈ tNEST) (him : Cond.instanceMethod y ∈ tWALL) (hy2 : y.cls ≠ "java/lang/invoke/MethodHandle" ∧ y.cls ≠ "java/lang/invoke/VarHandle" ∧ (parseMethodDescriptor y.desc).map (fun d => d.parameters.length) = some 0)
    (hroom : rm.cells = mc ∧ rm.slots = ms ∧ rm.frames + 1 ≤ R.frames ∧ 8 + (maxL + 11) + rm.locals ≤ R.locals) (hcell : cells + 1 + mc ≤ R.cells) (hslot : slots + N + ms ≤ R.slots) (hsize : ls.size = nL) (hrest : ((Value.ref 0 :: rest).map fun v => v.category).sum ≤ 8)
    (d1 : decode cc pc = .ok (.new index, 3)) (d2 : decode cc (pc + 3) = .ok (.dup, 1)) (d3 : decode cc (pc + 4) = .ok (.invokespecial idx2, 3))
    (kk : ∀ (q : Nat) (as : Nat → Nat) (H1 : Heap) (locs1 : List Loc), va_P (dC, dI) vwCl (ws ++ wn q as) H1 → va_D A (ws ++ wn q as) → va_S A s.heap H1 locs1 → W p l e R s m args below meth c H1 locs1 (cells + 1 + mc) (slots + N + ms) Q (F0 m (pc + 7) ls (.ref q :: rest))) : W p l e R s m args below meth c H locs cells slots Q (F0 m pc ls rest) := by
  obtain ⟨hr1, hr2, hr3, hr4⟩ := hroom
  have ok : ∀ w ∈ tWALL, w.before args s = true := fun w h => S.2.2.2.2 w (hin0 w h)
  refine va_new (ci := ci) (fs := fs) (C := C) (T := T) (N := N) S.1 S.2.1 S.2.2.2.2 (fun w h => hin0 _ (hin w h)) ty hty S.2.2.2.1 (ok _ hcl) (ok _ hinst) (ok _ hini) K.1 hP hD hS hA hc hfs (by omega) (by omega) d1 (fun q H' hP' hD' hS' => ?_)
  refine lv_dup S.1 S.2.1 d2 rfl ?_
  have hlast : (ws ++ [(q, (.inr (ci, fs) : va_E))])[ws.length]? = some (q, .inr (ci, fs)) := by simp
  have hqA : A q := hD'.2 _ _ hlast
  refine va_callv (S := Nat → Nat) (va_runIN (host := host) (As := []) (rest := .ref q :: rest) S (hM q H'.size) ⟨va_cnB 0 S.2.2.2.2 hG rfl hr1 hr2 (K.2.1 _ hl) (by rw [hyC]; exact ok _ hini) hy2 ⟨hr3, hr4⟩, hyn, ok _ him⟩ ⟨k_blind, fun U hU hW => ⟨rfl, by rw [hU], K.warm hW, ?_⟩⟩ rfl rfl hsize rfl (lv_room (m := m) (pc := 0) (ls := ls) (rest := []) (by simpa [Value.category] using hrest)) d3 ⟨hcell, hslot⟩) hS' (fun x _ h => ?_) (fun x h => ?_) (fun u t H1 locs1 ht hvm hw hB hz1 hk1 hS1 => ?_)
  · rw [hU]
    intro k x hx
    have a1 : k < 1 := (List.getElem?_eq_some_iff.mp hx).1
    have a2 : k = 0 := by omega
    subst a2
    cases hx
    exact hP' _ _ hlast
  · rcases h with h | h
    · rw [h]; exact hqA
    · exact hA _ (Nat.le_trans hS'.1 h)
  · rcases h with h | h
    · rw [h]; exact hqA
    · exact hA _ (Nat.le_trans hS'.1 h)
  · obtain ⟨hB1, hB2⟩ := hB
    rw [ht] at hB1
    obtain ⟨g1, g2⟩ := k_grow hP' hD' hS'.1 hA hk1 hB1 hB2
    exact kk q u H1 locs1 g1 g2 hS1
/-- the same of a constructor that is linked plainly -/
theorem k_mk {y : MethodName} {bytes : ByteArray} {maxL index idx2 : Nat} {rm : Room} {C : String} {T : u_T} {N ci mc ms : Nat} {fs : List Value} {wn : Nat → (Nat → Nat) → va_W} (S : CallFix p m c cc nL s args (Ts) own) (hin0 : ∀ w ∈ tWALL, w ∈ Ts) (hG : GoodIn Ts (.code y bytes maxL none :: tWALL)) (K : kEnv dC dI ca s) (hP : va_P (dC, dI) vwCl ws H) (hD : va_D A ws) (hS : va_S A s.heap H locs) (hA : ∀ q, s.heap.size ≤ q → A q)
    (hin : ∀ w ∈ u_ws C T N, w ∈ tWALL) (ty : Nat → FieldType) (hty : ∀ k, k < N → parseFieldDescriptor (T k).2.2.1 = some (ty k)) (hc : vwCl[ci]? = some (C, T, N)) (hcl : Cond.classLink own index C ∈ tWALL) (hinst : Cond.instantiable C N ∈ tWALL) (hini : Cond.initialized C ∈ tWALL) (hfs : ∀ j, j < N → defaultValue (ty j) = vp_V fs j)
    (hM : ∀ (q sz : Nat), Met l y (.code y bytes maxL none :: tWALL) rm (va_Pc [.ref q] (kPre dC dI ca sz [(q, .inr (ci, fs))])) (kQ dC dI q sz (wn q)) mc ms (kA q sz)) (hyC : y.cls = C) (hyn : y.name = "<init>") (hl : Cond.methodLink own idx2 y ∈ tWALL) (him : Cond.instanceMethod y ∈ tWALL) (hy2 : y.cls ≠ "java/lang/invoke/MethodHandle" ∧ y.cls ≠ "java/lang/invoke/VarHandle" ∧ (parseMethodDescriptor y.desc).map (fun d => d.parameters.length) = some 0)
    (hroom : rm.cells = mc ∧ rm.slots = ms ∧ rm.frames + 1 ≤ R.frames ∧ 8 + (maxL + 11) + rm.locals ≤ R.locals) (hcell : cells + 1 + mc ≤ R.cells) (hslot : slots + N + ms ≤ R.slots) (hsize : ls.size = nL) (hrest : ((Value.ref 0 :: rest).map fun v => v.category).sum ≤ 8)
    (d1 : decode cc pc = .ok (.new index, 3)) (d2 : decode cc (pc + 3) = .ok (.dup, 1)) (d3 : decode cc (pc + 4) = .ok (.invokespecial idx2, 3))
    (kk : ∀ (q : Nat) (as : Nat → Nat) (H1 : Heap) (locs1 : List Loc), va_P (dC, dI) vwCl (ws ++ wn q as) H1 → va_D A (ws ++ wn q as) → va_S A s.heap H1 locs1 → W p l e R s m args below meth c H1 locs1 (cells + 1 + mc) (slots + N + ms) Q (F0 m (pc + 7) ls (.ref q :: rest))) : W p l e R s m args below meth c H locs cells slots Q (F0 m pc ls rest) := by
  obtain ⟨hr1, hr2, hr3, hr4⟩ := hroom
  have ok : ∀ w ∈ tWALL, w.before args s = true := fun w h => S.2.2.2.2 w (hin0 w h)
  refine va_new (ci := ci) (fs := fs) (C := C) (T := T) (N := N) S.1 S.2.1 S.2.2.2.2 (fun w h => hin0 _ (hin w h)) ty hty S.2.2.2.1 (ok _ hcl) (ok _ hinst) (ok _ hini) K.1 hP hD hS hA hc hfs (by omega) (by omega) d1 (fun q H' hP' hD' hS' => ?_)
  refine lv_dup S.1 S.2.1 d2 rfl ?_
  have hlast : (ws ++ [(q, (.inr (ci, fs) : va_E))])[ws.length]? = some (q, .inr (ci, fs)) := by simp
  have hqA : A q := hD'.2 _ _ hlast
  refine va_callv (S := Nat → Nat) (va_runI (As := []) (rest := .ref q :: rest) S (hM q H'.size) ⟨callB_of 0 S.2.2.2.2 hG rfl hr1 hr2 (by rw [hyC]; exact ok _ hini) (ok _ hl) hy2 ⟨hr3, hr4⟩, hyn, ok _ him⟩ ⟨k_blind, fun U hU hW => ⟨rfl, by rw [hU], K.warm hW, ?_⟩⟩ rfl rfl hsize rfl (lv_room (m := m) (pc := 0) (ls := ls) (rest := []) (by simpa [Value.category] using hrest)) d3 ⟨hcell, hslot⟩) hS' (fun x _ h => ?_) (fun x h => ?_) (fun u t H1 locs1 ht hvm hw hB hz1 hk1 hS1 => ?_)
  · rw [hU]
    intro k x hx
    have a1 : k < 1 := (List.getElem?_eq_some_iff.mp hx).1
    have a2 : k = 0 := by omega
    subst a2
    cases hx
    exact hP' _ _ hlast
  · rcases h with h | h
    · rw [h]; exact hqA
    · exact hA _ (Nat.le_trans hS'.1 h)
  · rcases h with h | h
    · rw [h]; exact hqA
    · exact hA _ (Nat.le_trans hS'.1 h)
  · obtain ⟨hB1, hB2⟩ := hB
    rw [ht] at hB1
    obtain ⟨g1, g2⟩ := k_grow hP' hD' hS'.1 hA hk1 hB1 hB2
    exact kk q u H1 locs1 g1 g2 hS1
theorem k_ret {wn : (Nat → Nat) → va_W} {q : Nat} (S : CallFix p m c cc nL s args (Ts) own) (hr : meth.sig.returnType = none) (hlk : meth.locks = false) (as : Nat → Nat) (hP : va_P (dC, dI) vwCl (wn as) H) (hD : va_D (kA q s.heap.size) (wn as)) (hS : va_S (kA q s.heap.size) s.heap H locs) (hdg : decode cc pc = .ok (.return_, 1)) :
    W p l e R s m args below meth c H locs cells slots (MQ below (kQ dC dI q s.heap.size wn) args s cells slots (kA q s.heap.size)) (F0 m pc ls []) :=
  W.vret S.1 S.2.1 hr (fun t ht hW => ⟨⟨as, rfl, trivial, by rw [ht]; exact hP, hD⟩, hS.F ht⟩) hS.2.2 hdg hlk
end KCT
