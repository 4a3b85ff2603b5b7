section KC2
variable {p : Program} {l : Launch} {e : Env} {R : Room} {s : State} {m : MethodId} {args : Array Value} {below : List Frame} {meth : Method} {c : Code} {H : Heap} {locs : List Loc} {cells slots : Nat} {Q : State → Prop}
variable {cc : ByteArray} {nL pc : Nat} {ls : Array Slot} {rest : List Value} {dC : Nat → ClassId} {dI : Nat → Nat → Nat} {ca : Nat → ClassId} {A : Nat → Prop} {b : Nat} {ws : va_W} {Ts : List Cond} {own : String}
theorem k_iast (hx : p.tables.exec = Jvm.exec) (hb : c.code = cc) (hK : va_K (dC, dI) vwCl (tTys ca) s) (hP : va_P (dC, dI) vwCl ws H) (hD : va_D A ws) (hS : va_S A s.heap H locs) (q0 : Nat) {n : Nat} {f : Nat → Int32} (ha : ws[q0]? = some (b, .inl (ca 0, n, .inl f))) {i x : Int32} (j : Nat) (hj : i.toNatClampNeg = j) (hin : vp_in i n) (hdg : decode cc pc = .ok (.iastore, 1))
    (kk : ∀ (H1 : Heap) (locs1 : List Loc), va_P (dC, dI) vwCl (ws.set q0 (b, .inl (ca 0, n, .inl (upd f j x)))) H1 → va_D A (ws.set q0 (b, .inl (ca 0, n, .inl (upd f j x)))) → va_S A s.heap H1 locs1 → W p l e R s m args below meth c H1 locs1 cells slots Q (F0 m (pc + 1) ls rest)) : W p l e R s m args below meth c H locs cells slots Q (F0 m pc ls (.int x :: .int i :: .ref b :: rest)) := by
  subst hj; exact va_iast hx hb hK hP hD hS q0 0 ha rfl hin hdg kk
theorem k_aast (hx : p.tables.exec = Jvm.exec) (hb : c.code = cc) (hK : va_K (dC, dI) vwCl (tTys ca) s) (hP : va_P (dC, dI) vwCl ws H) (hD : va_D A ws) (hS : va_S A s.heap H locs) (q0 t0 qk ci : Nat) {r : vw_C} {n v : Nat} {vs : List Value} {f : Nat → Option Nat} (ha : ws[q0]? = some (b, .inl (ca t0, n, .inr (.inr (.inr (.inr f)))))) (ht : (tTys ca)[t0]? = some (ca t0, .object r.1)) (hv : ws[qk]? = some (v, .inr (ci, vs))) (hc : vwCl[ci]? = some r) {i : Int32} (j : Nat) (hj : i.toNatClampNeg = j) (hin : vp_in i n) (hdg : decode cc pc = .ok (.aastore, 1))
    (kk : ∀ (H1 : Heap) (locs1 : List Loc), va_P (dC, dI) vwCl (ws.set q0 (b, .inl (ca t0, n, .inr (.inr (.inr (.inr (va_up f j (some v)))))))) H1 → va_D A (ws.set q0 (b, .inl (ca t0, n, .inr (.inr (.inr (.inr (va_up f j (some v)))))))) → va_S A s.heap H1 locs1 → W p l e R s m args below meth c H1 locs1 cells slots Q (F0 m (pc + 1) ls rest)) : W p l e R s m args below meth c H locs cells slots Q (F0 m pc ls (.ref v :: .int i :: .ref b :: rest)) := by
  subst hj; exact va_astq hx hb hK hP hD hS q0 t0 qk ci ha ht hv hc hin hdg kk
theorem k_set {H1 : Heap} {w i : Nat} {e0 e1 : va_E} (hP : va_P (dC, dI) vwCl ws H) (hD : va_D A ws) (hi : ws[i]? = some (w, e0)) (hk : ∀ x : Nat, x < H.size → ¬ kA w H.size x → H1[x]? = H[x]?) (hP1 : va_P (dC, dI) vwCl [(w, e1)] H1) : va_P (dC, dI) vwCl (ws.set i (w, e1)) H1 := by
  have hl := (List.getElem?_eq_some_iff.mp hi).1
  intro k x hkx
  by_cases hki : k = i
  · subst hki
    rw [List.getElem?_set_self hl] at hkx
    cases hkx
    exact hP1 0 _ rfl
  · rw [List.getElem?_set_ne (Ne.symm hki)] at hkx
    refine (hP k x hkx).kept (hk x.1 (hP k x hkx).lt ?_)
    rintro (h | h)
    · exact hki (hD.1 k i x (w, e0) hkx hi h)
    · have := (hP k x hkx).lt
      omega
/-- a static method of the own class on one array -/
theorem k_callS1 {y : MethodName} {bytes : ByteArray} {maxL index : Nat} {rm : Room} {w : Nat} {e0 e1 : va_E} (S : CallFix p m c cc nL s args (Ts) own) (hin0 : ∀ w ∈ tWALL, w ∈ Ts) (hG : GoodIn Ts (.code y bytes maxL none :: tWALL)) (K : kEnv dC dI ca s) (hP : va_P (dC, dI) vwCl ws H) (hD : va_D A ws) (hS : va_S A s.heap H locs) (hA : ∀ q, s.heap.size ≤ q → A q) (i : Nat) (hi : ws[i]? = some (w, e0))
    (hM : ∀ sz : Nat, Met l y (.code y bytes maxL none :: tWALL) rm (va_Pc [.ref w] (kPre dC dI ca sz [(w, e0)])) (kQ dC dI w sz (fun _ => [(w, e1)])) 0 0 (kA w sz)) (hini : Cond.initialized y.cls ∈ tWALL) (hl : Cond.methodLink own index y ∈ tWALL) (hst : Cond.static y ∈ tWALL) (hy2 : y.cls ≠ "java/lang/invoke/MethodHandle" ∧ y.cls ≠ "java/lang/invoke/VarHandle" ∧ (parseMethodDescriptor y.desc).map (fun d => d.parameters.length) = some 1)
    (hroom : rm.cells = 0 ∧ rm.slots = 0 ∧ rm.frames + 1 ≤ R.frames ∧ 8 + (maxL + 11) + rm.locals ≤ R.locals) (hcell : cells ≤ R.cells) (hslot : slots ≤ R.slots) (hsize : ls.size = nL) (hrest : (rest.map fun v => v.category).sum ≤ 8) (hdg : decode cc pc = .ok (.invokestatic index, 3))
    (kk : ∀ (H1 : Heap) (locs1 : List Loc), va_P (dC, dI) vwCl (ws.set i (w, e1)) H1 → va_D A (ws.set i (w, e1)) → va_S A s.heap H1 locs1 → W p l e R s m args below meth c H1 locs1 cells slots Q (F0 m (pc + 3) ls rest)) : W p l e R s m args below meth c H locs cells slots Q (F0 m pc ls (.ref w :: rest)) := by
  obtain ⟨hr1, hr2, hr3, hr4⟩ := hroom
  have ok : ∀ w ∈ tWALL, w.before args s = true := fun w h => S.2.2.2.2 w (hin0 w h)
  have hwA : A w := hD.2 _ _ hi
  refine va_callv (S := Nat → Nat) (va_runS (As := [.ref w]) (rest := rest) S (hM H.size) ⟨callB_of 1 S.2.2.2.2 hG rfl hr1 hr2 (ok _ hini) (ok _ hl) hy2 ⟨hr3, hr4⟩, ok _ hst⟩ ⟨k_blind, fun U hU hW => ⟨rfl, by rw [hU], K.warm hW, ?_⟩⟩ rfl rfl hsize rfl (lv_room hrest) hdg ⟨hcell, hslot⟩) hS (fun x _ h => ?_) (fun x h => ?_) (fun u t H1 locs1 ht hvm hw hB hz1 hk1 hS1 => ?_)
  · rw [hU]
    intro k x hx
    have a1 : k < 1 := (List.getElem?_eq_some_iff.mp hx).1
    have a2 : k = 0 := by omega
    subst a2
    cases hx
    exact hP _ _ hi
  · rcases h with h | h
    · rw [h]; exact hwA
    · exact hA _ (Nat.le_trans hS.1 h)
  · rcases h with h | h
    · rw [h]; exact hwA
    · exact hA _ (Nat.le_trans hS.1 h)
  · obtain ⟨hB1, hB2⟩ := hB
    rw [ht] at hB1
    exact kk H1 locs1 (k_set hP hD hi hk1 hB1) (hD.set hi) hS1
end KC2
theorem k_metS {l : Launch} {y : MethodName} {rm : Room} {cc : ByteArray} {maxL : Nat} {q : Nat} {e0 : va_E} {Qc : Array Value → State → Outcome → State → Prop} {dC : Nat → ClassId} {dI : Nat → Nat → Nat} {ca : Nat → ClassId} {sz mc ms : Nat} (hy : plainName y.cls = true) (hlen : (lg_sl [Value.ref q]).length ≤ maxL)
    (body : ∀ (p : Program) (e : Env) (s : State) (m : MethodId) (below : List Frame) (meth : Method) (c : Code) (ls : Array Slot), CallFix p m c cc maxL s ([Value.ref q] : List Value).toArray (.code y cc maxL none :: tWALL) y.cls → meth.sig.returnType = none → meth.locks = false → s.heap.size = sz → kEnv dC dI ca s → va_P (dC, dI) vwCl [(q, e0)] s.heap → va_D (kA q sz) [(q, e0)] → lv_has ls maxL (lv_args 0 [Value.ref q]) → W p l e rm s m ([Value.ref q] : List Value).toArray below meth c s.heap [] 0 0 (MQ below Qc ([Value.ref q] : List Value).toArray s mc ms (kA q sz)) (F0 m 0 ls [])) :
    Met l y (.code y cc maxL none :: tWALL) rm (va_Pc [.ref q] (kPre dC dI ca sz [(q, e0)])) Qc mc ms (kA q sz) := by
  refine Met.ofW (cc := cc) (maxL := maxL) (ret := none) hy rfl ?_
  intro p e s m args below meth c s₁ B hml hv
  obtain ⟨rfl, hsz, hE, hP⟩ := hv
  rw [lg_entry_eq]
  refine body p e s m below meth c _ ⟨B.exec, B.bytes, hml, findClass_of_methodNamed B.named, atoms_spec (ws := _) B.pre⟩ B.returns B.notSynchronized hsz hE hP ?_ (lv_entry [Value.ref q] hlen)
  refine ⟨fun i j p q h1 h2 _ => ?_, fun k x hx => ?_⟩
  · have a1 : i < 1 := (List.getElem?_eq_some_iff.mp h1).1
    have a2 : j < 1 := (List.getElem?_eq_some_iff.mp h2).1
    omega
  · have a1 : k < 1 := (List.getElem?_eq_some_iff.mp hx).1
    have a2 : k = 0 := by omega
    subst a2
    cases hx
    exact Or.inl rfl
