/-! the law's own layer: both worlds in one heap -/
def lwEnv (n : Nat) (dC : Nat → ClassId) (dI : Nat → Nat → Nat) (a : Nat → Nat) (ca : Nat → ClassId) (tb : Nat → Nat) (s : State) : Prop :=
  va_K (dC, dI) vwCl (tTys ca) s ∧ tNst s ∧ tTbl tb (fun q => s.heap.size ≤ q) s s.heap ∧ (∀ i j, i < n → j < n → a i = a j → i = j) ∧ (∀ i, i < n → s.heap.size ≤ a i)
theorem lwEnv.step {n : Nat} {dC : Nat → ClassId} {dI : Nat → Nat → Nat} {a : Nat → Nat} {ca : Nat → ClassId} {tb : Nat → Nat} {s U : State} {H : Heap} {locs : List Loc} (E : lwEnv n dC dI a ca tb s) (hS : va_S (fun q => s.heap.size ≤ q) s.heap H locs) (hlt : ∀ i, i < n → a i < H.size) (hU : U.heap = H) (hW : s.WarmedH U.vm) : tEnv n dC dI a ca tb U := by
  subst hU
  refine ⟨va_K.moved hW.alike E.1, E.2.1.warm hW, ((E.2.2.1.moved hW.alike).kept hS.1 hS.2.1).narrow ?_, E.2.2.2.1, hlt⟩
  intro q hq
  rcases hq with ⟨k, hk, rfl⟩ | h
  · exact E.2.2.2.2 k hk
  · exact Nat.le_trans hS.1 h
theorem lw_addr {ws : va_W} {n : Nat} {a : Nat → Nat} (hm : ws.map (fun q => q.1) = (List.range n).map a) (k : Nat) (q : Nat × va_E) (hk : ws[k]? = some q) : k < n ∧ q.1 = a k := by
  have h1 : (ws.map (fun q => q.1))[k]? = some q.1 := by rw [List.getElem?_map, hk]; rfl
  rw [hm, List.getElem?_map] at h1
  by_cases hkn : k < n
  · rw [List.getElem?_range hkn] at h1
    exact ⟨hkn, (Option.some.inj h1).symm⟩
  · rw [List.getElem?_eq_none (by simpa using hkn)] at h1
    cases h1
theorem lw_at {ws : va_W} {n : Nat} {a : Nat → Nat} (hm : ws.map (fun q => q.1) = (List.range n).map a) (k : Nat) (hk : k < n) : ∃ q, ws[k]? = some q ∧ q.1 = a k := by
  have hlen : ws.length = n := by have := congrArg List.length hm; simpa using this
  have h1 : k < ws.length := by omega
  exact ⟨ws[k], List.getElem?_eq_getElem h1, (lw_addr hm k _ (List.getElem?_eq_getElem h1)).2⟩
section LWC
variable {p : Program} {l : Launch} {e : Env} {R : Room} {s : State} {m : MethodId} {args : Array Value} {below : List Frame} {meth : Method} {c : Code} {H : Heap} {locs : List Loc} {cells slots : Nat} {Q : State → Prop}
variable {cc : ByteArray} {nL pc : Nat} {ls : Array Slot} {rest stk : List Value} {b : Nat} {wd wo : tSt → va_W} {st so : tSt} {own : String} {n no : Nat} {dC : Nat → ClassId} {dI : Nat → Nat → Nat} {a ao : Nat → Nat} {ca : Nat → ClassId} {tb : Nat → Nat}
variable {y : MethodName} {bytes : ByteArray} {maxL np index : Nat} {ret : Option FieldType} {rm : Room} {As : List Value}
/-- a call of one side: the other side's world stands -/
theorem lwCall {post : Int32 → tSt → Prop} (S : CallFix p m c cc nL s args lw_tbl own) (E : lwEnv n dC dI a ca tb s) (hwd : ∀ st, (wd st).map (fun q => q.1) = (List.range n).map a) (hwo : ∀ st, (wo st).map (fun q => q.1) = (List.range no).map ao) (hdis : ∀ i j, i < n → j < no → a i ≠ ao j) (hP : va_P (dC, dI) vwCl (wd st) H) (hO : va_P (dC, dI) vwCl (wo so) H) (hS : va_S (fun q => s.heap.size ≤ q) s.heap H locs)
    (hM : Met l y (.code y bytes maxL ret :: tWALL) rm (va_Pc (.ref b :: As) (tPre n wd dC dI a ca tb H.size st)) (va_Qi post (tB wd dC dI) (tA n a H.size)) 0 0 (tA n a H.size))
    (hw : tCw R own index y bytes maxL ret rm np) (hl : Cond.methodLink own index y ∈ tWALL) (hi : Cond.instanceMethod y ∈ tWALL) (hs : Cond.selects y.cls y y ∈ tWALL)
    (q0 ci : Nat) {q : vw_C} {fs : List Value} (hq : vwCl[ci]? = some q) (hqc : q.1 = y.cls) (he : (wd st)[q0]? = some (b, .inr (ci, fs)))
    (hn : As.length = np) (hsize : ls.size = nL) (hstk : stk = As.reverse ++ .ref b :: rest) (hrest : (rest.map fun v => v.category).sum ≤ 8) (hdg : decode cc pc = .ok (.invokevirtual index, 3)) (hcell : cells ≤ R.cells) (hslot : slots ≤ R.slots)
    (kk : ∀ (r : Int32) (st1 : tSt) (H1 : Heap) (locs1 : List Loc), post r st1 → va_P (dC, dI) vwCl (wd st1) H1 → va_P (dC, dI) vwCl (wo so) H1 → va_S (fun q => s.heap.size ≤ q) s.heap H1 locs1 → W p l e R s m args below meth c H1 locs1 cells slots Q (F0 m (pc + 3) ls (.int r :: rest))) : W p l e R s m args below meth c H locs cells slots Q (F0 m pc ls stk) := by
  obtain ⟨h1, h2, ⟨h3, h4, h5, h6⟩, h7, h8, h9⟩ := hw
  have ok : ∀ w ∈ tWALL, w.before args s = true := fun w h => S.2.2.2.2 w (tWALL_in h)
  have hlt : ∀ i, i < n → a i < H.size := by
    intro i hi
    obtain ⟨x, hx, hx2⟩ := lw_at (hwd st) i hi
    rw [← hx2]
    exact (hP i x hx).lt
  have hfree : ∀ x, tA n a H.size x → s.heap.size ≤ x := by
    intro x hx
    rcases hx with ⟨k, hk, rfl⟩ | h
    · exact E.2.2.2.2 k hk
    · exact Nat.le_trans hS.1 h
  have hrecv : ∃ cellB : Cell, H[b]? = some cellB ∧ cellB.vm.isStatics = false ∧ s.vm.findClass y.cls = some cellB.cls := by
    rw [← hqc]
    exact va_recv E.1 hP hq he
  refine va_calli (va_runV (C := y.cls) S hM ⟨callB_of np S.2.2.2.2 (tGoodL h1) rfl h3 h4 (ok _ h2) (ok _ hl) ⟨h7, h8, h9⟩ ⟨h5, h6⟩, ok _ hi, ok _ hs⟩ ⟨tBlind, hrecv, fun U hU hW => ⟨rfl, by rw [hU], E.step hS hlt hU hW, by rw [hU]; exact hP⟩⟩ rfl hn hsize hstk (lv_room hrest) hdg ⟨hcell, hslot⟩) hS (fun x _ h => hfree x h) (fun x h => hfree x h) (fun r u t H1 locs1 ht hvm hw hB hz1 hk1 hS1 => ?_)
  refine kk r u H1 locs1 hw (by rw [← ht]; exact hB) (fun k x hx => ?_) hS1
  obtain ⟨g1, g2⟩ := lw_addr (hwo so) k x hx
  refine (hO k x hx).kept (hk1 x.1 (hO k x hx).lt ?_)
  rintro (⟨i, hi, h⟩ | h)
  · exact hdis i k hi g1 (by rw [← h, ← g2])
  · have := (hO k x hx).lt
    omega
end LWC
theorem lw_go {L i : Nat} (hL : L ≤ 4608) (hi : i ≤ L) (h : ¬ Int32.ofNat L - 9 < nI i) : i + 9 ≤ L := by
  have h1 := Int32.not_lt.mp h
  rw [Int32.le_iff_toInt_le, nI_toInt (by omega)] at h1
  have h2 : (nI L - nI 9).toInt = (L : Int) - 9 := pk_sub_toInt (by omega) (by omega)
  have h3 : (Int32.ofNat L - 9 : Int32) = nI L - nI 9 := rfl
  rw [h3, h2] at h1
  omega
theorem lw_ix {L i k : Nat} (hL : L ≤ 4608) (hi : i + 9 ≤ L) (hk : k < 9) {x z : Int32} (hx : x = nI i) (hz : z = nI k) : vp_in (x + z) L := by
  rw [hx, hz, nI_add]
  exact vp_in_nI (by omega) (by omega)
theorem lw_ix0 {L i : Nat} (hL : L ≤ 4608) (hi : i + 9 ≤ L) {x : Int32} (hx : x = nI i) : vp_in x L := by
  rw [hx]
  exact vp_in_nI (by omega) (by omega)
