abbrev rmX8_tunesOf : Room := { frames := 6, cells := 0, slots := 0, locals := 136 }
theorem cw_X8_tunesOf {R : Room} {own : String} {index : Nat} (h : rmX8_tunesOf.frames + 1 ≤ R.frames ∧ 8 + (6 + 11) + rmX8_tunesOf.locals ≤ R.locals) : tCw R own index yX8_tunesOf cX8_tunesOf 6 none rmX8_tunesOf 0 := ⟨kw_497, kw_373, ⟨rfl, rfl, h.1, h.2⟩, by decide +kernel, by decide +kernel, by decide +kernel⟩
set_option maxHeartbeats 4000000 in
set_option maxRecDepth 100000 in
theorem wk_X8_tunesOf_206 {p : Program} {l : Launch} {e : Env} {s : State} {m : MethodId} {args : Array Value} {below : List Frame} {meth : Method} {c : Code} {dC : Nat → ClassId} {dI : Nat → Nat → Nat} {a : Nat → Nat} {ca : Nat → ClassId} {tb : Nat → Nat} {w0 : Cond} (S : CallFix p m c cX8_tunesOf 6 s args (w0 :: tWALL) RX8) (hr : meth.sig.returnType = none) (hlk : meth.locks = false) (E : tEnv 21 dC dI a ca tb s) (post : tSt → Prop) (k40 : Int32 → Int32 → Int32 → tSt → Prop) (hk40 : ∀ (x1 : Int32) (x2 : Int32) (x3 : Int32) (st : tSt), k40 x1 x2 x3 st → tAt p l e rmX8_tunesOf s m args below meth c (dC, dI) (cwM a ca) (tA 21 a s.heap.size) (tQv (cwM a ca) 21 dC dI a args below s post) 6 40 [(0, .ref (a 0)), (1, .int x1), (2, .int x2), (3, .int x3)] [] st) : ∀ (x1 : Int32) (x2 : Int32) (x3 : Int32) (st : tSt), wp_M_tunesOf_206 post k40 x1 x2 x3 st → tAt p l e rmX8_tunesOf s m args below meth c (dC, dI) (cwM a ca) (tA 21 a s.heap.size) (tQv (cwM a ca) 21 dC dI a args below s post) 6 206 [(0, .ref (a 0)), (1, .int x1), (2, .int x2), (3, .int x3)] [] st := by
  intro x1 x2 x3 st h H locs ls hP hS hl
  obtain ⟨y3_1, e1⟩ : ∃ y : Int32, y = x3 + 1 := ⟨_, rfl⟩
  have h := h y3_1 e1
  refine lv_iinc (pc := 206) S.1 S.2.1 (v := y3_1) (lv' := [(3, .int y3_1), (0, .ref (a 0)), (1, .int x1), (2, .int x2)]) dX8_tunesOf_206 hl (k := 3) rfl (by rw [e1]; rfl) (by decide) rfl (fun ls hl => ?_)
  refine lv_goto (pc := 209) S.1 S.2.1 (tgt := 40) dX8_tunesOf_209 (by decide) ?_
  exact hk40 x1 x2 y3_1 st h _ _ _ hP hS (lv_sub hl [1, 2, 3, 0] rfl)
set_option maxHeartbeats 4000000 in
set_option maxRecDepth 100000 in
theorem wk_X8_tunesOf_170 {p : Program} {l : Launch} {e : Env} {s : State} {m : MethodId} {args : Array Value} {below : List Frame} {meth : Method} {c : Code} {dC : Nat → ClassId} {dI : Nat → Nat → Nat} {a : Nat → Nat} {ca : Nat → ClassId} {tb : Nat → Nat} {w0 : Cond} (S : CallFix p m c cX8_tunesOf 6 s args (w0 :: tWALL) RX8) (hr : meth.sig.returnType = none) (hlk : meth.locks = false) (E : tEnv 21 dC dI a ca tb s) (post : tSt → Prop) (k79 : Int32 → Int32 → Int32 → Int32 → Int32 → tSt → Prop) (hk79 : ∀ (x1 : Int32) (x2 : Int32) (x3 : Int32) (x4 : Int32) (x5 : Int32) (st : tSt), k79 x1 x2 x3 x4 x5 st → tAt p l e rmX8_tunesOf s m args below meth c (dC, dI) (cwM a ca) (tA 21 a s.heap.size) (tQv (cwM a ca) 21 dC dI a args below s post) 6 79 [(0, .ref (a 0)), (1, .int x1), (2, .int x2), (3, .int x3), (4, .int x4), (5, .int x5)] [] st) (k176 : Int32 → Int32 → Int32 → Int32 → tSt → Prop) (hk176 : ∀ (x1 : Int32) (x2 : Int32) (x3 : Int32) (x4 : Int32) (st : tSt), k176 x1 x2 x3 x4 st → tAt p l e rmX8_tunesOf s m args below meth c (dC, dI) (cwM a ca) (tA 21 a s.heap.size) (tQv (cwM a ca) 21 dC dI a args below s post) 6 176 [(0, .ref (a 0)), (1, .int x1), (2, .int x2), (3, .int x3), (4, .int x4)] [] st) : ∀ (x1 : Int32) (x2 : Int32) (x3 : Int32) (x4 : Int32) (x5 : Int32) (st : tSt), wp_M_tunesOf_170 post k79 k176 x1 x2 x3 x4 x5 st → tAt p l e rmX8_tunesOf s m args below meth c (dC, dI) (cwM a ca) (tA 21 a s.heap.size) (tQv (cwM a ca) 21 dC dI a args below s post) 6 170 [(0, .ref (a 0)), (1, .int x1), (2, .int x2), (3, .int x3), (4, .int x4), (5, .int x5)] [] st := by
  intro x1 x2 x3 x4 x5 st h H locs ls hP hS hl
  obtain ⟨y5_1, e1⟩ : ∃ y : Int32, y = x5 + 1 := ⟨_, rfl⟩
  have h := h y5_1 e1
  refine lv_iinc (pc := 170) S.1 S.2.1 (v := y5_1) (lv' := [(5, .int y5_1), (0, .ref (a 0)), (1, .int x1), (2, .int x2), (3, .int x3), (4, .int x4)]) dX8_tunesOf_170 hl (k := 5) rfl (by rw [e1]; rfl) (by decide) rfl (fun ls hl => ?_)
  refine lv_goto (pc := 173) S.1 S.2.1 (tgt := 79) dX8_tunesOf_173 (by decide) ?_
  exact hk79 x1 x2 x3 x4 y5_1 st h _ _ _ hP hS (lv_sub hl [1, 2, 3, 4, 5, 0] rfl)
set_option maxHeartbeats 4000000 in
set_option maxRecDepth 100000 in
theorem wk_X8_tunesOf_161 {p : Program} {l : Launch} {e : Env} {s : State} {m : MethodId} {args : Array Value} {below : List Frame} {meth : Method} {c : Code} {dC : Nat → ClassId} {dI : Nat → Nat → Nat} {a : Nat → Nat} {ca : Nat → ClassId} {tb : Nat → Nat} {w0 : Cond} (S : CallFix p m c cX8_tunesOf 6 s args (w0 :: tWALL) RX8) (hr : meth.sig.returnType = none) (hlk : meth.locks = false) (E : tEnv 21 dC dI a ca tb s) (post : tSt → Prop) (k79 : Int32 → Int32 → Int32 → Int32 → Int32 → tSt → Prop) (hk79 : ∀ (x1 : Int32) (x2 : Int32) (x3 : Int32) (x4 : Int32) (x5 : Int32) (st : tSt), k79 x1 x2 x3 x4 x5 st → tAt p l e rmX8_tunesOf s m args below meth c (dC, dI) (cwM a ca) (tA 21 a s.heap.size) (tQv (cwM a ca) 21 dC dI a args below s post) 6 79 [(0, .ref (a 0)), (1, .int x1), (2, .int x2), (3, .int x3), (4, .int x4), (5, .int x5)] [] st) (k176 : Int32 → Int32 → Int32 → Int32 → tSt → Prop) (hk176 : ∀ (x1 : Int32) (x2 : Int32) (x3 : Int32) (x4 : Int32) (st : tSt), k176 x1 x2 x3 x4 st → tAt p l e rmX8_tunesOf s m args below meth c (dC, dI) (cwM a ca) (tA 21 a s.heap.size) (tQv (cwM a ca) 21 dC dI a args below s post) 6 176 [(0, .ref (a 0)), (1, .int x1), (2, .int x2), (3, .int x3), (4, .int x4)] [] st) : ∀ (x1 : Int32) (x2 : Int32) (x3 : Int32) (x4 : Int32) (x5 : Int32) (st : tSt), wp_M_tunesOf_161 post k79 k176 x1 x2 x3 x4 x5 st → tAt p l e rmX8_tunesOf s m args below meth c (dC, dI) (cwM a ca) (tA 21 a s.heap.size) (tQv (cwM a ca) 21 dC dI a args below s post) 6 161 [(0, .ref (a 0)), (1, .int x1), (2, .int x2), (3, .int x3), (4, .int x4), (5, .int x5)] [] st := by
  intro x1 x2 x3 x4 x5 st h H locs ls hP hS hl
  refine lv_aload_n (pc := 161) S.1 S.2.1 dX8_tunesOf_161 rfl (lv_at hl 0 rfl) ?_
  refine tp_get (pc := 162) S E.1 hP iwX8 0 (cM_mo a ca st) rfl 27 (by decide) kw_491 (v := .ref (a 19)) rfl dX8_tunesOf_162 ?_
  refine lv_iload (pc := 165) S.1 S.2.1 dX8_tunesOf_165 (lv_at hl 4 rfl) ?_
  refine lv_iload (pc := 167) S.1 S.2.1 dX8_tunesOf_167 (lv_at hl 5 rfl) ?_
  obtain ⟨hn1, h⟩ := h
  refine tp_iast (pc := 169) S E.1 hP (cM_D E st) hS 19 0 (cM_has a ca st) rfl (j := x4.toNatClampNeg) rfl hn1 (sM_has a ca st _ _) dX8_tunesOf_169 (fun st1 H locs e2 hP hS => ?_)
  have h := h st1 e2
  exact (fun x1 x2 x3 x4 x5 st h => wk_X8_tunesOf_170 S hr hlk E post k79 hk79 k176 hk176 x1 x2 x3 x4 x5 st h) x1 x2 x3 x4 x5 st1 h _ _ _ hP hS (lv_sub hl [0, 1, 2, 3, 4, 5] rfl)
set_option maxHeartbeats 4000000 in
set_option maxRecDepth 100000 in
theorem wk_X8_tunesOf_176 {p : Program} {l : Launch} {e : Env} {s : State} {m : MethodId} {args : Array Value} {below : List Frame} {meth : Method} {c : Code} {dC : Nat → ClassId} {dI : Nat → Nat → Nat} {a : Nat → Nat} {ca : Nat → ClassId} {tb : Nat → Nat} {w0 : Cond} (S : CallFix p m c cX8_tunesOf 6 s args (w0 :: tWALL) RX8) (hr : meth.sig.returnType = none) (hlk : meth.locks = false) (E : tEnv 21 dC dI a ca tb s) (post : tSt → Prop) (k40 : Int32 → Int32 → Int32 → tSt → Prop) (hk40 : ∀ (x1 : Int32) (x2 : Int32) (x3 : Int32) (st : tSt), k40 x1 x2 x3 st → tAt p l e rmX8_tunesOf s m args below meth c (dC, dI) (cwM a ca) (tA 21 a s.heap.size) (tQv (cwM a ca) 21 dC dI a args below s post) 6 40 [(0, .ref (a 0)), (1, .int x1), (2, .int x2), (3, .int x3)] [] st) : ∀ (x1 : Int32) (x2 : Int32) (x3 : Int32) (x4 : Int32) (st : tSt), wp_M_tunesOf_176 post k40 x1 x2 x3 x4 st → tAt p l e rmX8_tunesOf s m args below meth c (dC, dI) (cwM a ca) (tA 21 a s.heap.size) (tQv (cwM a ca) 21 dC dI a args below s post) 6 176 [(0, .ref (a 0)), (1, .int x1), (2, .int x2), (3, .int x3), (4, .int x4)] [] st := by
  intro x1 x2 x3 x4 st h H locs ls hP hS hl
  refine lv_aload_n (pc := 176) S.1 S.2.1 dX8_tunesOf_176 rfl (lv_at hl 0 rfl) ?_
  refine tp_get (pc := 177) S E.1 hP iwX8 0 (cM_mo a ca st) rfl 27 (by decide) kw_491 (v := .ref (a 19)) rfl dX8_tunesOf_177 ?_
  refine lv_iload (pc := 180) S.1 S.2.1 dX8_tunesOf_180 (lv_at hl 4 rfl) ?_
  obtain ⟨hn1, h⟩ := h
  refine tp_iald (pc := 182) S E.1 hP 19 0 (cM_has a ca st) rfl (j := x4.toNatClampNeg) rfl hn1 dX8_tunesOf_182 ?_
  refine lv_iconst (pc := 183) S.1 S.2.1 (v := (-1)) dX8_tunesOf_183 (by decide) ?_
  refine lv_icmp_ne (pc := 184) (tgt := 190) S.1 S.2.1 dX8_tunesOf_184 (by decide) (fun c2 => ?_) (fun c2 => ?_)
  · have h := h.2 c2
    obtain ⟨y2_1, e3⟩ : ∃ y : Int32, y = x2 + 1 := ⟨_, rfl⟩
    have h := h y2_1 e3
    refine lv_iinc (pc := 190) S.1 S.2.1 (v := y2_1) (lv' := [(2, .int y2_1), (0, .ref (a 0)), (1, .int x1), (3, .int x3), (4, .int x4)]) dX8_tunesOf_190 hl (k := 2) rfl (by rw [e3]; rfl) (by decide) rfl (fun ls hl => ?_)
    refine lv_aload_n (pc := 193) S.1 S.2.1 dX8_tunesOf_193 rfl (lv_at hl 1 rfl) ?_
    refine tp_get (pc := 194) S E.1 hP iwX8 0 (cM_mo a ca st) rfl 28 (by decide) kw_492 (v := .ref (a 20)) rfl dX8_tunesOf_194 ?_
    refine lv_aload_n (pc := 197) S.1 S.2.1 dX8_tunesOf_197 rfl (lv_at hl 1 rfl) ?_
    refine tp_get (pc := 198) S E.1 hP iwX8 0 (cM_mo a ca st) rfl 27 (by decide) kw_491 (v := .ref (a 19)) rfl dX8_tunesOf_198 ?_
    refine lv_iload (pc := 201) S.1 S.2.1 dX8_tunesOf_201 (lv_at hl 4 rfl) ?_
    obtain ⟨hn4, h⟩ := h
    refine tp_iald (pc := 203) S E.1 hP 19 0 (cM_has a ca st) rfl (j := x4.toNatClampNeg) rfl hn4 dX8_tunesOf_203 ?_
    refine lv_iload_n (pc := 204) S.1 S.2.1 dX8_tunesOf_204 rfl (lv_at hl 0 rfl) ?_
    obtain ⟨hn5, h⟩ := h
    refine tp_iast (pc := 205) S E.1 hP (cM_D E st) hS 20 0 (cM_turn a ca st) rfl (j := (st 27 x4.toNatClampNeg).toNatClampNeg) rfl hn5 (sM_turn a ca st _ _) dX8_tunesOf_205 (fun st2 H locs e6 hP hS => ?_)
    have h := h st2 e6
    exact (fun x1 x2 x3 st h => wk_X8_tunesOf_206 S hr hlk E post k40 hk40 x1 x2 x3 st h) x1 y2_1 x3 st2 h _ _ _ hP hS (lv_sub hl [1, 2, 0, 3] rfl)
  · have h := h.1 c2
    refine lv_goto (pc := 187) S.1 S.2.1 (tgt := 206) dX8_tunesOf_187 (by decide) ?_
    exact (fun x1 x2 x3 st h => wk_X8_tunesOf_206 S hr hlk E post k40 hk40 x1 x2 x3 st h) x1 x2 x3 st h _ _ _ hP hS (lv_sub hl [0, 1, 2, 3] rfl)
set_option maxHeartbeats 4000000 in
set_option maxRecDepth 100000 in
theorem wk_X8_tunesOf_79 {p : Program} {l : Launch} {e : Env} {s : State} {m : MethodId} {args : Array Value} {below : List Frame} {meth : Method} {c : Code} {dC : Nat → ClassId} {dI : Nat → Nat → Nat} {a : Nat → Nat} {ca : Nat → ClassId} {tb : Nat → Nat} {w0 : Cond} (S : CallFix p m c cX8_tunesOf 6 s args (w0 :: tWALL) RX8) (hr : meth.sig.returnType = none) (hlk : meth.locks = false) (E : tEnv 21 dC dI a ca tb s) (post : tSt → Prop) (k176 : Int32 → Int32 → Int32 → Int32 → tSt → Prop) (hk176 : ∀ (x1 : Int32) (x2 : Int32) (x3 : Int32) (x4 : Int32) (st : tSt), k176 x1 x2 x3 x4 st → tAt p l e rmX8_tunesOf s m args below meth c (dC, dI) (cwM a ca) (tA 21 a s.heap.size) (tQv (cwM a ca) 21 dC dI a args below s post) 6 176 [(0, .ref (a 0)), (1, .int x1), (2, .int x2), (3, .int x3), (4, .int x4)] [] st) : ∀ (n : Nat) (x1 : Int32) (x2 : Int32) (x3 : Int32) (x4 : Int32) (x5 : Int32) (st : tSt), wp_M_tunesOf_79 post k176 n x1 x2 x3 x4 x5 st → tAt p l e rmX8_tunesOf s m args below meth c (dC, dI) (cwM a ca) (tA 21 a s.heap.size) (tQv (cwM a ca) 21 dC dI a args below s post) 6 79 [(0, .ref (a 0)), (1, .int x1), (2, .int x2), (3, .int x3), (4, .int x4), (5, .int x5)] [] st := by
  intro n
  induction n with
  | zero => intro x1 x2 x3 x4 x5 st h; exact absurd h id
  | succ n ih =>
    intro x1 x2 x3 x4 x5 st h H locs ls hP hS hl
    refine lv_iload (pc := 79) S.1 S.2.1 dX8_tunesOf_79 (lv_at hl 5 rfl) ?_
    refine lv_aload_n (pc := 81) S.1 S.2.1 dX8_tunesOf_81 rfl (lv_at hl 0 rfl) ?_
    refine tp_get (pc := 82) S E.1 hP iwX8 0 (cM_mo a ca st) rfl 4 (by decide) kw_483 (v := .int (st 3 0)) rfl dX8_tunesOf_82 ?_
    refine lv_icmp_ge (pc := 85) (tgt := 176) S.1 S.2.1 dX8_tunesOf_85 (by decide) (fun c1 => ?_) (fun c1 => ?_)
    · have h := h.1 c1
      exact hk176 x1 x2 x3 x4 st h _ _ _ hP hS (lv_sub hl [0, 1, 2, 3, 4] rfl)
    · have h := h.2 c1
      refine lv_aload_n (pc := 88) S.1 S.2.1 dX8_tunesOf_88 rfl (lv_at hl 0 rfl) ?_
      refine tp_get (pc := 89) S E.1 hP iwX8 0 (cM_mo a ca st) rfl 15 (by decide) kw_484 (v := .ref (a 10)) rfl dX8_tunesOf_89 ?_
      refine lv_iload (pc := 92) S.1 S.2.1 dX8_tunesOf_92 (lv_at hl 5 rfl) ?_
      obtain ⟨hn2, h⟩ := h
      refine tp_iald (pc := 94) S E.1 hP 10 0 (cM_fits a ca st) rfl (j := x5.toNatClampNeg) rfl hn2 dX8_tunesOf_94 ?_
      refine lv_aload_n (pc := 95) S.1 S.2.1 dX8_tunesOf_95 rfl (lv_at hl 0 rfl) ?_
      refine lv_iload (pc := 96) S.1 S.2.1 dX8_tunesOf_96 (lv_at hl 4 rfl) ?_
      refine lv_iconst (pc := 98) S.1 S.2.1 (v := 4) dX8_tunesOf_98 (by decide) ?_
      refine tGi hS (tRunV (pc := 99) (As := [.int x4, .int (4 : Int32)]) (rest := [.int (st 18 x5.toNatClampNeg)]) S E hP hS (mt_X8_of l dC dI a ca tb _ x4 (4 : Int32) st _ h) (cw_X8_of ⟨Nat.le_of_ble_eq_true rfl, Nat.le_of_ble_eq_true rfl⟩) kw_429 kw_430 kw_431 0 8 rfl rfl (cM_mo a ca st) rfl hl.1 rfl (Nat.le_of_ble_eq_true rfl) dX8_tunesOf_99) (fun r2 st1 H locs h hP hS => ?_)
      refine tGi hS (tRunS (pc := 102) (As := [.int (st 18 x5.toNatClampNeg), .int r2]) (rest := []) S E hP hS (mt_X8_has l dC dI a ca tb _ (st 18 x5.toNatClampNeg) r2 st1 _ h) (cw_X8_has ⟨Nat.le_of_ble_eq_true rfl, Nat.le_of_ble_eq_true rfl⟩) kw_445 kw_444 rfl hl.1 rfl (Nat.le_of_ble_eq_true rfl) dX8_tunesOf_102) (fun r4 st3 H locs h hP hS => ?_)
      refine lv_if_eq (pc := 105) (tgt := 170) S.1 S.2.1 dX8_tunesOf_105 (by decide) (fun c3 => ?_) (fun c3 => ?_)
      · have h := h.1 c3
        exact (fun x1 x2 x3 x4 x5 st h => wk_X8_tunesOf_170 S hr hlk E post (wp_M_tunesOf_79 post k176 n) ih k176 hk176 x1 x2 x3 x4 x5 st h) x1 x2 x3 x4 x5 st3 h _ _ _ hP hS (lv_sub hl [0, 1, 2, 3, 4, 5] rfl)
      · have h := h.2 c3
        refine lv_aload_n (pc := 108) S.1 S.2.1 dX8_tunesOf_108 rfl (lv_at hl 0 rfl) ?_
        refine tp_get (pc := 109) S E.1 hP iwX8 0 (cM_mo a ca st3) rfl 16 (by decide) kw_485 (v := .ref (a 11)) rfl dX8_tunesOf_109 ?_
        refine lv_iload (pc := 112) S.1 S.2.1 dX8_tunesOf_112 (lv_at hl 5 rfl) ?_
        obtain ⟨hn4, h⟩ := h
        refine tp_iald (pc := 114) S E.1 hP 11 0 (cM_months a ca st3) rfl (j := x5.toNatClampNeg) rfl hn4 dX8_tunesOf_114 ?_
        refine lv_aload_n (pc := 115) S.1 S.2.1 dX8_tunesOf_115 rfl (lv_at hl 0 rfl) ?_
        refine tGi hS (tRunV (pc := 116) (As := []) (rest := [.int (st3 19 x5.toNatClampNeg)]) S E hP hS (mt_X8_month l dC dI a ca tb _  st3 _ h) (cw_X8_month ⟨Nat.le_of_ble_eq_true rfl, Nat.le_of_ble_eq_true rfl⟩) kw_493 kw_494 kw_495 0 8 rfl rfl (cM_mo a ca st3) rfl hl.1 rfl (Nat.le_of_ble_eq_true rfl) dX8_tunesOf_116) (fun r6 st5 H locs h hP hS => ?_)
        refine tGi hS (tRunS (pc := 119) (As := [.int (st3 19 x5.toNatClampNeg), .int r6]) (rest := []) S E hP hS (mt_X8_has l dC dI a ca tb _ (st3 19 x5.toNatClampNeg) r6 st5 _ h) (cw_X8_has ⟨Nat.le_of_ble_eq_true rfl, Nat.le_of_ble_eq_true rfl⟩) kw_445 kw_444 rfl hl.1 rfl (Nat.le_of_ble_eq_true rfl) dX8_tunesOf_119) (fun r8 st7 H locs h hP hS => ?_)
        refine lv_if_ne (pc := 122) (tgt := 128) S.1 S.2.1 dX8_tunesOf_122 (by decide) (fun c5 => ?_) (fun c5 => ?_)
        · have h := h.2 c5
          refine lv_aload_n (pc := 128) S.1 S.2.1 dX8_tunesOf_128 rfl (lv_at hl 0 rfl) ?_
          refine tp_get (pc := 129) S E.1 hP iwX8 0 (cM_mo a ca st7) rfl 27 (by decide) kw_491 (v := .ref (a 19)) rfl dX8_tunesOf_129 ?_
          refine lv_iload (pc := 132) S.1 S.2.1 dX8_tunesOf_132 (lv_at hl 4 rfl) ?_
          obtain ⟨hn6, h⟩ := h
          refine tp_iald (pc := 134) S E.1 hP 19 0 (cM_has a ca st7) rfl (j := x4.toNatClampNeg) rfl hn6 dX8_tunesOf_134 ?_
          refine lv_iconst (pc := 135) S.1 S.2.1 (v := (-1)) dX8_tunesOf_135 (by decide) ?_
          refine lv_icmp_eq (pc := 136) (tgt := 161) S.1 S.2.1 dX8_tunesOf_136 (by decide) (fun c7 => ?_) (fun c7 => ?_)
          · have h := h.1 c7
            exact (fun x1 x2 x3 x4 x5 st h => wk_X8_tunesOf_161 S hr hlk E post (wp_M_tunesOf_79 post k176 n) ih k176 hk176 x1 x2 x3 x4 x5 st h) x1 x2 x3 x4 x5 st7 h _ _ _ hP hS (lv_sub hl [0, 1, 2, 3, 4, 5] rfl)
          · have h := h.2 c7
            refine lv_aload_n (pc := 139) S.1 S.2.1 dX8_tunesOf_139 rfl (lv_at hl 0 rfl) ?_
            refine tp_get (pc := 140) S E.1 hP iwX8 0 (cM_mo a ca st7) rfl 28 (by decide) kw_492 (v := .ref (a 20)) rfl dX8_tunesOf_140 ?_
            refine lv_iload (pc := 143) S.1 S.2.1 dX8_tunesOf_143 (lv_at hl 5 rfl) ?_
            obtain ⟨hn8, h⟩ := h
            refine tp_iald (pc := 145) S E.1 hP 20 0 (cM_turn a ca st7) rfl (j := x5.toNatClampNeg) rfl hn8 dX8_tunesOf_145 ?_
            refine lv_aload_n (pc := 146) S.1 S.2.1 dX8_tunesOf_146 rfl (lv_at hl 0 rfl) ?_
            refine tp_get (pc := 147) S E.1 hP iwX8 0 (cM_mo a ca st7) rfl 28 (by decide) kw_492 (v := .ref (a 20)) rfl dX8_tunesOf_147 ?_
            refine lv_aload_n (pc := 150) S.1 S.2.1 dX8_tunesOf_150 rfl (lv_at hl 0 rfl) ?_
            refine tp_get (pc := 151) S E.1 hP iwX8 0 (cM_mo a ca st7) rfl 27 (by decide) kw_491 (v := .ref (a 19)) rfl dX8_tunesOf_151 ?_
            refine lv_iload (pc := 154) S.1 S.2.1 dX8_tunesOf_154 (lv_at hl 4 rfl) ?_
            obtain ⟨hn9, h⟩ := h
            refine tp_iald (pc := 156) S E.1 hP 19 0 (cM_has a ca st7) rfl (j := x4.toNatClampNeg) rfl hn9 dX8_tunesOf_156 ?_
            obtain ⟨hn10, h⟩ := h
            refine tp_iald (pc := 157) S E.1 hP 20 0 (cM_turn a ca st7) rfl (j := (st7 27 x4.toNatClampNeg).toNatClampNeg) rfl hn10 dX8_tunesOf_157 ?_
            refine lv_icmp_ge (pc := 158) (tgt := 170) S.1 S.2.1 dX8_tunesOf_158 (by decide) (fun c11 => ?_) (fun c11 => ?_)
            · have h := h.1 c11
              exact (fun x1 x2 x3 x4 x5 st h => wk_X8_tunesOf_170 S hr hlk E post (wp_M_tunesOf_79 post k176 n) ih k176 hk176 x1 x2 x3 x4 x5 st h) x1 x2 x3 x4 x5 st7 h _ _ _ hP hS (lv_sub hl [0, 1, 2, 3, 4, 5] rfl)
            · have h := h.2 c11
              exact (fun x1 x2 x3 x4 x5 st h => wk_X8_tunesOf_161 S hr hlk E post (wp_M_tunesOf_79 post k176 n) ih k176 hk176 x1 x2 x3 x4 x5 st h) x1 x2 x3 x4 x5 st7 h _ _ _ hP hS (lv_sub hl [0, 1, 2, 3, 4, 5] rfl)
        · have h := h.1 c5
          refine lv_goto (pc := 125) S.1 S.2.1 (tgt := 170) dX8_tunesOf_125 (by decide) ?_
          exact (fun x1 x2 x3 x4 x5 st h => wk_X8_tunesOf_170 S hr hlk E post (wp_M_tunesOf_79 post k176 n) ih k176 hk176 x1 x2 x3 x4 x5 st h) x1 x2 x3 x4 x5 st7 h _ _ _ hP hS (lv_sub hl [0, 1, 2, 3, 4, 5] rfl)
set_option maxHeartbeats 4000000 in
set_option maxRecDepth 100000 in
theorem wk_X8_tunesOf_40 {p : Program} {l : Launch} {e : Env} {s : State} {m : MethodId} {args : Array Value} {below : List Frame} {meth : Method} {c : Code} {dC : Nat → ClassId} {dI : Nat → Nat → Nat} {a : Nat → Nat} {ca : Nat → ClassId} {tb : Nat → Nat} {w0 : Cond} (S : CallFix p m c cX8_tunesOf 6 s args (w0 :: tWALL) RX8) (hr : meth.sig.returnType = none) (hlk : meth.locks = false) (E : tEnv 21 dC dI a ca tb s) (post : tSt → Prop) : ∀ (n : Nat) (x1 : Int32) (x2 : Int32) (x3 : Int32) (st : tSt), wp_M_tunesOf_40 post n x1 x2 x3 st → tAt p l e rmX8_tunesOf s m args below meth c (dC, dI) (cwM a ca) (tA 21 a s.heap.size) (tQv (cwM a ca) 21 dC dI a args below s post) 6 40 [(0, .ref (a 0)), (1, .int x1), (2, .int x2), (3, .int x3)] [] st := by
  intro n
  induction n with
  | zero => intro x1 x2 x3 st h; exact absurd h id
  | succ n ih =>
    intro x1 x2 x3 st h H locs ls hP hS hl
    refine lv_iload_n (pc := 40) S.1 S.2.1 dX8_tunesOf_40 rfl (lv_at hl 3 rfl) ?_
    refine lv_aload_n (pc := 41) S.1 S.2.1 dX8_tunesOf_41 rfl (lv_at hl 0 rfl) ?_
    refine tp_get (pc := 42) S E.1 hP iwX8 0 (cM_mo a ca st) rfl 19 (by decide) kw_433 (v := .int (st 6 0)) rfl dX8_tunesOf_42 ?_
    refine lv_icmp_ge (pc := 45) (tgt := 212) S.1 S.2.1 dX8_tunesOf_45 (by decide) (fun c1 => ?_) (fun c1 => ?_)
    · have h := h.1 c1
      exact tRv S hr hlk hP hS h dX8_tunesOf_212
    · have h := h.2 c1
      refine lv_aload_n (pc := 48) S.1 S.2.1 dX8_tunesOf_48 rfl (lv_at hl 0 rfl) ?_
      refine tp_get (pc := 49) S E.1 hP iwX8 0 (cM_mo a ca st) rfl 22 (by decide) kw_432 (v := .ref (a 14)) rfl dX8_tunesOf_49 ?_
      refine lv_iload_n (pc := 52) S.1 S.2.1 dX8_tunesOf_52 rfl (lv_at hl 3 rfl) ?_
      obtain ⟨hn2, h⟩ := h
      refine tp_iald (pc := 53) S E.1 hP 14 0 (cM_row a ca st) rfl (j := x3.toNatClampNeg) rfl hn2 dX8_tunesOf_53 ?_
      refine lv_topi (fun y4_1 e3 => ?_)
      have h := h y4_1 e3
      refine lv_istore (pc := 54) S.1 S.2.1 (lv' := [(4, .int y4_1), (0, .ref (a 0)), (1, .int x1), (2, .int x2), (3, .int x3)]) dX8_tunesOf_54 hl (by decide) rfl (fun ls hl => ?_)
      refine lv_aload_n (pc := 56) S.1 S.2.1 dX8_tunesOf_56 rfl (lv_at hl 1 rfl) ?_
      refine tp_get (pc := 57) S E.1 hP iwX8 0 (cM_mo a ca st) rfl 27 (by decide) kw_491 (v := .ref (a 19)) rfl dX8_tunesOf_57 ?_
      refine lv_iload (pc := 60) S.1 S.2.1 dX8_tunesOf_60 (lv_at hl 0 rfl) ?_
      refine lv_iconst (pc := 62) S.1 S.2.1 (v := (-1)) dX8_tunesOf_62 (by decide) ?_
      obtain ⟨hn4, h⟩ := h
      refine tp_iast (pc := 63) S E.1 hP (cM_D E st) hS 19 0 (cM_has a ca st) rfl (j := y4_1.toNatClampNeg) rfl hn4 (sM_has a ca st _ _) dX8_tunesOf_63 (fun st2 H locs e5 hP hS => ?_)
      have h := h st2 e5
      refine lv_iload_n (pc := 64) S.1 S.2.1 dX8_tunesOf_64 rfl (lv_at hl 2 rfl) ?_
      refine lv_iload (pc := 65) S.1 S.2.1 dX8_tunesOf_65 (lv_at hl 0 rfl) ?_
      refine tGi hS (tRunS (pc := 67) (As := [.int x1, .int y4_1]) (rest := []) S E hP hS (mt_X8_has l dC dI a ca tb _ x1 y4_1 st2 _ h) (cw_X8_has ⟨Nat.le_of_ble_eq_true rfl, Nat.le_of_ble_eq_true rfl⟩) kw_445 kw_444 rfl hl.1 rfl (Nat.le_of_ble_eq_true rfl) dX8_tunesOf_67) (fun r4 st3 H locs h hP hS => ?_)
      refine lv_if_ne (pc := 70) (tgt := 76) S.1 S.2.1 dX8_tunesOf_70 (by decide) (fun c6 => ?_) (fun c6 => ?_)
      · have h := h.2 c6
        refine lv_iconst (pc := 76) S.1 S.2.1 (v := 0) dX8_tunesOf_76 (by decide) ?_
        refine lv_istore (pc := 77) S.1 S.2.1 (lv' := [(5, .int (0 : Int32)), (4, .int y4_1), (0, .ref (a 0)), (1, .int x1), (2, .int x2), (3, .int x3)]) dX8_tunesOf_77 hl (by decide) rfl (fun ls hl => ?_)
        exact (fun x1 x2 x3 x4 x5 st h => Exists.elim h (fun q h => wk_X8_tunesOf_79 S hr hlk E post (wp_M_tunesOf_176 post (wp_M_tunesOf_40 post n)) (fun x1 x2 x3 x4 st h => wk_X8_tunesOf_176 S hr hlk E post (wp_M_tunesOf_40 post n) ih x1 x2 x3 x4 st h) q x1 x2 x3 x4 x5 st h)) x1 x2 x3 y4_1 (0 : Int32) st3 h _ _ _ hP hS (lv_sub hl [2, 3, 4, 5, 1, 0] rfl)
      · have h := h.1 c6
        refine lv_goto (pc := 73) S.1 S.2.1 (tgt := 206) dX8_tunesOf_73 (by decide) ?_
        exact (fun x1 x2 x3 st h => wk_X8_tunesOf_206 S hr hlk E post (wp_M_tunesOf_40 post n) ih x1 x2 x3 st h) x1 x2 x3 st3 h _ _ _ hP hS (lv_sub hl [1, 2, 3, 4] rfl)
set_option maxHeartbeats 4000000 in
set_option maxRecDepth 100000 in
theorem wk_X8_tunesOf_38 {p : Program} {l : Launch} {e : Env} {s : State} {m : MethodId} {args : Array Value} {below : List Frame} {meth : Method} {c : Code} {dC : Nat → ClassId} {dI : Nat → Nat → Nat} {a : Nat → Nat} {ca : Nat → ClassId} {tb : Nat → Nat} {w0 : Cond} (S : CallFix p m c cX8_tunesOf 6 s args (w0 :: tWALL) RX8) (hr : meth.sig.returnType = none) (hlk : meth.locks = false) (E : tEnv 21 dC dI a ca tb s) (post : tSt → Prop) : ∀ (x1 : Int32) (x2 : Int32) (st : tSt), wp_M_tunesOf_38 post x1 x2 st → tAt p l e rmX8_tunesOf s m args below meth c (dC, dI) (cwM a ca) (tA 21 a s.heap.size) (tQv (cwM a ca) 21 dC dI a args below s post) 6 38 [(0, .ref (a 0)), (1, .int x1), (2, .int x2)] [] st := by
  intro x1 x2 st h H locs ls hP hS hl
  refine lv_iconst (pc := 38) S.1 S.2.1 (v := 0) dX8_tunesOf_38 (by decide) ?_
  refine lv_istore_n (pc := 39) S.1 S.2.1 (lv' := [(3, .int (0 : Int32)), (0, .ref (a 0)), (1, .int x1), (2, .int x2)]) dX8_tunesOf_39 rfl hl (by decide) rfl (fun ls hl => ?_)
  exact (fun x1 x2 x3 st h => Exists.elim h (fun q h => wk_X8_tunesOf_40 S hr hlk E post  q x1 x2 x3 st h)) x1 x2 (0 : Int32) st h _ _ _ hP hS (lv_sub hl [1, 2, 3, 0] rfl)
set_option maxHeartbeats 4000000 in
set_option maxRecDepth 100000 in
theorem wk_X8_tunesOf_12 {p : Program} {l : Launch} {e : Env} {s : State} {m : MethodId} {args : Array Value} {below : List Frame} {meth : Method} {c : Code} {dC : Nat → ClassId} {dI : Nat → Nat → Nat} {a : Nat → Nat} {ca : Nat → ClassId} {tb : Nat → Nat} {w0 : Cond} (S : CallFix p m c cX8_tunesOf 6 s args (w0 :: tWALL) RX8) (hr : meth.sig.returnType = none) (hlk : meth.locks = false) (E : tEnv 21 dC dI a ca tb s) (post : tSt → Prop) (k38 : Int32 → Int32 → tSt → Prop) (hk38 : ∀ (x1 : Int32) (x2 : Int32) (st : tSt), k38 x1 x2 st → tAt p l e rmX8_tunesOf s m args below meth c (dC, dI) (cwM a ca) (tA 21 a s.heap.size) (tQv (cwM a ca) 21 dC dI a args below s post) 6 38 [(0, .ref (a 0)), (1, .int x1), (2, .int x2)] [] st) : ∀ (n : Nat) (x1 : Int32) (x2 : Int32) (x3 : Int32) (st : tSt), wp_M_tunesOf_12 post k38 n x1 x2 x3 st → tAt p l e rmX8_tunesOf s m args below meth c (dC, dI) (cwM a ca) (tA 21 a s.heap.size) (tQv (cwM a ca) 21 dC dI a args below s post) 6 12 [(0, .ref (a 0)), (1, .int x1), (2, .int x2), (3, .int x3)] [] st := by
  intro n
  induction n with
  | zero => intro x1 x2 x3 st h; exact absurd h id
  | succ n ih =>
    intro x1 x2 x3 st h H locs ls hP hS hl
    refine lv_iload_n (pc := 12) S.1 S.2.1 dX8_tunesOf_12 rfl (lv_at hl 3 rfl) ?_
    refine lv_aload_n (pc := 13) S.1 S.2.1 dX8_tunesOf_13 rfl (lv_at hl 0 rfl) ?_
    refine tp_get (pc := 14) S E.1 hP iwX8 0 (cM_mo a ca st) rfl 4 (by decide) kw_483 (v := .int (st 3 0)) rfl dX8_tunesOf_14 ?_
    refine lv_icmp_ge (pc := 17) (tgt := 38) S.1 S.2.1 dX8_tunesOf_17 (by decide) (fun c1 => ?_) (fun c1 => ?_)
    · have h := h.1 c1
      exact hk38 x1 x2 st h _ _ _ hP hS (lv_sub hl [0, 1, 2] rfl)
    · have h := h.2 c1
      refine lv_aload_n (pc := 20) S.1 S.2.1 dX8_tunesOf_20 rfl (lv_at hl 0 rfl) ?_
      refine tp_get (pc := 21) S E.1 hP iwX8 0 (cM_mo a ca st) rfl 28 (by decide) kw_492 (v := .ref (a 20)) rfl dX8_tunesOf_21 ?_
      refine lv_iload_n (pc := 24) S.1 S.2.1 dX8_tunesOf_24 rfl (lv_at hl 3 rfl) ?_
      refine lv_aload_n (pc := 25) S.1 S.2.1 dX8_tunesOf_25 rfl (lv_at hl 0 rfl) ?_
      refine tp_get (pc := 26) S E.1 hP iwX8 0 (cM_mo a ca st) rfl 18 (by decide) kw_487 (v := .ref (a 13)) rfl dX8_tunesOf_26 ?_
      refine lv_iload_n (pc := 29) S.1 S.2.1 dX8_tunesOf_29 rfl (lv_at hl 3 rfl) ?_
      obtain ⟨hn2, h⟩ := h
      refine tp_iald (pc := 30) S E.1 hP 13 0 (cM_heardAs a ca st) rfl (j := x3.toNatClampNeg) rfl hn2 dX8_tunesOf_30 ?_
      obtain ⟨hn3, h⟩ := h
      refine tp_iast (pc := 31) S E.1 hP (cM_D E st) hS 20 0 (cM_turn a ca st) rfl (j := x3.toNatClampNeg) rfl hn3 (sM_turn a ca st _ _) dX8_tunesOf_31 (fun st1 H locs e4 hP hS => ?_)
      have h := h st1 e4
      obtain ⟨y3_2, e5⟩ : ∃ y : Int32, y = x3 + 1 := ⟨_, rfl⟩
      have h := h y3_2 e5
      refine lv_iinc (pc := 32) S.1 S.2.1 (v := y3_2) (lv' := [(3, .int y3_2), (0, .ref (a 0)), (1, .int x1), (2, .int x2)]) dX8_tunesOf_32 hl (k := 3) rfl (by rw [e5]; rfl) (by decide) rfl (fun ls hl => ?_)
      refine lv_goto (pc := 35) S.1 S.2.1 (tgt := 12) dX8_tunesOf_35 (by decide) ?_
      exact ih x1 x2 y3_2 st1 h _ _ _ hP hS (lv_sub hl [1, 2, 3, 0] rfl)
set_option maxHeartbeats 4000000 in
set_option maxRecDepth 100000 in
theorem mt_X8_tunesOf (l : Launch) (dC : Nat → ClassId) (dI : Nat → Nat → Nat) (a : Nat → Nat) (ca : Nat → ClassId) (tb : Nat → Nat) (sz : Nat) (st : tSt) (post : tSt → Prop) (h : wp_M_tunesOf  st post) : Met l yX8_tunesOf (.code yX8_tunesOf cX8_tunesOf 6 none :: tWALL) rmX8_tunesOf (va_Pc [.ref (a 0)] (tPre 21 (cwM a ca) dC dI a ca tb sz st)) (va_Qv post (tB (cwM a ca) dC dI) (tA 21 a sz)) 0 0 (tA 21 a sz) := by
  refine tp_met (by decide) (Nat.le_of_ble_eq_true rfl) ?_
  intro p e s m below meth c ls S hr hlk hsz E hP hl
  subst hsz
  have S : CallFix p m c cX8_tunesOf 6 s _ (.code yX8_tunesOf cX8_tunesOf 6 none :: tWALL) RX8 := S
  have hl : lv_has ls 6 [(0, .ref (a 0))] := hl
  have hS : va_S (tA 21 a s.heap.size) s.heap s.heap [] := va_S.rf
  show W p l e _ s m _ below meth c s.heap [] 0 0 (tQv (cwM a ca) 21 dC dI a ([.ref (a 0)] : List Value).toArray below s post) (F0 m 0 ls [])
  refine lv_aload_n (pc := 0) S.1 S.2.1 dX8_tunesOf_0 rfl (lv_at hl 0 rfl) ?_
  refine tGi hS (tRunV (pc := 1) (As := []) (rest := []) S E hP hS (mt_X8_works l dC dI a ca tb _  st _ h) (cw_X8_works ⟨Nat.le_of_ble_eq_true rfl, Nat.le_of_ble_eq_true rfl⟩) kw_474 kw_475 kw_476 0 8 rfl rfl (cM_mo a ca st) rfl hl.1 rfl (Nat.le_of_ble_eq_true rfl) dX8_tunesOf_1) (fun r2 st1 H locs h hP hS => ?_)
  refine lv_istore_n (pc := 4) S.1 S.2.1 (lv' := [(1, .int r2), (0, .ref (a 0))]) dX8_tunesOf_4 rfl hl (by decide) rfl (fun ls hl => ?_)
  refine lv_aload_n (pc := 5) S.1 S.2.1 dX8_tunesOf_5 rfl (lv_at hl 1 rfl) ?_
  refine tp_get (pc := 6) S E.1 hP iwX8 0 (cM_mo a ca st1) rfl 6 (by decide) kw_496 (v := .int (st1 5 0)) rfl dX8_tunesOf_6 ?_
  refine lv_topi (fun y2_3 e1 => ?_)
  have h := h y2_3 e1
  refine lv_istore_n (pc := 9) S.1 S.2.1 (lv' := [(2, .int y2_3), (1, .int r2), (0, .ref (a 0))]) dX8_tunesOf_9 rfl hl (by decide) rfl (fun ls hl => ?_)
  refine lv_iconst (pc := 10) S.1 S.2.1 (v := 0) dX8_tunesOf_10 (by decide) ?_
  refine lv_istore_n (pc := 11) S.1 S.2.1 (lv' := [(3, .int (0 : Int32)), (2, .int y2_3), (1, .int r2), (0, .ref (a 0))]) dX8_tunesOf_11 rfl hl (by decide) rfl (fun ls hl => ?_)
  exact (fun x1 x2 x3 st h => Exists.elim h (fun q h => wk_X8_tunesOf_12 S hr hlk E post (wp_M_tunesOf_38 post) (fun x1 x2 st h => wk_X8_tunesOf_38 S hr hlk E post  x1 x2 st h) q x1 x2 x3 st h)) r2 y2_3 (0 : Int32) st1 h _ _ _ hP hS (lv_sub hl [3, 2, 1, 0] rfl)

abbrev rmX8_heard : Room := { frames := 7, cells := 0, slots := 0, locals := 161 }
theorem cw_X8_heard {R : Room} {own : String} {index : Nat} (h : rmX8_heard.frames + 1 ≤ R.frames ∧ 8 + (2 + 11) + rmX8_heard.locals ≤ R.locals) : tCw R own index yX8_heard cX8_heard 2 (some .int) rmX8_heard 1 := ⟨kw_501, kw_373, ⟨rfl, rfl, h.1, h.2⟩, by decide +kernel, by decide +kernel, by decide +kernel⟩

set_option maxHeartbeats 4000000 in
set_option maxRecDepth 100000 in
theorem mt_X8_heard (l : Launch) (dC : Nat → ClassId) (dI : Nat → Nat → Nat) (a : Nat → Nat) (ca : Nat → ClassId) (tb : Nat → Nat) (sz : Nat) (x1 : Int32) (st : tSt) (post : Int32 → tSt → Prop) (h : wp_M_heard x1 st post) : Met l yX8_heard (.code yX8_heard cX8_heard 2 (some .int) :: tWALL) rmX8_heard (va_Pc [.ref (a 0), .int x1] (tPre 21 (cwM a ca) dC dI a ca tb sz st)) (va_Qi post (tB (cwM a ca) dC dI) (tA 21 a sz)) 0 0 (tA 21 a sz) := by
  refine tp_met (by decide) (Nat.le_of_ble_eq_true rfl) ?_
  intro p e s m below meth c ls S hr hlk hsz E hP hl
  subst hsz
  have S : CallFix p m c cX8_heard 2 s _ (.code yX8_heard cX8_heard 2 (some .int) :: tWALL) RX8 := S
  have hl : lv_has ls 2 [(0, .ref (a 0)), (1, .int x1)] := hl
  have hS : va_S (tA 21 a s.heap.size) s.heap s.heap [] := va_S.rf
  show W p l e _ s m _ below meth c s.heap [] 0 0 (tQi (cwM a ca) 21 dC dI a ([.ref (a 0), .int x1] : List Value).toArray below s post) (F0 m 0 ls [])
  refine lv_aload_n (pc := 0) S.1 S.2.1 dX8_heard_0 rfl (lv_at hl 0 rfl) ?_
  refine lv_iload_n (pc := 1) S.1 S.2.1 dX8_heard_1 rfl (lv_at hl 1 rfl) ?_
  refine tGi hS (tRunV (pc := 2) (As := [.int x1]) (rest := []) S E hP hS (mt_X8_isCall l dC dI a ca tb _ x1 st _ h) (cw_X8_isCall ⟨Nat.le_of_ble_eq_true rfl, Nat.le_of_ble_eq_true rfl⟩) kw_422 kw_423 kw_424 0 8 rfl rfl (cM_mo a ca st) rfl hl.1 rfl (Nat.le_of_ble_eq_true rfl) dX8_heard_2) (fun r2 st1 H locs h hP hS => ?_)
  refine lv_if_ne (pc := 5) (tgt := 10) S.1 S.2.1 dX8_heard_5 (by decide) (fun c1 => ?_) (fun c1 => ?_)
  · have h := h.2 c1
    refine lv_aload_n (pc := 10) S.1 S.2.1 dX8_heard_10 rfl (lv_at hl 0 rfl) ?_
    refine tGv hS (tRunV (pc := 11) (As := []) (rest := []) S E hP hS (mt_X8_tunesOf l dC dI a ca tb _  st1 _ h) (cw_X8_tunesOf ⟨Nat.le_of_ble_eq_true rfl, Nat.le_of_ble_eq_true rfl⟩) kw_498 kw_499 kw_500 0 8 rfl rfl (cM_mo a ca st1) rfl hl.1 rfl (Nat.le_of_ble_eq_true rfl) dX8_heard_11) (fun st3 H locs h hP hS => ?_)
    refine lv_aload_n (pc := 14) S.1 S.2.1 dX8_heard_14 rfl (lv_at hl 0 rfl) ?_
    refine tp_get (pc := 15) S E.1 hP iwX8 0 (cM_mo a ca st3) rfl 27 (by decide) kw_491 (v := .ref (a 19)) rfl dX8_heard_15 ?_
    refine lv_iload_n (pc := 18) S.1 S.2.1 dX8_heard_18 rfl (lv_at hl 1 rfl) ?_
    obtain ⟨hn2, h⟩ := h
    refine tp_iald (pc := 19) S E.1 hP 19 0 (cM_has a ca st3) rfl (j := x1.toNatClampNeg) rfl hn2 dX8_heard_19 ?_
    exact tRi S hr hlk hP hS h dX8_heard_20
  · have h := h.1 c1
    refine lv_iconst (pc := 8) S.1 S.2.1 (v := (-1)) dX8_heard_8 (by decide) ?_
    exact tRi S hr hlk hP hS h dX8_heard_9

abbrev rmX8_fundOf : Room := { frames := 1, cells := 0, slots := 0, locals := 22 }
theorem cw_X8_fundOf {R : Room} {own : String} {index : Nat} (h : rmX8_fundOf.frames + 1 ≤ R.frames ∧ 8 + (2 + 11) + rmX8_fundOf.locals ≤ R.locals) : tCw R own index yX8_fundOf cX8_fundOf 2 (some .int) rmX8_fundOf 1 := ⟨kw_502, kw_373, ⟨rfl, rfl, h.1, h.2⟩, by decide +kernel, by decide +kernel, by decide +kernel⟩

set_option maxHeartbeats 4000000 in
set_option maxRecDepth 100000 in
theorem mt_X8_fundOf (l : Launch) (dC : Nat → ClassId) (dI : Nat → Nat → Nat) (a : Nat → Nat) (ca : Nat → ClassId) (tb : Nat → Nat) (sz : Nat) (x1 : Int32) (st : tSt) (post : Int32 → tSt → Prop) (h : wp_M_fundOf x1 st post) : Met l yX8_fundOf (.code yX8_fundOf cX8_fundOf 2 (some .int) :: tWALL) rmX8_fundOf (va_Pc [.ref (a 0), .int x1] (tPre 21 (cwM a ca) dC dI a ca tb sz st)) (va_Qi post (tB (cwM a ca) dC dI) (tA 21 a sz)) 0 0 (tA 21 a sz) := by
  refine tp_met (by decide) (Nat.le_of_ble_eq_true rfl) ?_
  intro p e s m below meth c ls S hr hlk hsz E hP hl
  subst hsz
  have S : CallFix p m c cX8_fundOf 2 s _ (.code yX8_fundOf cX8_fundOf 2 (some .int) :: tWALL) RX8 := S
  have hl : lv_has ls 2 [(0, .ref (a 0)), (1, .int x1)] := hl
  have hS : va_S (tA 21 a s.heap.size) s.heap s.heap [] := va_S.rf
  show W p l e _ s m _ below meth c s.heap [] 0 0 (tQi (cwM a ca) 21 dC dI a ([.ref (a 0), .int x1] : List Value).toArray below s post) (F0 m 0 ls [])
  refine lv_aload_n (pc := 0) S.1 S.2.1 dX8_fundOf_0 rfl (lv_at hl 0 rfl) ?_
  refine lv_iload_n (pc := 1) S.1 S.2.1 dX8_fundOf_1 rfl (lv_at hl 1 rfl) ?_
  refine lv_bipush (pc := 2) S.1 S.2.1 (v := 7) dX8_fundOf_2 (by decide) ?_
  refine tGi hS (tRunV (pc := 4) (As := [.int x1, .int (7 : Int32)]) (rest := []) S E hP hS (mt_X8_of l dC dI a ca tb _ x1 (7 : Int32) st _ h) (cw_X8_of ⟨Nat.le_of_ble_eq_true rfl, Nat.le_of_ble_eq_true rfl⟩) kw_429 kw_430 kw_431 0 8 rfl rfl (cM_mo a ca st) rfl hl.1 rfl (Nat.le_of_ble_eq_true rfl) dX8_fundOf_4) (fun r2 st1 H locs h hP hS => ?_)
  refine lv_aload_n (pc := 7) S.1 S.2.1 dX8_fundOf_7 rfl (lv_at hl 0 rfl) ?_
  refine tp_get (pc := 8) S E.1 hP iwX8 0 (cM_mo a ca st1) rfl 7 (by decide) kw_400 (v := .ref (a 2)) rfl dX8_fundOf_8 ?_
  refine lv_iconst (pc := 11) S.1 S.2.1 (v := 1) dX8_fundOf_11 (by decide) ?_
  refine tp_iald (pc := 12) S E.1 hP 2 0 (cM_four a ca st1 (j := 0) (by decide)) rfl (j := 1) (by decide +kernel) (by decide +kernel : ¬ ((1 : Int32) < 0 ∨ 4 ≤ (1 : Int32).toNatClampNeg)) dX8_fundOf_12 ?_
  refine lv_imul (pc := 13) S.1 S.2.1 dX8_fundOf_13 ?_
  refine lv_bipush (pc := 14) S.1 S.2.1 (v := 100) dX8_fundOf_14 (by decide) ?_
  refine lv_idiv (pc := 16) S.1 S.2.1 dX8_fundOf_16 (by decide) ?_
  exact tRi S hr hlk hP hS h dX8_fundOf_17

abbrev rmX8_shareOf : Room := { frames := 2, cells := 0, slots := 0, locals := 43 }
theorem cw_X8_shareOf {R : Room} {own : String} {index : Nat} (h : rmX8_shareOf.frames + 1 ≤ R.frames ∧ 8 + (12 + 11) + rmX8_shareOf.locals ≤ R.locals) : tCw R own index yX8_shareOf cX8_shareOf 12 (some .int) rmX8_shareOf 2 := ⟨kw_506, kw_373, ⟨rfl, rfl, h.1, h.2⟩, by decide +kernel, by decide +kernel, by decide +kernel⟩
set_option maxHeartbeats 4000000 in
set_option maxRecDepth 100000 in
theorem wk_X8_shareOf_79 {p : Program} {l : Launch} {e : Env} {s : State} {m : MethodId} {args : Array Value} {below : List Frame} {meth : Method} {c : Code} {dC : Nat → ClassId} {dI : Nat → Nat → Nat} {a : Nat → Nat} {ca : Nat → ClassId} {tb : Nat → Nat} {w0 : Cond} (S : CallFix p m c cX8_shareOf 12 s args (w0 :: tWALL) RX8) (hr : meth.sig.returnType = (some .int)) (hlk : meth.locks = false) (E : tEnv 21 dC dI a ca tb s) (post : Int32 → tSt → Prop) : ∀ (x2 : Int32) (x5 : Int32) (x6 : Int32) (s0 : Int32) (st : tSt), wp_M_shareOf_79 post x2 x5 x6 s0 st → tAt p l e rmX8_shareOf s m args below meth c (dC, dI) (cwM a ca) (tA 21 a s.heap.size) (tQi (cwM a ca) 21 dC dI a args below s post) 12 79 [(0, .ref (a 0)), (2, .int x2), (5, .int x5), (6, .int x6)] [.int s0] st := by
  intro x2 x5 x6 s0 st h H locs ls hP hS hl
  refine lv_istore (pc := 79) S.1 S.2.1 (lv' := [(7, .int s0), (0, .ref (a 0)), (2, .int x2), (5, .int x5), (6, .int x6)]) dX8_shareOf_79 hl (by decide) rfl (fun ls hl => ?_)
  refine lv_iload (pc := 81) S.1 S.2.1 dX8_shareOf_81 (lv_at hl 3 rfl) ?_
  refine lv_aload_n (pc := 83) S.1 S.2.1 dX8_shareOf_83 rfl (lv_at hl 1 rfl) ?_
  refine tp_get (pc := 84) S E.1 hP iwX8 0 (cM_mo a ca st) rfl 9 (by decide) kw_407 (v := .ref (a 4)) rfl dX8_shareOf_84 ?_
  refine lv_iload_n (pc := 87) S.1 S.2.1 dX8_shareOf_87 rfl (lv_at hl 2 rfl) ?_
  obtain ⟨hn1, h⟩ := h
  refine tp_iald (pc := 88) S E.1 hP 4 0 (cM_rank a ca st) rfl (j := x2.toNatClampNeg) rfl hn1 dX8_shareOf_88 ?_
  refine lv_imul (pc := 89) S.1 S.2.1 dX8_shareOf_89 ?_
  refine lv_iload (pc := 90) S.1 S.2.1 dX8_shareOf_90 (lv_at hl 4 rfl) ?_
  obtain ⟨hn2, h⟩ := h
  refine lv_idiv (pc := 92) S.1 S.2.1 dX8_shareOf_92 hn2 ?_
  refine lv_topi (fun y8_1 e3 => ?_)
  have h := h y8_1 e3
  refine lv_istore (pc := 93) S.1 S.2.1 (lv' := [(8, .int y8_1), (7, .int s0), (0, .ref (a 0)), (2, .int x2), (5, .int x5), (6, .int x6)]) dX8_shareOf_93 hl (by decide) rfl (fun ls hl => ?_)
  refine lv_iload (pc := 95) S.1 S.2.1 dX8_shareOf_95 (lv_at hl 4 rfl) ?_
  refine lv_iload (pc := 97) S.1 S.2.1 dX8_shareOf_97 (lv_at hl 0 rfl) ?_
  refine lv_isub (pc := 99) S.1 S.2.1 dX8_shareOf_99 ?_
  refine lv_iload (pc := 100) S.1 S.2.1 dX8_shareOf_100 (lv_at hl 4 rfl) ?_
  refine lv_aload_n (pc := 102) S.1 S.2.1 dX8_shareOf_102 rfl (lv_at hl 2 rfl) ?_
  refine tp_get (pc := 103) S E.1 hP iwX8 0 (cM_mo a ca st) rfl 9 (by decide) kw_407 (v := .ref (a 4)) rfl dX8_shareOf_103 ?_
  refine lv_iload (pc := 106) S.1 S.2.1 dX8_shareOf_106 (lv_at hl 1 rfl) ?_
  obtain ⟨hn4, h⟩ := h
  refine tp_iald (pc := 108) S E.1 hP 4 0 (cM_rank a ca st) rfl (j := s0.toNatClampNeg) rfl hn4 dX8_shareOf_108 ?_
  refine lv_imul (pc := 109) S.1 S.2.1 dX8_shareOf_109 ?_
  refine lv_iload (pc := 110) S.1 S.2.1 dX8_shareOf_110 (lv_at hl 5 rfl) ?_
  obtain ⟨hn5, h⟩ := h
  refine lv_idiv (pc := 112) S.1 S.2.1 dX8_shareOf_112 hn5 ?_
  refine lv_isub (pc := 113) S.1 S.2.1 dX8_shareOf_113 ?_
  refine lv_topi (fun y9_2 e6 => ?_)
  have h := h y9_2 e6
  refine lv_istore (pc := 114) S.1 S.2.1 (lv' := [(9, .int y9_2), (8, .int y8_1), (7, .int s0), (0, .ref (a 0)), (2, .int x2), (5, .int x5), (6, .int x6)]) dX8_shareOf_114 hl (by decide) rfl (fun ls hl => ?_)
  refine lv_iload (pc := 116) S.1 S.2.1 dX8_shareOf_116 (lv_at hl 5 rfl) ?_
  refine lv_aload_n (pc := 118) S.1 S.2.1 dX8_shareOf_118 rfl (lv_at hl 3 rfl) ?_
  refine tp_get (pc := 119) S E.1 hP iwX8 0 (cM_mo a ca st) rfl 9 (by decide) kw_407 (v := .ref (a 4)) rfl dX8_shareOf_119 ?_
  refine lv_iload_n (pc := 122) S.1 S.2.1 dX8_shareOf_122 rfl (lv_at hl 4 rfl) ?_
  obtain ⟨hn7, h⟩ := h
  refine tp_iald (pc := 123) S E.1 hP 4 0 (cM_rank a ca st) rfl (j := x2.toNatClampNeg) rfl hn7 dX8_shareOf_123 ?_
  refine lv_imul (pc := 124) S.1 S.2.1 dX8_shareOf_124 ?_
  refine lv_iload (pc := 125) S.1 S.2.1 dX8_shareOf_125 (lv_at hl 6 rfl) ?_
  obtain ⟨hn8, h⟩ := h
  refine lv_irem (pc := 127) S.1 S.2.1 dX8_shareOf_127 hn8 ?_
  refine lv_topi (fun y10_3 e9 => ?_)
  have h := h y10_3 e9
  refine lv_istore (pc := 128) S.1 S.2.1 (lv' := [(10, .int y10_3), (9, .int y9_2), (8, .int y8_1), (7, .int s0), (0, .ref (a 0)), (2, .int x2), (5, .int x5), (6, .int x6)]) dX8_shareOf_128 hl (by decide) rfl (fun ls hl => ?_)
  refine lv_iload (pc := 130) S.1 S.2.1 dX8_shareOf_130 (lv_at hl 6 rfl) ?_
  refine lv_aload_n (pc := 132) S.1 S.2.1 dX8_shareOf_132 rfl (lv_at hl 4 rfl) ?_
  refine tp_get (pc := 133) S E.1 hP iwX8 0 (cM_mo a ca st) rfl 9 (by decide) kw_407 (v := .ref (a 4)) rfl dX8_shareOf_133 ?_
  refine lv_iload (pc := 136) S.1 S.2.1 dX8_shareOf_136 (lv_at hl 3 rfl) ?_
  obtain ⟨hn10, h⟩ := h
  refine tp_iald (pc := 138) S E.1 hP 4 0 (cM_rank a ca st) rfl (j := s0.toNatClampNeg) rfl hn10 dX8_shareOf_138 ?_
  refine lv_imul (pc := 139) S.1 S.2.1 dX8_shareOf_139 ?_
  refine lv_iload (pc := 140) S.1 S.2.1 dX8_shareOf_140 (lv_at hl 7 rfl) ?_
  obtain ⟨hn11, h⟩ := h
  refine lv_irem (pc := 142) S.1 S.2.1 dX8_shareOf_142 hn11 ?_
  refine lv_topi (fun y11_4 e12 => ?_)
  have h := h y11_4 e12
  refine lv_istore (pc := 143) S.1 S.2.1 (lv' := [(11, .int y11_4), (10, .int y10_3), (9, .int y9_2), (8, .int y8_1), (7, .int s0), (0, .ref (a 0)), (2, .int x2), (5, .int x5), (6, .int x6)]) dX8_shareOf_143 hl (by decide) rfl (fun ls hl => ?_)
  refine lv_iload (pc := 145) S.1 S.2.1 dX8_shareOf_145 (lv_at hl 3 rfl) ?_
  refine lv_iload (pc := 147) S.1 S.2.1 dX8_shareOf_147 (lv_at hl 1 rfl) ?_
  refine lv_iload (pc := 149) S.1 S.2.1 dX8_shareOf_149 (lv_at hl 0 rfl) ?_
  refine lv_icmp_gt (pc := 151) (tgt := 167) S.1 S.2.1 dX8_shareOf_151 (by decide) (fun c13 => ?_) (fun c13 => ?_)
  · have h := h.1 c13
    refine lv_iload (pc := 167) S.1 S.2.1 dX8_shareOf_167 (lv_at hl 2 rfl) ?_
    refine lv_goto (pc := 169) S.1 S.2.1 (tgt := 173) dX8_shareOf_169 (by decide) ?_
    refine lv_iadd (pc := 173) S.1 S.2.1 dX8_shareOf_173 ?_
    exact tRi S hr hlk hP hS h dX8_shareOf_174
  · have h := h.2 c13
    refine lv_iload (pc := 154) S.1 S.2.1 dX8_shareOf_154 (lv_at hl 1 rfl) ?_
    refine lv_iload (pc := 156) S.1 S.2.1 dX8_shareOf_156 (lv_at hl 0 rfl) ?_
    refine lv_icmp_ne (pc := 158) (tgt := 172) S.1 S.2.1 dX8_shareOf_158 (by decide) (fun c14 => ?_) (fun c14 => ?_)
    · have h := h.2 c14
      refine lv_iconst (pc := 172) S.1 S.2.1 (v := 0) dX8_shareOf_172 (by decide) ?_
      refine lv_iadd (pc := 173) S.1 S.2.1 dX8_shareOf_173 ?_
      exact tRi S hr hlk hP hS h dX8_shareOf_174
    · have h := h.1 c14
      refine lv_iload_n (pc := 161) S.1 S.2.1 dX8_shareOf_161 rfl (lv_at hl 6 rfl) ?_
      refine lv_iload (pc := 162) S.1 S.2.1 dX8_shareOf_162 (lv_at hl 4 rfl) ?_
      refine lv_icmp_ge (pc := 164) (tgt := 172) S.1 S.2.1 dX8_shareOf_164 (by decide) (fun c15 => ?_) (fun c15 => ?_)
      · have h := h.1 c15
        refine lv_iconst (pc := 172) S.1 S.2.1 (v := 0) dX8_shareOf_172 (by decide) ?_
        refine lv_iadd (pc := 173) S.1 S.2.1 dX8_shareOf_173 ?_
        exact tRi S hr hlk hP hS h dX8_shareOf_174
      · have h := h.2 c15
        refine lv_iload (pc := 167) S.1 S.2.1 dX8_shareOf_167 (lv_at hl 2 rfl) ?_
        refine lv_goto (pc := 169) S.1 S.2.1 (tgt := 173) dX8_shareOf_169 (by decide) ?_
        refine lv_iadd (pc := 173) S.1 S.2.1 dX8_shareOf_173 ?_
        exact tRi S hr hlk hP hS h dX8_shareOf_174
set_option maxHeartbeats 4000000 in
set_option maxRecDepth 100000 in
theorem wk_X8_shareOf_43 {p : Program} {l : Launch} {e : Env} {s : State} {m : MethodId} {args : Array Value} {below : List Frame} {meth : Method} {c : Code} {dC : Nat → ClassId} {dI : Nat → Nat → Nat} {a : Nat → Nat} {ca : Nat → ClassId} {tb : Nat → Nat} {w0 : Cond} (S : CallFix p m c cX8_shareOf 12 s args (w0 :: tWALL) RX8) (hr : meth.sig.returnType = (some .int)) (hlk : meth.locks = false) (E : tEnv 21 dC dI a ca tb s) (post : Int32 → tSt → Prop) : ∀ (x2 : Int32) (x3 : Int32) (x4 : Int32) (x5 : Int32) (st : tSt), wp_M_shareOf_43 post x2 x3 x4 x5 st → tAt p l e rmX8_shareOf s m args below meth c (dC, dI) (cwM a ca) (tA 21 a s.heap.size) (tQi (cwM a ca) 21 dC dI a args below s post) 12 43 [(0, .ref (a 0)), (2, .int x2), (3, .int x3), (4, .int x4), (5, .int x5)] [] st := by
  intro x2 x3 x4 x5 st h H locs ls hP hS hl
  refine lv_iload (pc := 43) S.1 S.2.1 dX8_shareOf_43 (lv_at hl 3 rfl) ?_
  refine lv_iconst (pc := 45) S.1 S.2.1 (v := (-1)) dX8_shareOf_45 (by decide) ?_
  refine lv_icmp_ne (pc := 46) (tgt := 52) S.1 S.2.1 dX8_shareOf_46 (by decide) (fun c1 => ?_) (fun c1 => ?_)
  · have h := h.2 c1
    refine lv_aload_n (pc := 52) S.1 S.2.1 dX8_shareOf_52 rfl (lv_at hl 0 rfl) ?_
    refine tp_get (pc := 53) S E.1 hP iwX8 0 (cM_mo a ca st) rfl 9 (by decide) kw_407 (v := .ref (a 4)) rfl dX8_shareOf_53 ?_
    refine lv_iload_n (pc := 56) S.1 S.2.1 dX8_shareOf_56 rfl (lv_at hl 2 rfl) ?_
    obtain ⟨hn2, h⟩ := h
    refine tp_iald (pc := 57) S E.1 hP 4 0 (cM_rank a ca st) rfl (j := x3.toNatClampNeg) rfl hn2 dX8_shareOf_57 ?_
    refine lv_aload_n (pc := 58) S.1 S.2.1 dX8_shareOf_58 rfl (lv_at hl 0 rfl) ?_
    refine tp_get (pc := 59) S E.1 hP iwX8 0 (cM_mo a ca st) rfl 9 (by decide) kw_407 (v := .ref (a 4)) rfl dX8_shareOf_59 ?_
    refine lv_iload (pc := 62) S.1 S.2.1 dX8_shareOf_62 (lv_at hl 3 rfl) ?_
    obtain ⟨hn3, h⟩ := h
    refine tp_iald (pc := 64) S E.1 hP 4 0 (cM_rank a ca st) rfl (j := x4.toNatClampNeg) rfl hn3 dX8_shareOf_64 ?_
    refine lv_iadd (pc := 65) S.1 S.2.1 dX8_shareOf_65 ?_
    refine lv_topi (fun y6_1 e4 => ?_)
    have h := h y6_1 e4
    refine lv_istore (pc := 66) S.1 S.2.1 (lv' := [(6, .int y6_1), (0, .ref (a 0)), (2, .int x2), (3, .int x3), (4, .int x4), (5, .int x5)]) dX8_shareOf_66 hl (by decide) rfl (fun ls hl => ?_)
    refine lv_iload_n (pc := 68) S.1 S.2.1 dX8_shareOf_68 rfl (lv_at hl 2 rfl) ?_
    refine lv_iload_n (pc := 69) S.1 S.2.1 dX8_shareOf_69 rfl (lv_at hl 3 rfl) ?_
    refine lv_icmp_ne (pc := 70) (tgt := 78) S.1 S.2.1 dX8_shareOf_70 (by decide) (fun c5 => ?_) (fun c5 => ?_)
    · have h := h.2 c5
      refine lv_iload_n (pc := 78) S.1 S.2.1 dX8_shareOf_78 rfl (lv_at hl 3 rfl) ?_
      exact (fun x2 x5 x6 s0 st h => wk_X8_shareOf_79 S hr hlk E post  x2 x5 x6 s0 st h) x2 x5 y6_1 x3 st h _ _ _ hP hS (lv_sub hl [1, 2, 5, 0] rfl)
    · have h := h.1 c5
      refine lv_iload (pc := 73) S.1 S.2.1 dX8_shareOf_73 (lv_at hl 4 rfl) ?_
      refine lv_goto (pc := 75) S.1 S.2.1 (tgt := 79) dX8_shareOf_75 (by decide) ?_
      exact (fun x2 x5 x6 s0 st h => wk_X8_shareOf_79 S hr hlk E post  x2 x5 x6 s0 st h) x2 x5 y6_1 x4 st h _ _ _ hP hS (lv_sub hl [1, 2, 5, 0] rfl)
  · have h := h.1 c1
    refine lv_iload (pc := 49) S.1 S.2.1 dX8_shareOf_49 (lv_at hl 4 rfl) ?_
    exact tRi S hr hlk hP hS h dX8_shareOf_51
set_option maxHeartbeats 4000000 in
set_option maxRecDepth 100000 in
theorem mt_X8_shareOf (l : Launch) (dC : Nat → ClassId) (dI : Nat → Nat → Nat) (a : Nat → Nat) (ca : Nat → ClassId) (tb : Nat → Nat) (sz : Nat) (x1 : Int32) (x2 : Int32) (st : tSt) (post : Int32 → tSt → Prop) (h : wp_M_shareOf x1 x2 st post) : Met l yX8_shareOf (.code yX8_shareOf cX8_shareOf 12 (some .int) :: tWALL) rmX8_shareOf (va_Pc [.ref (a 0), .int x1, .int x2] (tPre 21 (cwM a ca) dC dI a ca tb sz st)) (va_Qi post (tB (cwM a ca) dC dI) (tA 21 a sz)) 0 0 (tA 21 a sz) := by
  refine tp_met (by decide) (Nat.le_of_ble_eq_true rfl) ?_
  intro p e s m below meth c ls S hr hlk hsz E hP hl
  subst hsz
  have S : CallFix p m c cX8_shareOf 12 s _ (.code yX8_shareOf cX8_shareOf 12 (some .int) :: tWALL) RX8 := S
  have hl : lv_has ls 12 [(0, .ref (a 0)), (1, .int x1), (2, .int x2)] := hl
  have hS : va_S (tA 21 a s.heap.size) s.heap s.heap [] := va_S.rf
  show W p l e _ s m _ below meth c s.heap [] 0 0 (tQi (cwM a ca) 21 dC dI a ([.ref (a 0), .int x1, .int x2] : List Value).toArray below s post) (F0 m 0 ls [])
  refine lv_aload_n (pc := 0) S.1 S.2.1 dX8_shareOf_0 rfl (lv_at hl 0 rfl) ?_
  refine lv_iload_n (pc := 1) S.1 S.2.1 dX8_shareOf_1 rfl (lv_at hl 1 rfl) ?_
  refine lv_iconst (pc := 2) S.1 S.2.1 (v := 0) dX8_shareOf_2 (by decide) ?_
  refine tGi hS (tRunV (pc := 3) (As := [.int x1, .int (0 : Int32)]) (rest := []) S E hP hS (mt_X8_whoHas l dC dI a ca tb _ x1 (0 : Int32) st _ h) (cw_X8_whoHas ⟨Nat.le_of_ble_eq_true rfl, Nat.le_of_ble_eq_true rfl⟩) kw_479 kw_480 kw_481 0 8 rfl rfl (cM_mo a ca st) rfl hl.1 rfl (Nat.le_of_ble_eq_true rfl) dX8_shareOf_3) (fun r2 st1 H locs h hP hS => ?_)
  refine lv_istore_n (pc := 6) S.1 S.2.1 (lv' := [(3, .int r2), (0, .ref (a 0)), (1, .int x1), (2, .int x2)]) dX8_shareOf_6 rfl hl (by decide) rfl (fun ls hl => ?_)
  refine lv_aload_n (pc := 7) S.1 S.2.1 dX8_shareOf_7 rfl (lv_at hl 1 rfl) ?_
  refine lv_iload_n (pc := 8) S.1 S.2.1 dX8_shareOf_8 rfl (lv_at hl 2 rfl) ?_
  refine lv_iconst (pc := 9) S.1 S.2.1 (v := 1) dX8_shareOf_9 (by decide) ?_
  refine tGi hS (tRunV (pc := 10) (As := [.int x1, .int (1 : Int32)]) (rest := []) S E hP hS (mt_X8_whoHas l dC dI a ca tb _ x1 (1 : Int32) st1 _ h) (cw_X8_whoHas ⟨Nat.le_of_ble_eq_true rfl, Nat.le_of_ble_eq_true rfl⟩) kw_479 kw_480 kw_481 0 8 rfl rfl (cM_mo a ca st1) rfl hl.1 rfl (Nat.le_of_ble_eq_true rfl) dX8_shareOf_10) (fun r4 st3 H locs h hP hS => ?_)
  refine lv_istore (pc := 13) S.1 S.2.1 (lv' := [(4, .int r4), (3, .int r2), (0, .ref (a 0)), (1, .int x1), (2, .int x2)]) dX8_shareOf_13 hl (by decide) rfl (fun ls hl => ?_)
  refine lv_aload_n (pc := 15) S.1 S.2.1 dX8_shareOf_15 rfl (lv_at hl 2 rfl) ?_
  refine lv_iload_n (pc := 16) S.1 S.2.1 dX8_shareOf_16 rfl (lv_at hl 3 rfl) ?_
  refine lv_bipush (pc := 17) S.1 S.2.1 (v := 7) dX8_shareOf_17 (by decide) ?_
  refine tGi hS (tRunV (pc := 19) (As := [.int x1, .int (7 : Int32)]) (rest := []) S E hP hS (mt_X8_of l dC dI a ca tb _ x1 (7 : Int32) st3 _ h) (cw_X8_of ⟨Nat.le_of_ble_eq_true rfl, Nat.le_of_ble_eq_true rfl⟩) kw_429 kw_430 kw_431 0 8 rfl rfl (cM_mo a ca st3) rfl hl.1 rfl (Nat.le_of_ble_eq_true rfl) dX8_shareOf_19) (fun r6 st5 H locs h hP hS => ?_)
  refine lv_aload_n (pc := 22) S.1 S.2.1 dX8_shareOf_22 rfl (lv_at hl 2 rfl) ?_
  refine lv_iload_n (pc := 23) S.1 S.2.1 dX8_shareOf_23 rfl (lv_at hl 3 rfl) ?_
  refine tGi hS (tRunV (pc := 24) (As := [.int x1]) (rest := [.int r6]) S E hP hS (mt_X8_fundOf l dC dI a ca tb _ x1 st5 _ h) (cw_X8_fundOf ⟨Nat.le_of_ble_eq_true rfl, Nat.le_of_ble_eq_true rfl⟩) kw_503 kw_504 kw_505 0 8 rfl rfl (cM_mo a ca st5) rfl hl.1 rfl (Nat.le_of_ble_eq_true rfl) dX8_shareOf_24) (fun r8 st7 H locs h hP hS => ?_)
  refine lv_isub (pc := 27) S.1 S.2.1 dX8_shareOf_27 ?_
  refine lv_topi (fun y5_9 e1 => ?_)
  have h := h y5_9 e1
  refine lv_istore (pc := 28) S.1 S.2.1 (lv' := [(5, .int y5_9), (4, .int r4), (3, .int r2), (0, .ref (a 0)), (1, .int x1), (2, .int x2)]) dX8_shareOf_28 hl (by decide) rfl (fun ls hl => ?_)
  refine lv_iload_n (pc := 30) S.1 S.2.1 dX8_shareOf_30 rfl (lv_at hl 5 rfl) ?_
  refine lv_iload_n (pc := 31) S.1 S.2.1 dX8_shareOf_31 rfl (lv_at hl 2 rfl) ?_
  refine lv_icmp_eq (pc := 32) (tgt := 43) S.1 S.2.1 dX8_shareOf_32 (by decide) (fun c2 => ?_) (fun c2 => ?_)
  · have h := h.1 c2
    exact (fun x2 x3 x4 x5 st h => wk_X8_shareOf_43 S hr hlk E post  x2 x3 x4 x5 st h) x2 r2 r4 y5_9 st7 h _ _ _ hP hS (lv_sub hl [3, 5, 2, 1, 0] rfl)
  · have h := h.2 c2
    refine lv_iload_n (pc := 35) S.1 S.2.1 dX8_shareOf_35 rfl (lv_at hl 5 rfl) ?_
    refine lv_iload (pc := 36) S.1 S.2.1 dX8_shareOf_36 (lv_at hl 1 rfl) ?_
    refine lv_icmp_eq (pc := 38) (tgt := 43) S.1 S.2.1 dX8_shareOf_38 (by decide) (fun c3 => ?_) (fun c3 => ?_)
    · have h := h.1 c3
      exact (fun x2 x3 x4 x5 st h => wk_X8_shareOf_43 S hr hlk E post  x2 x3 x4 x5 st h) x2 r2 r4 y5_9 st7 h _ _ _ hP hS (lv_sub hl [3, 5, 2, 1, 0] rfl)
    · have h := h.2 c3
      refine lv_iconst (pc := 41) S.1 S.2.1 (v := 0) dX8_shareOf_41 (by decide) ?_
      exact tRi S hr hlk hP hS h dX8_shareOf_42

abbrev rmX8_share : Room := { frames := 6, cells := 0, slots := 0, locals := 136 }
theorem cw_X8_share {R : Room} {own : String} {index : Nat} (h : rmX8_share.frames + 1 ≤ R.frames ∧ 8 + (3 + 11) + rmX8_share.locals ≤ R.locals) : tCw R own index yX8_share cX8_share 3 (some .int) rmX8_share 2 := ⟨kw_510, kw_373, ⟨rfl, rfl, h.1, h.2⟩, by decide +kernel, by decide +kernel, by decide +kernel⟩
set_option maxHeartbeats 4000000 in
set_option maxRecDepth 100000 in
theorem wk_X8_share_21 {p : Program} {l : Launch} {e : Env} {s : State} {m : MethodId} {args : Array Value} {below : List Frame} {meth : Method} {c : Code} {dC : Nat → ClassId} {dI : Nat → Nat → Nat} {a : Nat → Nat} {ca : Nat → ClassId} {tb : Nat → Nat} {w0 : Cond} (S : CallFix p m c cX8_share 3 s args (w0 :: tWALL) RX8) (hr : meth.sig.returnType = (some .int)) (hlk : meth.locks = false) (E : tEnv 21 dC dI a ca tb s) (post : Int32 → tSt → Prop) : ∀ (x1 : Int32) (x2 : Int32) (st : tSt), wp_M_share_21 post x1 x2 st → tAt p l e rmX8_share s m args below meth c (dC, dI) (cwM a ca) (tA 21 a s.heap.size) (tQi (cwM a ca) 21 dC dI a args below s post) 3 21 [(0, .ref (a 0)), (1, .int x1), (2, .int x2)] [] st := by
  intro x1 x2 st h H locs ls hP hS hl
  refine lv_aload_n (pc := 21) S.1 S.2.1 dX8_share_21 rfl (lv_at hl 0 rfl) ?_
  refine tGi hS (tRunV (pc := 22) (As := []) (rest := []) S E hP hS (mt_X8_works l dC dI a ca tb _  st _ h) (cw_X8_works ⟨Nat.le_of_ble_eq_true rfl, Nat.le_of_ble_eq_true rfl⟩) kw_474 kw_475 kw_476 0 8 rfl rfl (cM_mo a ca st) rfl hl.1 rfl (Nat.le_of_ble_eq_true rfl) dX8_share_22) (fun r2 st1 H locs h hP hS => ?_)
  refine lv_iload_n (pc := 25) S.1 S.2.1 dX8_share_25 rfl (lv_at hl 1 rfl) ?_
  refine tGi hS (tRunS (pc := 26) (As := [.int r2, .int x1]) (rest := []) S E hP hS (mt_X8_has l dC dI a ca tb _ r2 x1 st1 _ h) (cw_X8_has ⟨Nat.le_of_ble_eq_true rfl, Nat.le_of_ble_eq_true rfl⟩) kw_445 kw_444 rfl hl.1 rfl (Nat.le_of_ble_eq_true rfl) dX8_share_26) (fun r4 st3 H locs h hP hS => ?_)
  refine lv_if_ne (pc := 29) (tgt := 34) S.1 S.2.1 dX8_share_29 (by decide) (fun c1 => ?_) (fun c1 => ?_)
  · have h := h.2 c1
    refine lv_iload_n (pc := 34) S.1 S.2.1 dX8_share_34 rfl (lv_at hl 2 rfl) ?_
    refine lv_iconst (pc := 35) S.1 S.2.1 (v := (-1)) dX8_share_35 (by decide) ?_
    refine lv_icmp_ne (pc := 36) (tgt := 47) S.1 S.2.1 dX8_share_36 (by decide) (fun c2 => ?_) (fun c2 => ?_)
    · have h := h.2 c2
      refine lv_aload_n (pc := 47) S.1 S.2.1 dX8_share_47 rfl (lv_at hl 0 rfl) ?_
      refine lv_iload_n (pc := 48) S.1 S.2.1 dX8_share_48 rfl (lv_at hl 1 rfl) ?_
      refine lv_iload_n (pc := 49) S.1 S.2.1 dX8_share_49 rfl (lv_at hl 2 rfl) ?_
      refine tGi hS (tRunV (pc := 50) (As := [.int x1, .int x2]) (rest := []) S E hP hS (mt_X8_shareOf l dC dI a ca tb _ x1 x2 st3 _ h) (cw_X8_shareOf ⟨Nat.le_of_ble_eq_true rfl, Nat.le_of_ble_eq_true rfl⟩) kw_507 kw_508 kw_509 0 8 rfl rfl (cM_mo a ca st3) rfl hl.1 rfl (Nat.le_of_ble_eq_true rfl) dX8_share_50) (fun r6 st5 H locs h hP hS => ?_)
      exact tRi S hr hlk hP hS h dX8_share_53
    · have h := h.1 c2
      refine lv_aload_n (pc := 39) S.1 S.2.1 dX8_share_39 rfl (lv_at hl 0 rfl) ?_
      refine lv_iload_n (pc := 40) S.1 S.2.1 dX8_share_40 rfl (lv_at hl 1 rfl) ?_
      refine tGi hS (tRunV (pc := 41) (As := [.int x1]) (rest := []) S E hP hS (mt_X8_fundOf l dC dI a ca tb _ x1 st3 _ h) (cw_X8_fundOf ⟨Nat.le_of_ble_eq_true rfl, Nat.le_of_ble_eq_true rfl⟩) kw_503 kw_504 kw_505 0 8 rfl rfl (cM_mo a ca st3) rfl hl.1 rfl (Nat.le_of_ble_eq_true rfl) dX8_share_41) (fun r8 st7 H locs h hP hS => ?_)
      refine lv_goto (pc := 44) S.1 S.2.1 (tgt := 53) dX8_share_44 (by decide) ?_
      exact tRi S hr hlk hP hS h dX8_share_53
  · have h := h.1 c1
    refine lv_iconst (pc := 32) S.1 S.2.1 (v := (-1)) dX8_share_32 (by decide) ?_
    exact tRi S hr hlk hP hS h dX8_share_33
set_option maxHeartbeats 4000000 in
set_option maxRecDepth 100000 in
theorem mt_X8_share (l : Launch) (dC : Nat → ClassId) (dI : Nat → Nat → Nat) (a : Nat → Nat) (ca : Nat → ClassId) (tb : Nat → Nat) (sz : Nat) (x1 : Int32) (x2 : Int32) (st : tSt) (post : Int32 → tSt → Prop) (h : wp_M_share x1 x2 st post) : Met l yX8_share (.code yX8_share cX8_share 3 (some .int) :: tWALL) rmX8_share (va_Pc [.ref (a 0), .int x1, .int x2] (tPre 21 (cwM a ca) dC dI a ca tb sz st)) (va_Qi post (tB (cwM a ca) dC dI) (tA 21 a sz)) 0 0 (tA 21 a sz) := by
  refine tp_met (by decide) (Nat.le_of_ble_eq_true rfl) ?_
  intro p e s m below meth c ls S hr hlk hsz E hP hl
  subst hsz
  have S : CallFix p m c cX8_share 3 s _ (.code yX8_share cX8_share 3 (some .int) :: tWALL) RX8 := S
  have hl : lv_has ls 3 [(0, .ref (a 0)), (1, .int x1), (2, .int x2)] := hl
  have hS : va_S (tA 21 a s.heap.size) s.heap s.heap [] := va_S.rf
  show W p l e _ s m _ below meth c s.heap [] 0 0 (tQi (cwM a ca) 21 dC dI a ([.ref (a 0), .int x1, .int x2] : List Value).toArray below s post) (F0 m 0 ls [])
  refine lv_aload_n (pc := 0) S.1 S.2.1 dX8_share_0 rfl (lv_at hl 0 rfl) ?_
  refine lv_iload_n (pc := 1) S.1 S.2.1 dX8_share_1 rfl (lv_at hl 1 rfl) ?_
  refine tGi hS (tRunV (pc := 2) (As := [.int x1]) (rest := []) S E hP hS (mt_X8_isCall l dC dI a ca tb _ x1 st _ h) (cw_X8_isCall ⟨Nat.le_of_ble_eq_true rfl, Nat.le_of_ble_eq_true rfl⟩) kw_422 kw_423 kw_424 0 8 rfl rfl (cM_mo a ca st) rfl hl.1 rfl (Nat.le_of_ble_eq_true rfl) dX8_share_2) (fun r2 st1 H locs h hP hS => ?_)
  refine lv_if_eq (pc := 5) (tgt := 32) S.1 S.2.1 dX8_share_5 (by decide) (fun c1 => ?_) (fun c1 => ?_)
  · have h := h.1 c1
    refine lv_iconst (pc := 32) S.1 S.2.1 (v := (-1)) dX8_share_32 (by decide) ?_
    exact tRi S hr hlk hP hS h dX8_share_33
  · have h := h.2 c1
    refine lv_iload_n (pc := 8) S.1 S.2.1 dX8_share_8 rfl (lv_at hl 2 rfl) ?_
    refine lv_iconst (pc := 9) S.1 S.2.1 (v := (-1)) dX8_share_9 (by decide) ?_
    refine lv_icmp_eq (pc := 10) (tgt := 21) S.1 S.2.1 dX8_share_10 (by decide) (fun c2 => ?_) (fun c2 => ?_)
    · have h := h.1 c2
      exact (fun x1 x2 st h => wk_X8_share_21 S hr hlk E post  x1 x2 st h) x1 x2 st1 h _ _ _ hP hS (lv_sub hl [0, 1, 2] rfl)
    · have h := h.2 c2
      refine lv_aload_n (pc := 13) S.1 S.2.1 dX8_share_13 rfl (lv_at hl 0 rfl) ?_
      refine lv_iload_n (pc := 14) S.1 S.2.1 dX8_share_14 rfl (lv_at hl 2 rfl) ?_
      refine tGi hS (tRunV (pc := 15) (As := [.int x2]) (rest := []) S E hP hS (mt_X8_isPiper l dC dI a ca tb _ x2 st1 _ h) (cw_X8_isPiper ⟨Nat.le_of_ble_eq_true rfl, Nat.le_of_ble_eq_true rfl⟩) kw_411 kw_412 kw_413 0 8 rfl rfl (cM_mo a ca st1) rfl hl.1 rfl (Nat.le_of_ble_eq_true rfl) dX8_share_15) (fun r4 st3 H locs h hP hS => ?_)
      refine lv_if_eq (pc := 18) (tgt := 32) S.1 S.2.1 dX8_share_18 (by decide) (fun c3 => ?_) (fun c3 => ?_)
      · have h := h.1 c3
        refine lv_iconst (pc := 32) S.1 S.2.1 (v := (-1)) dX8_share_32 (by decide) ?_
        exact tRi S hr hlk hP hS h dX8_share_33
      · have h := h.2 c3
        exact (fun x1 x2 st h => wk_X8_share_21 S hr hlk E post  x1 x2 st h) x1 x2 st3 h _ _ _ hP hS (lv_sub hl [0, 1, 2] rfl)
