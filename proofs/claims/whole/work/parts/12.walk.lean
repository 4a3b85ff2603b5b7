abbrev rmX1_markTakers : Room := { frames := 2, cells := 0, slots := 0, locals := 42 }
theorem cw_X1_markTakers {R : Room} {own : String} {index : Nat} (h : rmX1_markTakers.frames + 1 ≤ R.frames ∧ 8 + (4 + 11) + rmX1_markTakers.locals ≤ R.locals) : tCw R own index yX1_markTakers cX1_markTakers 4 none rmX1_markTakers 2 := ⟨kw_99, kw_90, ⟨rfl, rfl, h.1, h.2⟩, by decide +kernel, by decide +kernel, by decide +kernel⟩
set_option maxHeartbeats 4000000 in
set_option maxRecDepth 100000 in
theorem wk_X1_markTakers_33 {p : Program} {l : Launch} {e : Env} {s : State} {m : MethodId} {args : Array Value} {below : List Frame} {meth : Method} {c : Code} {dC : Nat → ClassId} {dI : Nat → Nat → Nat} {a : Nat → Nat} {ca : Nat → ClassId} {tb : Nat → Nat} {w0 : Cond} (S : CallFix p m c cX1_markTakers 4 s args (w0 :: tWALL) RX1) (hr : meth.sig.returnType = none) (hlk : meth.locks = false) (E : tEnv 47 dC dI a ca tb s) (post : tSt → Prop) (k2 : Int32 → Int32 → tSt → Prop) (hk2 : ∀ (x2 : Int32) (x3 : Int32) (st : tSt), k2 x2 x3 st → tAt p l e rmX1_markTakers s m args below meth c (dC, dI) (cwC a ca) (tA 47 a s.heap.size) (tQv (cwC a ca) 47 dC dI a args below s post) 4 2 [(0, .ref (a 40)), (1, .ref (a 6)), (2, .int x2), (3, .int x3)] [] st) : ∀ (x2 : Int32) (x3 : Int32) (st : tSt), wp_Cast_markTakers_33 post k2 x2 x3 st → tAt p l e rmX1_markTakers s m args below meth c (dC, dI) (cwC a ca) (tA 47 a s.heap.size) (tQv (cwC a ca) 47 dC dI a args below s post) 4 33 [(0, .ref (a 40)), (1, .ref (a 6)), (2, .int x2), (3, .int x3)] [] st := by
  intro x2 x3 st h H locs ls hP hS hl
  obtain ⟨y3_1, e1⟩ : ∃ y : Int32, y = x3 + 1 := ⟨_, rfl⟩
  have h := h y3_1 e1
  refine lv_iinc (pc := 33) S.1 S.2.1 (v := y3_1) (lv' := [(3, .int y3_1), (0, .ref (a 40)), (1, .ref (a 6)), (2, .int x2)]) dX1_markTakers_33 hl (k := 3) rfl (by rw [e1]; rfl) (by decide) rfl (fun ls hl => ?_)
  refine lv_goto (pc := 36) S.1 S.2.1 (tgt := 2) dX1_markTakers_36 (by decide) ?_
  exact hk2 x2 y3_1 st h _ _ _ hP hS (lv_sub hl [1, 2, 3, 0] rfl)
set_option maxHeartbeats 4000000 in
set_option maxRecDepth 100000 in
theorem wk_X1_markTakers_2 {p : Program} {l : Launch} {e : Env} {s : State} {m : MethodId} {args : Array Value} {below : List Frame} {meth : Method} {c : Code} {dC : Nat → ClassId} {dI : Nat → Nat → Nat} {a : Nat → Nat} {ca : Nat → ClassId} {tb : Nat → Nat} {w0 : Cond} (S : CallFix p m c cX1_markTakers 4 s args (w0 :: tWALL) RX1) (hr : meth.sig.returnType = none) (hlk : meth.locks = false) (E : tEnv 47 dC dI a ca tb s) (post : tSt → Prop) : ∀ (n : Nat) (x2 : Int32) (x3 : Int32) (st : tSt), wp_Cast_markTakers_2 post n x2 x3 st → tAt p l e rmX1_markTakers s m args below meth c (dC, dI) (cwC a ca) (tA 47 a s.heap.size) (tQv (cwC a ca) 47 dC dI a args below s post) 4 2 [(0, .ref (a 40)), (1, .ref (a 6)), (2, .int x2), (3, .int x3)] [] st := by
  intro n
  induction n with
  | zero => intro x2 x3 st h; exact absurd h id
  | succ n ih =>
    intro x2 x3 st h H locs ls hP hS hl
    refine lv_iload_n (pc := 2) S.1 S.2.1 dX1_markTakers_2 rfl (lv_at hl 3 rfl) ?_
    refine lv_bipush (pc := 3) S.1 S.2.1 (v := 6) dX1_markTakers_3 (by decide) ?_
    refine lv_icmp_ge (pc := 5) (tgt := 39) S.1 S.2.1 dX1_markTakers_5 (by decide) (fun c1 => ?_) (fun c1 => ?_)
    · have h := h.1 c1
      exact tRv S hr hlk hP hS h dX1_markTakers_39
    · have h := h.2 c1
      refine lv_aload_n (pc := 8) S.1 S.2.1 dX1_markTakers_8 rfl (lv_at hl 1 rfl) ?_
      refine lv_iload_n (pc := 9) S.1 S.2.1 dX1_markTakers_9 rfl (lv_at hl 3 rfl) ?_
      obtain ⟨hn2, h⟩ := h
      refine tp_aald (pc := 10) S E.1 hP 6 1 (cC_pipersA a ca st) rfl (j := x3.toNatClampNeg) (d := a (7 + x3.toNatClampNeg)) rfl rfl hn2 dX1_markTakers_10 ?_
      have hj3 := t_lt hn2
      refine lv_iload_n (pc := 11) S.1 S.2.1 dX1_markTakers_11 rfl (lv_at hl 2 rfl) ?_
      refine tGi hS (tRunV (pc := 12) (As := [.int x2]) (rest := []) S E hP hS (mt_X2_canPlay l dC dI a ca tb _ hj3 x2 st _ h) (cw_X2_canPlay ⟨Nat.le_of_ble_eq_true rfl, Nat.le_of_ble_eq_true rfl⟩) kw_96 kw_97 kw_98 (7 + x3.toNatClampNeg) 2 rfl rfl (cC_piper a ca st hj3) rfl hl.1 rfl (Nat.le_of_ble_eq_true rfl) dX1_markTakers_12) (fun r2 st1 H locs h hP hS => ?_)
      refine lv_if_eq (pc := 15) (tgt := 33) S.1 S.2.1 dX1_markTakers_15 (by decide) (fun c4 => ?_) (fun c4 => ?_)
      · have h := h.1 c4
        exact (fun x2 x3 st h => wk_X1_markTakers_33 S hr hlk E post (wp_Cast_markTakers_2 post n) ih x2 x3 st h) x2 x3 st1 h _ _ _ hP hS (lv_sub hl [0, 1, 2, 3] rfl)
      · have h := h.2 c4
        refine lv_aload_n (pc := 18) S.1 S.2.1 dX1_markTakers_18 rfl (lv_at hl 0 rfl) ?_
        refine tp_get (pc := 19) S E.1 hP iwX1 40 (cC_cast a ca st1) rfl 0 (by decide) kw_87 (v := .ref (a 43)) rfl dX1_markTakers_19 ?_
        refine lv_iload_n (pc := 22) S.1 S.2.1 dX1_markTakers_22 rfl (lv_at hl 3 rfl) ?_
        refine lv_dup2_11 (pc := 23) S.1 S.2.1 dX1_markTakers_23 rfl rfl ?_
        obtain ⟨hn5, h⟩ := h
        refine tp_iald (pc := 24) S E.1 hP 43 0 (cC_openTo a ca st1) rfl (j := x3.toNatClampNeg) rfl hn5 dX1_markTakers_24 ?_
        refine lv_iconst (pc := 25) S.1 S.2.1 (v := 1) dX1_markTakers_25 (by decide) ?_
        refine lv_aload_n (pc := 26) S.1 S.2.1 dX1_markTakers_26 rfl (lv_at hl 0 rfl) ?_
        refine tp_get (pc := 27) S E.1 hP iwX1 40 (cC_cast a ca st1) rfl 4 (by decide) kw_86 (v := .int (st1 27 0)) rfl dX1_markTakers_27 ?_
        refine lv_ishl (pc := 30) S.1 S.2.1 dX1_markTakers_30 ?_
        refine lv_ior (pc := 31) S.1 S.2.1 dX1_markTakers_31 ?_
        obtain ⟨hn6, h⟩ := h
        refine tp_iast (pc := 32) S E.1 hP (cC_D E st1) hS 43 0 (cC_openTo a ca st1) rfl (j := x3.toNatClampNeg) rfl hn6 (sC_openTo a ca st1 _ _) dX1_markTakers_32 (fun st3 H locs e7 hP hS => ?_)
        have h := h st3 e7
        exact (fun x2 x3 st h => wk_X1_markTakers_33 S hr hlk E post (wp_Cast_markTakers_2 post n) ih x2 x3 st h) x2 x3 st3 h _ _ _ hP hS (lv_sub hl [0, 1, 2, 3] rfl)
set_option maxHeartbeats 4000000 in
set_option maxRecDepth 100000 in
theorem mt_X1_markTakers (l : Launch) (dC : Nat → ClassId) (dI : Nat → Nat → Nat) (a : Nat → Nat) (ca : Nat → ClassId) (tb : Nat → Nat) (sz : Nat) (x2 : Int32) (st : tSt) (post : tSt → Prop) (h : wp_Cast_markTakers x2 st post) : Met l yX1_markTakers (.code yX1_markTakers cX1_markTakers 4 none :: tWALL) rmX1_markTakers (va_Pc [.ref (a 40), .ref (a 6), .int x2] (tPre 47 (cwC a ca) dC dI a ca tb sz st)) (va_Qv post (tB (cwC a ca) dC dI) (tA 47 a sz)) 0 0 (tA 47 a sz) := by
  refine tp_met (by decide) (Nat.le_of_ble_eq_true rfl) ?_
  intro p e s m below meth c ls S hr hlk hsz E hP hl
  subst hsz
  have S : CallFix p m c cX1_markTakers 4 s _ (.code yX1_markTakers cX1_markTakers 4 none :: tWALL) RX1 := S
  have hl : lv_has ls 4 [(0, .ref (a 40)), (1, .ref (a 6)), (2, .int x2)] := hl
  have hS : va_S (tA 47 a s.heap.size) s.heap s.heap [] := va_S.rf
  show W p l e _ s m _ below meth c s.heap [] 0 0 (tQv (cwC a ca) 47 dC dI a ([.ref (a 40), .ref (a 6), .int x2] : List Value).toArray below s post) (F0 m 0 ls [])
  refine lv_iconst (pc := 0) S.1 S.2.1 (v := 0) dX1_markTakers_0 (by decide) ?_
  refine lv_istore_n (pc := 1) S.1 S.2.1 (lv' := [(3, .int (0 : Int32)), (0, .ref (a 40)), (1, .ref (a 6)), (2, .int x2)]) dX1_markTakers_1 rfl hl (by decide) rfl (fun ls hl => ?_)
  exact (fun x2 x3 st h => Exists.elim h (fun q h => wk_X1_markTakers_2 S hr hlk E post  q x2 x3 st h)) x2 (0 : Int32) st h _ _ _ hP hS (lv_sub hl [1, 2, 3, 0] rfl)

abbrev rmX1_markBars : Room := { frames := 2, cells := 0, slots := 0, locals := 47 }
theorem cw_X1_markBars {R : Room} {own : String} {index : Nat} (h : rmX1_markBars.frames + 1 ≤ R.frames ∧ 8 + (7 + 11) + rmX1_markBars.locals ≤ R.locals) : tCw R own index yX1_markBars cX1_markBars 7 none rmX1_markBars 3 := ⟨kw_105, kw_90, ⟨rfl, rfl, h.1, h.2⟩, by decide +kernel, by decide +kernel, by decide +kernel⟩
set_option maxHeartbeats 4000000 in
set_option maxRecDepth 100000 in
theorem wk_X1_markBars_112 {p : Program} {l : Launch} {e : Env} {s : State} {m : MethodId} {args : Array Value} {below : List Frame} {meth : Method} {c : Code} {dC : Nat → ClassId} {dI : Nat → Nat → Nat} {a : Nat → Nat} {ca : Nat → ClassId} {tb : Nat → Nat} {w0 : Cond} (S : CallFix p m c cX1_markBars 7 s args (w0 :: tWALL) RX1) (hr : meth.sig.returnType = none) (hlk : meth.locks = false) (E : tEnv 47 dC dI a ca tb s) (post : tSt → Prop) (k28 : Int32 → Int32 → Int32 → Int32 → tSt → Prop) (hk28 : ∀ (x2 : Int32) (x3 : Int32) (x4 : Int32) (x5 : Int32) (st : tSt), k28 x2 x3 x4 x5 st → tAt p l e rmX1_markBars s m args below meth c (dC, dI) (cwC a ca) (tA 47 a s.heap.size) (tQv (cwC a ca) 47 dC dI a args below s post) 7 28 [(0, .ref (a 40)), (1, .ref (a 13)), (2, .int x2), (3, .int x3), (4, .int x4), (5, .int x5)] [] st) : ∀ (x2 : Int32) (x3 : Int32) (x4 : Int32) (x5 : Int32) (st : tSt), wp_Cast_markBars_112 post k28 x2 x3 x4 x5 st → tAt p l e rmX1_markBars s m args below meth c (dC, dI) (cwC a ca) (tA 47 a s.heap.size) (tQv (cwC a ca) 47 dC dI a args below s post) 7 112 [(0, .ref (a 40)), (1, .ref (a 13)), (2, .int x2), (3, .int x3), (4, .int x4), (5, .int x5)] [] st := by
  intro x2 x3 x4 x5 st h H locs ls hP hS hl
  obtain ⟨y5_1, e1⟩ : ∃ y : Int32, y = x5 + 1 := ⟨_, rfl⟩
  have h := h y5_1 e1
  refine lv_iinc (pc := 112) S.1 S.2.1 (v := y5_1) (lv' := [(5, .int y5_1), (0, .ref (a 40)), (1, .ref (a 13)), (2, .int x2), (3, .int x3), (4, .int x4)]) dX1_markBars_112 hl (k := 5) rfl (by rw [e1]; rfl) (by decide) rfl (fun ls hl => ?_)
  refine lv_goto (pc := 115) S.1 S.2.1 (tgt := 28) dX1_markBars_115 (by decide) ?_
  exact hk28 x2 x3 x4 y5_1 st h _ _ _ hP hS (lv_sub hl [1, 2, 3, 4, 5, 0] rfl)
set_option maxHeartbeats 4000000 in
set_option maxRecDepth 100000 in
theorem wk_X1_markBars_28 {p : Program} {l : Launch} {e : Env} {s : State} {m : MethodId} {args : Array Value} {below : List Frame} {meth : Method} {c : Code} {dC : Nat → ClassId} {dI : Nat → Nat → Nat} {a : Nat → Nat} {ca : Nat → ClassId} {tb : Nat → Nat} {w0 : Cond} (S : CallFix p m c cX1_markBars 7 s args (w0 :: tWALL) RX1) (hr : meth.sig.returnType = none) (hlk : meth.locks = false) (E : tEnv 47 dC dI a ca tb s) (post : tSt → Prop) : ∀ (n : Nat) (x2 : Int32) (x3 : Int32) (x4 : Int32) (x5 : Int32) (st : tSt), wp_Cast_markBars_28 post n x2 x3 x4 x5 st → tAt p l e rmX1_markBars s m args below meth c (dC, dI) (cwC a ca) (tA 47 a s.heap.size) (tQv (cwC a ca) 47 dC dI a args below s post) 7 28 [(0, .ref (a 40)), (1, .ref (a 13)), (2, .int x2), (3, .int x3), (4, .int x4), (5, .int x5)] [] st := by
  intro n
  induction n with
  | zero => intro x2 x3 x4 x5 st h; exact absurd h id
  | succ n ih =>
    intro x2 x3 x4 x5 st h H locs ls hP hS hl
    refine lv_iload (pc := 28) S.1 S.2.1 dX1_markBars_28 (lv_at hl 5 rfl) ?_
    refine lv_iload (pc := 30) S.1 S.2.1 dX1_markBars_30 (lv_at hl 4 rfl) ?_
    refine lv_icmp_ge (pc := 32) (tgt := 118) S.1 S.2.1 dX1_markBars_32 (by decide) (fun c1 => ?_) (fun c1 => ?_)
    · have h := h.1 c1
      exact tRv S hr hlk hP hS h dX1_markBars_118
    · have h := h.2 c1
      refine lv_aload_n (pc := 35) S.1 S.2.1 dX1_markBars_35 rfl (lv_at hl 0 rfl) ?_
      refine tp_get (pc := 36) S E.1 hP iwX1 40 (cC_cast a ca st) rfl 2 (by decide) kw_92 (v := .ref (a 45)) rfl dX1_markBars_36 ?_
      refine lv_iload (pc := 39) S.1 S.2.1 dX1_markBars_39 (lv_at hl 5 rfl) ?_
      obtain ⟨hn2, h⟩ := h
      refine tp_iald (pc := 41) S E.1 hP 45 0 (cC_callOf a ca st) rfl (j := x5.toNatClampNeg) rfl hn2 dX1_markBars_41 ?_
      refine lv_topi (fun y6_1 e3 => ?_)
      have h := h y6_1 e3
      refine lv_istore (pc := 42) S.1 S.2.1 (lv' := [(6, .int y6_1), (0, .ref (a 40)), (1, .ref (a 13)), (2, .int x2), (3, .int x3), (4, .int x4), (5, .int x5)]) dX1_markBars_42 hl (by decide) rfl (fun ls hl => ?_)
      refine lv_aload_n (pc := 44) S.1 S.2.1 dX1_markBars_44 rfl (lv_at hl 1 rfl) ?_
      refine tp_get (pc := 45) S E.1 hP iwX1 40 (cC_cast a ca st) rfl 1 (by decide) kw_100 (v := .ref (a 44)) rfl dX1_markBars_45 ?_
      refine lv_iload (pc := 48) S.1 S.2.1 dX1_markBars_48 (lv_at hl 6 rfl) ?_
      refine lv_dup2_11 (pc := 50) S.1 S.2.1 dX1_markBars_50 rfl rfl ?_
      obtain ⟨hn4, h⟩ := h
      refine tp_iald (pc := 51) S E.1 hP 44 0 (cC_bars a ca st) rfl (j := x5.toNatClampNeg) rfl hn4 dX1_markBars_51 ?_
      refine lv_iconst (pc := 52) S.1 S.2.1 (v := 1) dX1_markBars_52 (by decide) ?_
      refine lv_iload (pc := 53) S.1 S.2.1 dX1_markBars_53 (lv_at hl 5 rfl) ?_
      refine lv_ishl (pc := 55) S.1 S.2.1 dX1_markBars_55 ?_
      refine lv_iconst (pc := 56) S.1 S.2.1 (v := (-1)) dX1_markBars_56 (by decide) ?_
      refine lv_ixor (pc := 57) S.1 S.2.1 dX1_markBars_57 ?_
      refine lv_iand (pc := 58) S.1 S.2.1 dX1_markBars_58 ?_
      obtain ⟨hn5, h⟩ := h
      refine tp_iast (pc := 59) S E.1 hP (cC_D E st) hS 44 0 (cC_bars a ca st) rfl (j := x5.toNatClampNeg) rfl hn5 (sC_bars a ca st _ _) dX1_markBars_59 (fun st2 H locs e6 hP hS => ?_)
      have h := h st2 e6
      refine lv_iload (pc := 60) S.1 S.2.1 dX1_markBars_60 (lv_at hl 0 rfl) ?_
      refine lv_iconst (pc := 62) S.1 S.2.1 (v := 0) dX1_markBars_62 (by decide) ?_
      refine lv_iconst (pc := 63) S.1 S.2.1 (v := 5) dX1_markBars_63 (by decide) ?_
      refine tGi hS (tRunSN (pc := 64) (As := [.int y6_1, .int (0 : Int32), .int (5 : Int32)]) (rest := []) S E hP hS (mt_X7_within l dC dI a ca tb _ y6_1 (0 : Int32) (5 : Int32) st2 _ h) (cw_X7_within ⟨Nat.le_of_ble_eq_true rfl, Nat.le_of_ble_eq_true rfl⟩) kw_101 kw_8 rfl hl.1 rfl (Nat.le_of_ble_eq_true rfl) dX1_markBars_64) (fun r4 st3 H locs h hP hS => ?_)
      refine lv_if_eq (pc := 67) (tgt := 112) S.1 S.2.1 dX1_markBars_67 (by decide) (fun c7 => ?_) (fun c7 => ?_)
      · have h := h.1 c7
        exact (fun x2 x3 x4 x5 st h => wk_X1_markBars_112 S hr hlk E post (wp_Cast_markBars_28 post n) ih x2 x3 x4 x5 st h) x2 x3 x4 x5 st3 h _ _ _ hP hS (lv_sub hl [1, 2, 3, 4, 5, 6] rfl)
      · have h := h.2 c7
        refine lv_aload_n (pc := 70) S.1 S.2.1 dX1_markBars_70 rfl (lv_at hl 2 rfl) ?_
        refine lv_iload_n (pc := 71) S.1 S.2.1 dX1_markBars_71 rfl (lv_at hl 3 rfl) ?_
        obtain ⟨hn8, h⟩ := h
        refine tp_aald (pc := 72) S E.1 hP 13 2 (cC_callsA a ca st3) rfl (j := x2.toNatClampNeg) (d := a (14 + x2.toNatClampNeg)) rfl rfl hn8 dX1_markBars_72 ?_
        have hj9 := t_lt hn8
        refine lv_aload_n (pc := 73) S.1 S.2.1 dX1_markBars_73 rfl (lv_at hl 2 rfl) ?_
        refine lv_iload (pc := 74) S.1 S.2.1 dX1_markBars_74 (lv_at hl 0 rfl) ?_
        obtain ⟨hn10, h⟩ := h
        refine tp_aald (pc := 76) S E.1 hP 13 2 (cC_callsA a ca st3) rfl (j := y6_1.toNatClampNeg) (d := a (14 + y6_1.toNatClampNeg)) rfl rfl hn10 dX1_markBars_76 ?_
        have hj11 := t_lt hn10
        refine lv_iload_n (pc := 77) S.1 S.2.1 dX1_markBars_77 rfl (lv_at hl 4 rfl) ?_
        refine tGi hS (tRunV (pc := 78) (As := [.ref (a (14 + y6_1.toNatClampNeg)), .int x3]) (rest := []) S E hP hS (mt_X0_clashesWith l dC dI a ca tb _ hj9 hj11 x3 st3 _ h) (cw_X0_clashesWith ⟨Nat.le_of_ble_eq_true rfl, Nat.le_of_ble_eq_true rfl⟩) kw_102 kw_103 kw_104 (14 + x2.toNatClampNeg) 0 rfl rfl (cC_call a ca st3 hj9) rfl hl.1 rfl (Nat.le_of_ble_eq_true rfl) dX1_markBars_78) (fun r6 st5 H locs h hP hS => ?_)
        refine lv_if_eq (pc := 81) (tgt := 112) S.1 S.2.1 dX1_markBars_81 (by decide) (fun c12 => ?_) (fun c12 => ?_)
        · have h := h.1 c12
          exact (fun x2 x3 x4 x5 st h => wk_X1_markBars_112 S hr hlk E post (wp_Cast_markBars_28 post n) ih x2 x3 x4 x5 st h) x2 x3 x4 x5 st5 h _ _ _ hP hS (lv_sub hl [1, 2, 3, 4, 5, 6] rfl)
        · have h := h.2 c12
          refine lv_aload_n (pc := 84) S.1 S.2.1 dX1_markBars_84 rfl (lv_at hl 1 rfl) ?_
          refine tp_get (pc := 85) S E.1 hP iwX1 40 (cC_cast a ca st5) rfl 1 (by decide) kw_100 (v := .ref (a 44)) rfl dX1_markBars_85 ?_
          refine lv_iload (pc := 88) S.1 S.2.1 dX1_markBars_88 (lv_at hl 6 rfl) ?_
          refine lv_dup2_11 (pc := 90) S.1 S.2.1 dX1_markBars_90 rfl rfl ?_
          obtain ⟨hn13, h⟩ := h
          refine tp_iald (pc := 91) S E.1 hP 44 0 (cC_bars a ca st5) rfl (j := x5.toNatClampNeg) rfl hn13 dX1_markBars_91 ?_
          refine lv_iconst (pc := 92) S.1 S.2.1 (v := 1) dX1_markBars_92 (by decide) ?_
          refine lv_iload (pc := 93) S.1 S.2.1 dX1_markBars_93 (lv_at hl 5 rfl) ?_
          refine lv_ishl (pc := 95) S.1 S.2.1 dX1_markBars_95 ?_
          refine lv_ior (pc := 96) S.1 S.2.1 dX1_markBars_96 ?_
          obtain ⟨hn14, h⟩ := h
          refine tp_iast (pc := 97) S E.1 hP (cC_D E st5) hS 44 0 (cC_bars a ca st5) rfl (j := x5.toNatClampNeg) rfl hn14 (sC_bars a ca st5 _ _) dX1_markBars_97 (fun st7 H locs e15 hP hS => ?_)
          have h := h st7 e15
          refine lv_aload_n (pc := 98) S.1 S.2.1 dX1_markBars_98 rfl (lv_at hl 1 rfl) ?_
          refine tp_get (pc := 99) S E.1 hP iwX1 40 (cC_cast a ca st7) rfl 1 (by decide) kw_100 (v := .ref (a 44)) rfl dX1_markBars_99 ?_
          refine lv_iload (pc := 102) S.1 S.2.1 dX1_markBars_102 (lv_at hl 5 rfl) ?_
          refine lv_dup2_11 (pc := 104) S.1 S.2.1 dX1_markBars_104 rfl rfl ?_
          obtain ⟨hn16, h⟩ := h
          refine tp_iald (pc := 105) S E.1 hP 44 0 (cC_bars a ca st7) rfl (j := x4.toNatClampNeg) rfl hn16 dX1_markBars_105 ?_
          refine lv_iconst (pc := 106) S.1 S.2.1 (v := 1) dX1_markBars_106 (by decide) ?_
          refine lv_iload (pc := 107) S.1 S.2.1 dX1_markBars_107 (lv_at hl 6 rfl) ?_
          refine lv_ishl (pc := 109) S.1 S.2.1 dX1_markBars_109 ?_
          refine lv_ior (pc := 110) S.1 S.2.1 dX1_markBars_110 ?_
          obtain ⟨hn17, h⟩ := h
          refine tp_iast (pc := 111) S E.1 hP (cC_D E st7) hS 44 0 (cC_bars a ca st7) rfl (j := x4.toNatClampNeg) rfl hn17 (sC_bars a ca st7 _ _) dX1_markBars_111 (fun st8 H locs e18 hP hS => ?_)
          have h := h st8 e18
          exact (fun x2 x3 x4 x5 st h => wk_X1_markBars_112 S hr hlk E post (wp_Cast_markBars_28 post n) ih x2 x3 x4 x5 st h) x2 x3 x4 x5 st8 h _ _ _ hP hS (lv_sub hl [1, 2, 3, 4, 5, 6] rfl)
set_option maxHeartbeats 4000000 in
set_option maxRecDepth 100000 in
theorem mt_X1_markBars (l : Launch) (dC : Nat → ClassId) (dI : Nat → Nat → Nat) (a : Nat → Nat) (ca : Nat → ClassId) (tb : Nat → Nat) (sz : Nat) (x2 : Int32) (x3 : Int32) (st : tSt) (post : tSt → Prop) (h : wp_Cast_markBars x2 x3 st post) : Met l yX1_markBars (.code yX1_markBars cX1_markBars 7 none :: tWALL) rmX1_markBars (va_Pc [.ref (a 40), .ref (a 13), .int x2, .int x3] (tPre 47 (cwC a ca) dC dI a ca tb sz st)) (va_Qv post (tB (cwC a ca) dC dI) (tA 47 a sz)) 0 0 (tA 47 a sz) := by
  refine tp_met (by decide) (Nat.le_of_ble_eq_true rfl) ?_
  intro p e s m below meth c ls S hr hlk hsz E hP hl
  subst hsz
  have S : CallFix p m c cX1_markBars 7 s _ (.code yX1_markBars cX1_markBars 7 none :: tWALL) RX1 := S
  have hl : lv_has ls 7 [(0, .ref (a 40)), (1, .ref (a 13)), (2, .int x2), (3, .int x3)] := hl
  have hS : va_S (tA 47 a s.heap.size) s.heap s.heap [] := va_S.rf
  show W p l e _ s m _ below meth c s.heap [] 0 0 (tQv (cwC a ca) 47 dC dI a ([.ref (a 40), .ref (a 13), .int x2, .int x3] : List Value).toArray below s post) (F0 m 0 ls [])
  refine lv_aload_n (pc := 0) S.1 S.2.1 dX1_markBars_0 rfl (lv_at hl 0 rfl) ?_
  refine tp_get (pc := 1) S E.1 hP iwX1 40 (cC_cast a ca st) rfl 4 (by decide) kw_86 (v := .int (st 27 0)) rfl dX1_markBars_1 ?_
  refine lv_topi (fun y4_1 e1 => ?_)
  have h := h y4_1 e1
  refine lv_istore (pc := 4) S.1 S.2.1 (lv' := [(4, .int y4_1), (0, .ref (a 40)), (1, .ref (a 13)), (2, .int x2), (3, .int x3)]) dX1_markBars_4 hl (by decide) rfl (fun ls hl => ?_)
  refine lv_aload_n (pc := 6) S.1 S.2.1 dX1_markBars_6 rfl (lv_at hl 1 rfl) ?_
  refine tp_get (pc := 7) S E.1 hP iwX1 40 (cC_cast a ca st) rfl 2 (by decide) kw_92 (v := .ref (a 45)) rfl dX1_markBars_7 ?_
  refine lv_iload (pc := 10) S.1 S.2.1 dX1_markBars_10 (lv_at hl 0 rfl) ?_
  refine lv_iload_n (pc := 12) S.1 S.2.1 dX1_markBars_12 rfl (lv_at hl 3 rfl) ?_
  obtain ⟨hn2, h⟩ := h
  refine tp_iast (pc := 13) S E.1 hP (cC_D E st) hS 45 0 (cC_callOf a ca st) rfl (j := y4_1.toNatClampNeg) rfl hn2 (sC_callOf a ca st _ _) dX1_markBars_13 (fun st2 H locs e3 hP hS => ?_)
  have h := h st2 e3
  refine lv_aload_n (pc := 14) S.1 S.2.1 dX1_markBars_14 rfl (lv_at hl 1 rfl) ?_
  refine tp_get (pc := 15) S E.1 hP iwX1 40 (cC_cast a ca st2) rfl 1 (by decide) kw_100 (v := .ref (a 44)) rfl dX1_markBars_15 ?_
  refine lv_iload (pc := 18) S.1 S.2.1 dX1_markBars_18 (lv_at hl 0 rfl) ?_
  refine lv_iconst (pc := 20) S.1 S.2.1 (v := 1) dX1_markBars_20 (by decide) ?_
  refine lv_iload (pc := 21) S.1 S.2.1 dX1_markBars_21 (lv_at hl 0 rfl) ?_
  refine lv_ishl (pc := 23) S.1 S.2.1 dX1_markBars_23 ?_
  obtain ⟨hn4, h⟩ := h
  refine tp_iast (pc := 24) S E.1 hP (cC_D E st2) hS 44 0 (cC_bars a ca st2) rfl (j := y4_1.toNatClampNeg) rfl hn4 (sC_bars a ca st2 _ _) dX1_markBars_24 (fun st3 H locs e5 hP hS => ?_)
  have h := h st3 e5
  refine lv_iconst (pc := 25) S.1 S.2.1 (v := 0) dX1_markBars_25 (by decide) ?_
  refine lv_istore (pc := 26) S.1 S.2.1 (lv' := [(5, .int (0 : Int32)), (4, .int y4_1), (0, .ref (a 40)), (1, .ref (a 13)), (2, .int x2), (3, .int x3)]) dX1_markBars_26 hl (by decide) rfl (fun ls hl => ?_)
  exact (fun x2 x3 x4 x5 st h => Exists.elim h (fun q h => wk_X1_markBars_28 S hr hlk E post  q x2 x3 x4 x5 st h)) x2 x3 y4_1 (0 : Int32) st3 h _ _ _ hP hS (lv_sub hl [2, 3, 4, 5, 1, 0] rfl)

abbrev rmX1_allParts : Room := { frames := 0, cells := 0, slots := 0, locals := 0 }
theorem cw_X1_allParts {R : Room} {own : String} {index : Nat} (h : rmX1_allParts.frames + 1 ≤ R.frames ∧ 8 + (1 + 11) + rmX1_allParts.locals ≤ R.locals) : tCw R own index yX1_allParts cX1_allParts 1 (some .int) rmX1_allParts 0 := ⟨kw_106, kw_90, ⟨rfl, rfl, h.1, h.2⟩, by decide +kernel, by decide +kernel, by decide +kernel⟩

set_option maxHeartbeats 4000000 in
set_option maxRecDepth 100000 in
theorem mt_X1_allParts (l : Launch) (dC : Nat → ClassId) (dI : Nat → Nat → Nat) (a : Nat → Nat) (ca : Nat → ClassId) (tb : Nat → Nat) (sz : Nat) (st : tSt) (post : Int32 → tSt → Prop) (h : wp_Cast_allParts  st post) : Met l yX1_allParts (.code yX1_allParts cX1_allParts 1 (some .int) :: tWALL) rmX1_allParts (va_Pc [.ref (a 40)] (tPre 47 (cwC a ca) dC dI a ca tb sz st)) (va_Qi post (tB (cwC a ca) dC dI) (tA 47 a sz)) 0 0 (tA 47 a sz) := by
  refine tp_met (by decide) (Nat.le_of_ble_eq_true rfl) ?_
  intro p e s m below meth c ls S hr hlk hsz E hP hl
  subst hsz
  have S : CallFix p m c cX1_allParts 1 s _ (.code yX1_allParts cX1_allParts 1 (some .int) :: tWALL) RX1 := S
  have hl : lv_has ls 1 [(0, .ref (a 40))] := hl
  have hS : va_S (tA 47 a s.heap.size) s.heap s.heap [] := va_S.rf
  show W p l e _ s m _ below meth c s.heap [] 0 0 (tQi (cwC a ca) 47 dC dI a ([.ref (a 40)] : List Value).toArray below s post) (F0 m 0 ls [])
  refine lv_iconst (pc := 0) S.1 S.2.1 (v := 1) dX1_allParts_0 (by decide) ?_
  refine lv_aload_n (pc := 1) S.1 S.2.1 dX1_allParts_1 rfl (lv_at hl 0 rfl) ?_
  refine tp_get (pc := 2) S E.1 hP iwX1 40 (cC_cast a ca st) rfl 4 (by decide) kw_86 (v := .int (st 27 0)) rfl dX1_allParts_2 ?_
  refine lv_ishl (pc := 5) S.1 S.2.1 dX1_allParts_5 ?_
  refine lv_iconst (pc := 6) S.1 S.2.1 (v := 1) dX1_allParts_6 (by decide) ?_
  refine lv_isub (pc := 7) S.1 S.2.1 dX1_allParts_7 ?_
  exact tRi S hr hlk hP hS h dX1_allParts_8

abbrev rmX1_tiedTo : Room := { frames := 1, cells := 0, slots := 0, locals := 21 }
theorem cw_X1_tiedTo {R : Room} {own : String} {index : Nat} (h : rmX1_tiedTo.frames + 1 ≤ R.frames ∧ 8 + (7 + 11) + rmX1_tiedTo.locals ≤ R.locals) : tCw R own index yX1_tiedTo cX1_tiedTo 7 (some .int) rmX1_tiedTo 2 := ⟨kw_108, kw_90, ⟨rfl, rfl, h.1, h.2⟩, by decide +kernel, by decide +kernel, by decide +kernel⟩
set_option maxHeartbeats 4000000 in
set_option maxRecDepth 100000 in
theorem wk_X1_tiedTo_59 {p : Program} {l : Launch} {e : Env} {s : State} {m : MethodId} {args : Array Value} {below : List Frame} {meth : Method} {c : Code} {dC : Nat → ClassId} {dI : Nat → Nat → Nat} {a : Nat → Nat} {ca : Nat → ClassId} {tb : Nat → Nat} {w0 : Cond} (S : CallFix p m c cX1_tiedTo 7 s args (w0 :: tWALL) RX1) (hr : meth.sig.returnType = (some .int)) (hlk : meth.locks = false) (E : tEnv 47 dC dI a ca tb s) (post : Int32 → tSt → Prop) (k29 : Int32 → Int32 → Int32 → Int32 → Int32 → tSt → Prop) (hk29 : ∀ (x2 : Int32) (x3 : Int32) (x4 : Int32) (x5 : Int32) (x6 : Int32) (st : tSt), k29 x2 x3 x4 x5 x6 st → tAt p l e rmX1_tiedTo s m args below meth c (dC, dI) (cwC a ca) (tA 47 a s.heap.size) (tQi (cwC a ca) 47 dC dI a args below s post) 7 29 [(0, .ref (a 40)), (2, .int x2), (3, .int x3), (4, .int x4), (5, .int x5), (6, .int x6)] [] st) (k65 : Int32 → Int32 → Int32 → Int32 → tSt → Prop) (hk65 : ∀ (x2 : Int32) (x3 : Int32) (x4 : Int32) (x5 : Int32) (st : tSt), k65 x2 x3 x4 x5 st → tAt p l e rmX1_tiedTo s m args below meth c (dC, dI) (cwC a ca) (tA 47 a s.heap.size) (tQi (cwC a ca) 47 dC dI a args below s post) 7 65 [(0, .ref (a 40)), (2, .int x2), (3, .int x3), (4, .int x4), (5, .int x5)] [] st) : ∀ (x2 : Int32) (x3 : Int32) (x4 : Int32) (x5 : Int32) (x6 : Int32) (st : tSt), wp_Cast_tiedTo_59 post k29 k65 x2 x3 x4 x5 x6 st → tAt p l e rmX1_tiedTo s m args below meth c (dC, dI) (cwC a ca) (tA 47 a s.heap.size) (tQi (cwC a ca) 47 dC dI a args below s post) 7 59 [(0, .ref (a 40)), (2, .int x2), (3, .int x3), (4, .int x4), (5, .int x5), (6, .int x6)] [] st := by
  intro x2 x3 x4 x5 x6 st h H locs ls hP hS hl
  obtain ⟨y6_1, e1⟩ : ∃ y : Int32, y = x6 + 1 := ⟨_, rfl⟩
  have h := h y6_1 e1
  refine lv_iinc (pc := 59) S.1 S.2.1 (v := y6_1) (lv' := [(6, .int y6_1), (0, .ref (a 40)), (2, .int x2), (3, .int x3), (4, .int x4), (5, .int x5)]) dX1_tiedTo_59 hl (k := 5) rfl (by rw [e1]; rfl) (by decide) rfl (fun ls hl => ?_)
  refine lv_goto (pc := 62) S.1 S.2.1 (tgt := 29) dX1_tiedTo_62 (by decide) ?_
  exact hk29 x2 x3 x4 x5 y6_1 st h _ _ _ hP hS (lv_sub hl [1, 2, 3, 4, 5, 0] rfl)
set_option maxHeartbeats 4000000 in
set_option maxRecDepth 100000 in
theorem wk_X1_tiedTo_65 {p : Program} {l : Launch} {e : Env} {s : State} {m : MethodId} {args : Array Value} {below : List Frame} {meth : Method} {c : Code} {dC : Nat → ClassId} {dI : Nat → Nat → Nat} {a : Nat → Nat} {ca : Nat → ClassId} {tb : Nat → Nat} {w0 : Cond} (S : CallFix p m c cX1_tiedTo 7 s args (w0 :: tWALL) RX1) (hr : meth.sig.returnType = (some .int)) (hlk : meth.locks = false) (E : tEnv 47 dC dI a ca tb s) (post : Int32 → tSt → Prop) (k10 : Int32 → Int32 → Int32 → Int32 → tSt → Prop) (hk10 : ∀ (x2 : Int32) (x3 : Int32) (x4 : Int32) (x5 : Int32) (st : tSt), k10 x2 x3 x4 x5 st → tAt p l e rmX1_tiedTo s m args below meth c (dC, dI) (cwC a ca) (tA 47 a s.heap.size) (tQi (cwC a ca) 47 dC dI a args below s post) 7 10 [(0, .ref (a 40)), (2, .int x2), (3, .int x3), (4, .int x4), (5, .int x5)] [] st) : ∀ (x2 : Int32) (x3 : Int32) (x4 : Int32) (x5 : Int32) (st : tSt), wp_Cast_tiedTo_65 post k10 x2 x3 x4 x5 st → tAt p l e rmX1_tiedTo s m args below meth c (dC, dI) (cwC a ca) (tA 47 a s.heap.size) (tQi (cwC a ca) 47 dC dI a args below s post) 7 65 [(0, .ref (a 40)), (2, .int x2), (3, .int x3), (4, .int x4), (5, .int x5)] [] st := by
  intro x2 x3 x4 x5 st h H locs ls hP hS hl
  obtain ⟨y5_1, e1⟩ : ∃ y : Int32, y = x5 + 1 := ⟨_, rfl⟩
  have h := h y5_1 e1
  refine lv_iinc (pc := 65) S.1 S.2.1 (v := y5_1) (lv' := [(5, .int y5_1), (0, .ref (a 40)), (2, .int x2), (3, .int x3), (4, .int x4)]) dX1_tiedTo_65 hl (k := 4) rfl (by rw [e1]; rfl) (by decide) rfl (fun ls hl => ?_)
  refine lv_goto (pc := 68) S.1 S.2.1 (tgt := 10) dX1_tiedTo_68 (by decide) ?_
  exact hk10 x2 x3 x4 y5_1 st h _ _ _ hP hS (lv_sub hl [1, 2, 3, 4, 0] rfl)
set_option maxHeartbeats 4000000 in
set_option maxRecDepth 100000 in
theorem wk_X1_tiedTo_29 {p : Program} {l : Launch} {e : Env} {s : State} {m : MethodId} {args : Array Value} {below : List Frame} {meth : Method} {c : Code} {dC : Nat → ClassId} {dI : Nat → Nat → Nat} {a : Nat → Nat} {ca : Nat → ClassId} {tb : Nat → Nat} {w0 : Cond} (S : CallFix p m c cX1_tiedTo 7 s args (w0 :: tWALL) RX1) (hr : meth.sig.returnType = (some .int)) (hlk : meth.locks = false) (E : tEnv 47 dC dI a ca tb s) (post : Int32 → tSt → Prop) (k65 : Int32 → Int32 → Int32 → Int32 → tSt → Prop) (hk65 : ∀ (x2 : Int32) (x3 : Int32) (x4 : Int32) (x5 : Int32) (st : tSt), k65 x2 x3 x4 x5 st → tAt p l e rmX1_tiedTo s m args below meth c (dC, dI) (cwC a ca) (tA 47 a s.heap.size) (tQi (cwC a ca) 47 dC dI a args below s post) 7 65 [(0, .ref (a 40)), (2, .int x2), (3, .int x3), (4, .int x4), (5, .int x5)] [] st) : ∀ (n : Nat) (x2 : Int32) (x3 : Int32) (x4 : Int32) (x5 : Int32) (x6 : Int32) (st : tSt), wp_Cast_tiedTo_29 post k65 n x2 x3 x4 x5 x6 st → tAt p l e rmX1_tiedTo s m args below meth c (dC, dI) (cwC a ca) (tA 47 a s.heap.size) (tQi (cwC a ca) 47 dC dI a args below s post) 7 29 [(0, .ref (a 40)), (2, .int x2), (3, .int x3), (4, .int x4), (5, .int x5), (6, .int x6)] [] st := by
  intro n
  induction n with
  | zero => intro x2 x3 x4 x5 x6 st h; exact absurd h id
  | succ n ih =>
    intro x2 x3 x4 x5 x6 st h H locs ls hP hS hl
    refine lv_iload (pc := 29) S.1 S.2.1 dX1_tiedTo_29 (lv_at hl 5 rfl) ?_
    refine lv_aload_n (pc := 31) S.1 S.2.1 dX1_tiedTo_31 rfl (lv_at hl 0 rfl) ?_
    refine tp_get (pc := 32) S E.1 hP iwX1 40 (cC_cast a ca st) rfl 4 (by decide) kw_86 (v := .int (st 27 0)) rfl dX1_tiedTo_32 ?_
    refine lv_icmp_ge (pc := 35) (tgt := 65) S.1 S.2.1 dX1_tiedTo_35 (by decide) (fun c1 => ?_) (fun c1 => ?_)
    · have h := h.1 c1
      exact hk65 x2 x3 x4 x5 st h _ _ _ hP hS (lv_sub hl [0, 1, 2, 3, 4] rfl)
    · have h := h.2 c1
      refine lv_iload_n (pc := 38) S.1 S.2.1 dX1_tiedTo_38 rfl (lv_at hl 2 rfl) ?_
      refine lv_iload (pc := 39) S.1 S.2.1 dX1_tiedTo_39 (lv_at hl 5 rfl) ?_
      refine tGi hS (tRunSN (pc := 41) (As := [.int x3, .int x6]) (rest := []) S E hP hS (mt_X7_hasBit l dC dI a ca tb _ x3 x6 st _ h) (cw_X7_hasBit ⟨Nat.le_of_ble_eq_true rfl, Nat.le_of_ble_eq_true rfl⟩) kw_107 kw_49 rfl hl.1 rfl (Nat.le_of_ble_eq_true rfl) dX1_tiedTo_41) (fun r2 st1 H locs h hP hS => ?_)
      refine lv_if_eq (pc := 44) (tgt := 59) S.1 S.2.1 dX1_tiedTo_44 (by decide) (fun c2 => ?_) (fun c2 => ?_)
      · have h := h.1 c2
        exact (fun x2 x3 x4 x5 x6 st h => wk_X1_tiedTo_59 S hr hlk E post (wp_Cast_tiedTo_29 post k65 n) ih k65 hk65 x2 x3 x4 x5 x6 st h) x2 x3 x4 x5 x6 st1 h _ _ _ hP hS (lv_sub hl [0, 1, 2, 3, 4, 5] rfl)
      · have h := h.2 c2
        refine lv_iload_n (pc := 47) S.1 S.2.1 dX1_tiedTo_47 rfl (lv_at hl 2 rfl) ?_
        refine lv_aload_n (pc := 48) S.1 S.2.1 dX1_tiedTo_48 rfl (lv_at hl 0 rfl) ?_
        refine tp_get (pc := 49) S E.1 hP iwX1 40 (cC_cast a ca st1) rfl 1 (by decide) kw_100 (v := .ref (a 44)) rfl dX1_tiedTo_49 ?_
        refine lv_iload (pc := 52) S.1 S.2.1 dX1_tiedTo_52 (lv_at hl 5 rfl) ?_
        obtain ⟨hn3, h⟩ := h
        refine tp_iald (pc := 54) S E.1 hP 44 0 (cC_bars a ca st1) rfl (j := x6.toNatClampNeg) rfl hn3 dX1_tiedTo_54 ?_
        refine lv_iload_n (pc := 55) S.1 S.2.1 dX1_tiedTo_55 rfl (lv_at hl 1 rfl) ?_
        refine lv_iand (pc := 56) S.1 S.2.1 dX1_tiedTo_56 ?_
        refine lv_ior (pc := 57) S.1 S.2.1 dX1_tiedTo_57 ?_
        refine lv_topi (fun y3_3 e4 => ?_)
        have h := h y3_3 e4
        refine lv_istore_n (pc := 58) S.1 S.2.1 (lv' := [(3, .int y3_3), (0, .ref (a 40)), (2, .int x2), (4, .int x4), (5, .int x5), (6, .int x6)]) dX1_tiedTo_58 rfl hl (by decide) rfl (fun ls hl => ?_)
        exact (fun x2 x3 x4 x5 x6 st h => wk_X1_tiedTo_59 S hr hlk E post (wp_Cast_tiedTo_29 post k65 n) ih k65 hk65 x2 x3 x4 x5 x6 st h) x2 y3_3 x4 x5 x6 st1 h _ _ _ hP hS (lv_sub hl [1, 2, 0, 3, 4, 5] rfl)
set_option maxHeartbeats 4000000 in
set_option maxRecDepth 100000 in
theorem wk_X1_tiedTo_10 {p : Program} {l : Launch} {e : Env} {s : State} {m : MethodId} {args : Array Value} {below : List Frame} {meth : Method} {c : Code} {dC : Nat → ClassId} {dI : Nat → Nat → Nat} {a : Nat → Nat} {ca : Nat → ClassId} {tb : Nat → Nat} {w0 : Cond} (S : CallFix p m c cX1_tiedTo 7 s args (w0 :: tWALL) RX1) (hr : meth.sig.returnType = (some .int)) (hlk : meth.locks = false) (E : tEnv 47 dC dI a ca tb s) (post : Int32 → tSt → Prop) : ∀ (n : Nat) (x2 : Int32) (x3 : Int32) (x4 : Int32) (x5 : Int32) (st : tSt), wp_Cast_tiedTo_10 post n x2 x3 x4 x5 st → tAt p l e rmX1_tiedTo s m args below meth c (dC, dI) (cwC a ca) (tA 47 a s.heap.size) (tQi (cwC a ca) 47 dC dI a args below s post) 7 10 [(0, .ref (a 40)), (2, .int x2), (3, .int x3), (4, .int x4), (5, .int x5)] [] st := by
  intro n
  induction n with
  | zero => intro x2 x3 x4 x5 st h; exact absurd h id
  | succ n ih =>
    intro x2 x3 x4 x5 st h H locs ls hP hS hl
    refine lv_iload (pc := 10) S.1 S.2.1 dX1_tiedTo_10 (lv_at hl 4 rfl) ?_
    refine lv_bipush (pc := 12) S.1 S.2.1 (v := 12) dX1_tiedTo_12 (by decide) ?_
    refine lv_icmp_ge (pc := 14) (tgt := 71) S.1 S.2.1 dX1_tiedTo_14 (by decide) (fun c1 => ?_) (fun c1 => ?_)
    · have h := h.1 c1
      refine lv_iload_n (pc := 71) S.1 S.2.1 dX1_tiedTo_71 rfl (lv_at hl 2 rfl) ?_
      exact tRi S hr hlk hP hS h dX1_tiedTo_72
    · have h := h.2 c1
      refine lv_iload_n (pc := 17) S.1 S.2.1 dX1_tiedTo_17 rfl (lv_at hl 2 rfl) ?_
      refine lv_iload (pc := 18) S.1 S.2.1 dX1_tiedTo_18 (lv_at hl 3 rfl) ?_
      refine lv_icmp_eq (pc := 20) (tgt := 71) S.1 S.2.1 dX1_tiedTo_20 (by decide) (fun c2 => ?_) (fun c2 => ?_)
      · have h := h.1 c2
        refine lv_iload_n (pc := 71) S.1 S.2.1 dX1_tiedTo_71 rfl (lv_at hl 2 rfl) ?_
        exact tRi S hr hlk hP hS h dX1_tiedTo_72
      · have h := h.2 c2
        refine lv_iload_n (pc := 23) S.1 S.2.1 dX1_tiedTo_23 rfl (lv_at hl 2 rfl) ?_
        refine lv_istore (pc := 24) S.1 S.2.1 (lv' := [(4, .int x3), (0, .ref (a 40)), (2, .int x2), (3, .int x3), (5, .int x5)]) dX1_tiedTo_24 hl (by decide) rfl (fun ls hl => ?_)
        refine lv_iconst (pc := 26) S.1 S.2.1 (v := 0) dX1_tiedTo_26 (by decide) ?_
        refine lv_istore (pc := 27) S.1 S.2.1 (lv' := [(6, .int (0 : Int32)), (4, .int x3), (0, .ref (a 40)), (2, .int x2), (3, .int x3), (5, .int x5)]) dX1_tiedTo_27 hl (by decide) rfl (fun ls hl => ?_)
        exact (fun x2 x3 x4 x5 x6 st h => Exists.elim h (fun q h => wk_X1_tiedTo_29 S hr hlk E post (wp_Cast_tiedTo_65 post (wp_Cast_tiedTo_10 post n)) (fun x2 x3 x4 x5 st h => wk_X1_tiedTo_65 S hr hlk E post (wp_Cast_tiedTo_10 post n) ih x2 x3 x4 x5 st h) q x2 x3 x4 x5 x6 st h)) x2 x3 x3 x5 (0 : Int32) st h _ _ _ hP hS (lv_sub hl [2, 3, 4, 1, 5, 0] rfl)
set_option maxHeartbeats 4000000 in
set_option maxRecDepth 100000 in
theorem mt_X1_tiedTo (l : Launch) (dC : Nat → ClassId) (dI : Nat → Nat → Nat) (a : Nat → Nat) (ca : Nat → ClassId) (tb : Nat → Nat) (sz : Nat) (x1 : Int32) (x2 : Int32) (st : tSt) (post : Int32 → tSt → Prop) (h : wp_Cast_tiedTo x1 x2 st post) : Met l yX1_tiedTo (.code yX1_tiedTo cX1_tiedTo 7 (some .int) :: tWALL) rmX1_tiedTo (va_Pc [.ref (a 40), .int x1, .int x2] (tPre 47 (cwC a ca) dC dI a ca tb sz st)) (va_Qi post (tB (cwC a ca) dC dI) (tA 47 a sz)) 0 0 (tA 47 a sz) := by
  refine tp_met (by decide) (Nat.le_of_ble_eq_true rfl) ?_
  intro p e s m below meth c ls S hr hlk hsz E hP hl
  subst hsz
  have S : CallFix p m c cX1_tiedTo 7 s _ (.code yX1_tiedTo cX1_tiedTo 7 (some .int) :: tWALL) RX1 := S
  have hl : lv_has ls 7 [(0, .ref (a 40)), (1, .int x1), (2, .int x2)] := hl
  have hS : va_S (tA 47 a s.heap.size) s.heap s.heap [] := va_S.rf
  show W p l e _ s m _ below meth c s.heap [] 0 0 (tQi (cwC a ca) 47 dC dI a ([.ref (a 40), .int x1, .int x2] : List Value).toArray below s post) (F0 m 0 ls [])
  refine lv_iconst (pc := 0) S.1 S.2.1 (v := 1) dX1_tiedTo_0 (by decide) ?_
  refine lv_iload_n (pc := 1) S.1 S.2.1 dX1_tiedTo_1 rfl (lv_at hl 1 rfl) ?_
  refine lv_ishl (pc := 2) S.1 S.2.1 dX1_tiedTo_2 ?_
  refine lv_topi (fun y3_1 e1 => ?_)
  have h := h y3_1 e1
  refine lv_istore_n (pc := 3) S.1 S.2.1 (lv' := [(3, .int y3_1), (0, .ref (a 40)), (1, .int x1), (2, .int x2)]) dX1_tiedTo_3 rfl hl (by decide) rfl (fun ls hl => ?_)
  refine lv_iconst (pc := 4) S.1 S.2.1 (v := 0) dX1_tiedTo_4 (by decide) ?_
  refine lv_istore (pc := 5) S.1 S.2.1 (lv' := [(4, .int (0 : Int32)), (3, .int y3_1), (0, .ref (a 40)), (1, .int x1), (2, .int x2)]) dX1_tiedTo_5 hl (by decide) rfl (fun ls hl => ?_)
  refine lv_iconst (pc := 7) S.1 S.2.1 (v := 0) dX1_tiedTo_7 (by decide) ?_
  refine lv_istore (pc := 8) S.1 S.2.1 (lv' := [(5, .int (0 : Int32)), (4, .int (0 : Int32)), (3, .int y3_1), (0, .ref (a 40)), (1, .int x1), (2, .int x2)]) dX1_tiedTo_8 hl (by decide) rfl (fun ls hl => ?_)
  exact (fun x2 x3 x4 x5 st h => Exists.elim h (fun q h => wk_X1_tiedTo_10 S hr hlk E post  q x2 x3 x4 x5 st h)) x2 y3_1 (0 : Int32) (0 : Int32) st h _ _ _ hP hS (lv_sub hl [3, 5, 2, 1, 0] rfl)

abbrev rmX1_takersOf : Room := { frames := 0, cells := 0, slots := 0, locals := 0 }
theorem cw_X1_takersOf {R : Room} {own : String} {index : Nat} (h : rmX1_takersOf.frames + 1 ≤ R.frames ∧ 8 + (4 + 11) + rmX1_takersOf.locals ≤ R.locals) : tCw R own index yX1_takersOf cX1_takersOf 4 (some .int) rmX1_takersOf 1 := ⟨kw_109, kw_90, ⟨rfl, rfl, h.1, h.2⟩, by decide +kernel, by decide +kernel, by decide +kernel⟩
set_option maxHeartbeats 4000000 in
set_option maxRecDepth 100000 in
theorem wk_X1_takersOf_4 {p : Program} {l : Launch} {e : Env} {s : State} {m : MethodId} {args : Array Value} {below : List Frame} {meth : Method} {c : Code} {dC : Nat → ClassId} {dI : Nat → Nat → Nat} {a : Nat → Nat} {ca : Nat → ClassId} {tb : Nat → Nat} {w0 : Cond} (S : CallFix p m c cX1_takersOf 4 s args (w0 :: tWALL) RX1) (hr : meth.sig.returnType = (some .int)) (hlk : meth.locks = false) (E : tEnv 47 dC dI a ca tb s) (post : Int32 → tSt → Prop) : ∀ (n : Nat) (x1 : Int32) (x2 : Int32) (x3 : Int32) (st : tSt), wp_Cast_takersOf_4 post n x1 x2 x3 st → tAt p l e rmX1_takersOf s m args below meth c (dC, dI) (cwC a ca) (tA 47 a s.heap.size) (tQi (cwC a ca) 47 dC dI a args below s post) 4 4 [(0, .ref (a 40)), (1, .int x1), (2, .int x2), (3, .int x3)] [] st := by
  intro n
  induction n with
  | zero => intro x1 x2 x3 st h; exact absurd h id
  | succ n ih =>
    intro x1 x2 x3 st h H locs ls hP hS hl
    refine lv_iload_n (pc := 4) S.1 S.2.1 dX1_takersOf_4 rfl (lv_at hl 3 rfl) ?_
    refine lv_bipush (pc := 5) S.1 S.2.1 (v := 6) dX1_takersOf_5 (by decide) ?_
    refine lv_icmp_ge (pc := 7) (tgt := 29) S.1 S.2.1 dX1_takersOf_7 (by decide) (fun c1 => ?_) (fun c1 => ?_)
    · have h := h.1 c1
      refine lv_iload_n (pc := 29) S.1 S.2.1 dX1_takersOf_29 rfl (lv_at hl 2 rfl) ?_
      exact tRi S hr hlk hP hS h dX1_takersOf_30
    · have h := h.2 c1
      refine lv_iload_n (pc := 10) S.1 S.2.1 dX1_takersOf_10 rfl (lv_at hl 2 rfl) ?_
      refine lv_aload_n (pc := 11) S.1 S.2.1 dX1_takersOf_11 rfl (lv_at hl 0 rfl) ?_
      refine tp_get (pc := 12) S E.1 hP iwX1 40 (cC_cast a ca st) rfl 0 (by decide) kw_87 (v := .ref (a 43)) rfl dX1_takersOf_12 ?_
      refine lv_iload_n (pc := 15) S.1 S.2.1 dX1_takersOf_15 rfl (lv_at hl 3 rfl) ?_
      obtain ⟨hn2, h⟩ := h
      refine tp_iald (pc := 16) S E.1 hP 43 0 (cC_openTo a ca st) rfl (j := x3.toNatClampNeg) rfl hn2 dX1_takersOf_16 ?_
      refine lv_iload_n (pc := 17) S.1 S.2.1 dX1_takersOf_17 rfl (lv_at hl 1 rfl) ?_
      refine lv_ishr (pc := 18) S.1 S.2.1 dX1_takersOf_18 ?_
      refine lv_iconst (pc := 19) S.1 S.2.1 (v := 1) dX1_takersOf_19 (by decide) ?_
      refine lv_iand (pc := 20) S.1 S.2.1 dX1_takersOf_20 ?_
      refine lv_iadd (pc := 21) S.1 S.2.1 dX1_takersOf_21 ?_
      refine lv_topi (fun y2_1 e3 => ?_)
      have h := h y2_1 e3
      refine lv_istore_n (pc := 22) S.1 S.2.1 (lv' := [(2, .int y2_1), (0, .ref (a 40)), (1, .int x1), (3, .int x3)]) dX1_takersOf_22 rfl hl (by decide) rfl (fun ls hl => ?_)
      obtain ⟨y3_2, e4⟩ : ∃ y : Int32, y = x3 + 1 := ⟨_, rfl⟩
      have h := h y3_2 e4
      refine lv_iinc (pc := 23) S.1 S.2.1 (v := y3_2) (lv' := [(3, .int y3_2), (2, .int y2_1), (0, .ref (a 40)), (1, .int x1)]) dX1_takersOf_23 hl (k := 3) rfl (by rw [e4]; rfl) (by decide) rfl (fun ls hl => ?_)
      refine lv_goto (pc := 26) S.1 S.2.1 (tgt := 4) dX1_takersOf_26 (by decide) ?_
      exact ih x1 y2_1 y3_2 st h _ _ _ hP hS (lv_sub hl [2, 3, 1, 0] rfl)
set_option maxHeartbeats 4000000 in
set_option maxRecDepth 100000 in
theorem mt_X1_takersOf (l : Launch) (dC : Nat → ClassId) (dI : Nat → Nat → Nat) (a : Nat → Nat) (ca : Nat → ClassId) (tb : Nat → Nat) (sz : Nat) (x1 : Int32) (st : tSt) (post : Int32 → tSt → Prop) (h : wp_Cast_takersOf x1 st post) : Met l yX1_takersOf (.code yX1_takersOf cX1_takersOf 4 (some .int) :: tWALL) rmX1_takersOf (va_Pc [.ref (a 40), .int x1] (tPre 47 (cwC a ca) dC dI a ca tb sz st)) (va_Qi post (tB (cwC a ca) dC dI) (tA 47 a sz)) 0 0 (tA 47 a sz) := by
  refine tp_met (by decide) (Nat.le_of_ble_eq_true rfl) ?_
  intro p e s m below meth c ls S hr hlk hsz E hP hl
  subst hsz
  have S : CallFix p m c cX1_takersOf 4 s _ (.code yX1_takersOf cX1_takersOf 4 (some .int) :: tWALL) RX1 := S
  have hl : lv_has ls 4 [(0, .ref (a 40)), (1, .int x1)] := hl
  have hS : va_S (tA 47 a s.heap.size) s.heap s.heap [] := va_S.rf
  show W p l e _ s m _ below meth c s.heap [] 0 0 (tQi (cwC a ca) 47 dC dI a ([.ref (a 40), .int x1] : List Value).toArray below s post) (F0 m 0 ls [])
  refine lv_iconst (pc := 0) S.1 S.2.1 (v := 0) dX1_takersOf_0 (by decide) ?_
  refine lv_istore_n (pc := 1) S.1 S.2.1 (lv' := [(2, .int (0 : Int32)), (0, .ref (a 40)), (1, .int x1)]) dX1_takersOf_1 rfl hl (by decide) rfl (fun ls hl => ?_)
  refine lv_iconst (pc := 2) S.1 S.2.1 (v := 0) dX1_takersOf_2 (by decide) ?_
  refine lv_istore_n (pc := 3) S.1 S.2.1 (lv' := [(3, .int (0 : Int32)), (2, .int (0 : Int32)), (0, .ref (a 40)), (1, .int x1)]) dX1_takersOf_3 rfl hl (by decide) rfl (fun ls hl => ?_)
  exact (fun x1 x2 x3 st h => Exists.elim h (fun q h => wk_X1_takersOf_4 S hr hlk E post  q x1 x2 x3 st h)) x1 (0 : Int32) (0 : Int32) st h _ _ _ hP hS (lv_sub hl [2, 3, 1, 0] rfl)

abbrev rmJ6_bitCount_0f7a4 : Room := { frames := 0, cells := 0, slots := 0, locals := 0 }
theorem cw_J6_bitCount_0f7a4 {R : Room} {own : String} {index : Nat} (h : rmJ6_bitCount_0f7a4.frames + 1 ≤ R.frames ∧ 8 + (1 + 11) + rmJ6_bitCount_0f7a4.locals ≤ R.locals) : tCw R own index yJ6_bitCount_0f7a4 cJ6_bitCount_0f7a4 1 (some .int) rmJ6_bitCount_0f7a4 1 := ⟨kw_114, kw_113, ⟨rfl, rfl, h.1, h.2⟩, by decide +kernel, by decide +kernel, by decide +kernel⟩

set_option maxHeartbeats 4000000 in
set_option maxRecDepth 100000 in
theorem mt_J6_bitCount_0f7a4 (l : Launch) (dC : Nat → ClassId) (dI : Nat → Nat → Nat) (a : Nat → Nat) (ca : Nat → ClassId) (tb : Nat → Nat) (sz : Nat) (x0 : Int32) (st : tSt) (post : Int32 → tSt → Prop) (h : wp_Integer_bitCount x0 st post) : Met l yJ6_bitCount_0f7a4 (.code yJ6_bitCount_0f7a4 cJ6_bitCount_0f7a4 1 (some .int) :: tWALL) rmJ6_bitCount_0f7a4 (va_Pc [.int x0] (tPre 47 (cwC a ca) dC dI a ca tb sz st)) (va_Qi post (tB (cwC a ca) dC dI) (tA 47 a sz)) 0 0 (tA 47 a sz) := by
  refine tp_met (by decide) (Nat.le_of_ble_eq_true rfl) ?_
  intro p e s m below meth c ls S hr hlk hsz E hP hl
  subst hsz
  have S : CallFix p m c cJ6_bitCount_0f7a4 1 s _ (.code yJ6_bitCount_0f7a4 cJ6_bitCount_0f7a4 1 (some .int) :: tWALL) RJ6 := S
  have hl : lv_has ls 1 [(0, .int x0)] := hl
  have hS : va_S (tA 47 a s.heap.size) s.heap s.heap [] := va_S.rf
  show W p l e _ s m _ below meth c s.heap [] 0 0 (tQi (cwC a ca) 47 dC dI a ([.int x0] : List Value).toArray below s post) (F0 m 0 ls [])
  refine lv_iload_n (pc := 0) S.1 S.2.1 dJ6_bitCount_0f7a4_0 rfl (lv_at hl 0 rfl) ?_
  refine lv_iload_n (pc := 1) S.1 S.2.1 dJ6_bitCount_0f7a4_1 rfl (lv_at hl 0 rfl) ?_
  refine lv_iconst (pc := 2) S.1 S.2.1 (v := 1) dJ6_bitCount_0f7a4_2 (by decide) ?_
  refine lv_iushr (pc := 3) S.1 S.2.1 dJ6_bitCount_0f7a4_3 rfl ?_
  refine lv_ldcw (pc := 4) S.1 S.2.1 S.2.2.2.1 (S.2.2.2.2 _ (List.mem_cons_of_mem _ kw_110)) dJ6_bitCount_0f7a4_4 ?_
  refine lv_iand (pc := 7) S.1 S.2.1 dJ6_bitCount_0f7a4_7 ?_
  refine lv_isub (pc := 8) S.1 S.2.1 dJ6_bitCount_0f7a4_8 ?_
  refine lv_topi (fun y0_1 e1 => ?_)
  have h := h y0_1 e1
  refine lv_istore_n (pc := 9) S.1 S.2.1 (lv' := [(0, .int y0_1)]) dJ6_bitCount_0f7a4_9 rfl hl (by decide) rfl (fun ls hl => ?_)
  refine lv_iload_n (pc := 10) S.1 S.2.1 dJ6_bitCount_0f7a4_10 rfl (lv_at hl 0 rfl) ?_
  refine lv_ldcw (pc := 11) S.1 S.2.1 S.2.2.2.1 (S.2.2.2.2 _ (List.mem_cons_of_mem _ kw_111)) dJ6_bitCount_0f7a4_11 ?_
  refine lv_iand (pc := 14) S.1 S.2.1 dJ6_bitCount_0f7a4_14 ?_
  refine lv_iload_n (pc := 15) S.1 S.2.1 dJ6_bitCount_0f7a4_15 rfl (lv_at hl 0 rfl) ?_
  refine lv_iconst (pc := 16) S.1 S.2.1 (v := 2) dJ6_bitCount_0f7a4_16 (by decide) ?_
  refine lv_iushr (pc := 17) S.1 S.2.1 dJ6_bitCount_0f7a4_17 rfl ?_
  refine lv_ldcw (pc := 18) S.1 S.2.1 S.2.2.2.1 (S.2.2.2.2 _ (List.mem_cons_of_mem _ kw_111)) dJ6_bitCount_0f7a4_18 ?_
  refine lv_iand (pc := 21) S.1 S.2.1 dJ6_bitCount_0f7a4_21 ?_
  refine lv_iadd (pc := 22) S.1 S.2.1 dJ6_bitCount_0f7a4_22 ?_
  refine lv_topi (fun y0_2 e2 => ?_)
  have h := h y0_2 e2
  refine lv_istore_n (pc := 23) S.1 S.2.1 (lv' := [(0, .int y0_2)]) dJ6_bitCount_0f7a4_23 rfl hl (by decide) rfl (fun ls hl => ?_)
  refine lv_iload_n (pc := 24) S.1 S.2.1 dJ6_bitCount_0f7a4_24 rfl (lv_at hl 0 rfl) ?_
  refine lv_iload_n (pc := 25) S.1 S.2.1 dJ6_bitCount_0f7a4_25 rfl (lv_at hl 0 rfl) ?_
  refine lv_iconst (pc := 26) S.1 S.2.1 (v := 4) dJ6_bitCount_0f7a4_26 (by decide) ?_
  refine lv_iushr (pc := 27) S.1 S.2.1 dJ6_bitCount_0f7a4_27 rfl ?_
  refine lv_iadd (pc := 28) S.1 S.2.1 dJ6_bitCount_0f7a4_28 ?_
  refine lv_ldcw (pc := 29) S.1 S.2.1 S.2.2.2.1 (S.2.2.2.2 _ (List.mem_cons_of_mem _ kw_112)) dJ6_bitCount_0f7a4_29 ?_
  refine lv_iand (pc := 32) S.1 S.2.1 dJ6_bitCount_0f7a4_32 ?_
  refine lv_topi (fun y0_3 e3 => ?_)
  have h := h y0_3 e3
  refine lv_istore_n (pc := 33) S.1 S.2.1 (lv' := [(0, .int y0_3)]) dJ6_bitCount_0f7a4_33 rfl hl (by decide) rfl (fun ls hl => ?_)
  refine lv_iload_n (pc := 34) S.1 S.2.1 dJ6_bitCount_0f7a4_34 rfl (lv_at hl 0 rfl) ?_
  refine lv_iload_n (pc := 35) S.1 S.2.1 dJ6_bitCount_0f7a4_35 rfl (lv_at hl 0 rfl) ?_
  refine lv_bipush (pc := 36) S.1 S.2.1 (v := 8) dJ6_bitCount_0f7a4_36 (by decide) ?_
  refine lv_iushr (pc := 38) S.1 S.2.1 dJ6_bitCount_0f7a4_38 rfl ?_
  refine lv_iadd (pc := 39) S.1 S.2.1 dJ6_bitCount_0f7a4_39 ?_
  refine lv_topi (fun y0_4 e4 => ?_)
  have h := h y0_4 e4
  refine lv_istore_n (pc := 40) S.1 S.2.1 (lv' := [(0, .int y0_4)]) dJ6_bitCount_0f7a4_40 rfl hl (by decide) rfl (fun ls hl => ?_)
  refine lv_iload_n (pc := 41) S.1 S.2.1 dJ6_bitCount_0f7a4_41 rfl (lv_at hl 0 rfl) ?_
  refine lv_iload_n (pc := 42) S.1 S.2.1 dJ6_bitCount_0f7a4_42 rfl (lv_at hl 0 rfl) ?_
  refine lv_bipush (pc := 43) S.1 S.2.1 (v := 16) dJ6_bitCount_0f7a4_43 (by decide) ?_
  refine lv_iushr (pc := 45) S.1 S.2.1 dJ6_bitCount_0f7a4_45 rfl ?_
  refine lv_iadd (pc := 46) S.1 S.2.1 dJ6_bitCount_0f7a4_46 ?_
  refine lv_topi (fun y0_5 e5 => ?_)
  have h := h y0_5 e5
  refine lv_istore_n (pc := 47) S.1 S.2.1 (lv' := [(0, .int y0_5)]) dJ6_bitCount_0f7a4_47 rfl hl (by decide) rfl (fun ls hl => ?_)
  refine lv_iload_n (pc := 48) S.1 S.2.1 dJ6_bitCount_0f7a4_48 rfl (lv_at hl 0 rfl) ?_
  refine lv_bipush (pc := 49) S.1 S.2.1 (v := 63) dJ6_bitCount_0f7a4_49 (by decide) ?_
  refine lv_iand (pc := 51) S.1 S.2.1 dJ6_bitCount_0f7a4_51 ?_
  exact tRi S hr hlk hP hS h dJ6_bitCount_0f7a4_52

abbrev rmX1_hardestOf : Room := { frames := 1, cells := 0, slots := 0, locals := 23 }
theorem cw_X1_hardestOf {R : Room} {own : String} {index : Nat} (h : rmX1_hardestOf.frames + 1 ≤ R.frames ∧ 8 + (8 + 11) + rmX1_hardestOf.locals ≤ R.locals) : tCw R own index yX1_hardestOf cX1_hardestOf 8 (some .int) rmX1_hardestOf 1 := ⟨kw_120, kw_90, ⟨rfl, rfl, h.1, h.2⟩, by decide +kernel, by decide +kernel, by decide +kernel⟩
set_option maxHeartbeats 4000000 in
set_option maxRecDepth 100000 in
theorem wk_X1_hardestOf_80 {p : Program} {l : Launch} {e : Env} {s : State} {m : MethodId} {args : Array Value} {below : List Frame} {meth : Method} {c : Code} {dC : Nat → ClassId} {dI : Nat → Nat → Nat} {a : Nat → Nat} {ca : Nat → ClassId} {tb : Nat → Nat} {w0 : Cond} (S : CallFix p m c cX1_hardestOf 8 s args (w0 :: tWALL) RX1) (hr : meth.sig.returnType = (some .int)) (hlk : meth.locks = false) (E : tEnv 47 dC dI a ca tb s) (post : Int32 → tSt → Prop) (k11 : Int32 → Int32 → Int32 → Int32 → Int32 → tSt → Prop) (hk11 : ∀ (x1 : Int32) (x2 : Int32) (x3 : Int32) (x4 : Int32) (x5 : Int32) (st : tSt), k11 x1 x2 x3 x4 x5 st → tAt p l e rmX1_hardestOf s m args below meth c (dC, dI) (cwC a ca) (tA 47 a s.heap.size) (tQi (cwC a ca) 47 dC dI a args below s post) 8 11 [(0, .ref (a 40)), (1, .int x1), (2, .int x2), (3, .int x3), (4, .int x4), (5, .int x5)] [] st) : ∀ (x1 : Int32) (x2 : Int32) (x3 : Int32) (x4 : Int32) (x5 : Int32) (st : tSt), wp_Cast_hardestOf_80 post k11 x1 x2 x3 x4 x5 st → tAt p l e rmX1_hardestOf s m args below meth c (dC, dI) (cwC a ca) (tA 47 a s.heap.size) (tQi (cwC a ca) 47 dC dI a args below s post) 8 80 [(0, .ref (a 40)), (1, .int x1), (2, .int x2), (3, .int x3), (4, .int x4), (5, .int x5)] [] st := by
  intro x1 x2 x3 x4 x5 st h H locs ls hP hS hl
  obtain ⟨y5_1, e1⟩ : ∃ y : Int32, y = x5 + 1 := ⟨_, rfl⟩
  have h := h y5_1 e1
  refine lv_iinc (pc := 80) S.1 S.2.1 (v := y5_1) (lv' := [(5, .int y5_1), (0, .ref (a 40)), (1, .int x1), (2, .int x2), (3, .int x3), (4, .int x4)]) dX1_hardestOf_80 hl (k := 5) rfl (by rw [e1]; rfl) (by decide) rfl (fun ls hl => ?_)
  refine lv_goto (pc := 83) S.1 S.2.1 (tgt := 11) dX1_hardestOf_83 (by decide) ?_
  exact hk11 x1 x2 x3 x4 y5_1 st h _ _ _ hP hS (lv_sub hl [1, 2, 3, 4, 5, 0] rfl)
set_option maxHeartbeats 4000000 in
set_option maxRecDepth 100000 in
theorem wk_X1_hardestOf_70 {p : Program} {l : Launch} {e : Env} {s : State} {m : MethodId} {args : Array Value} {below : List Frame} {meth : Method} {c : Code} {dC : Nat → ClassId} {dI : Nat → Nat → Nat} {a : Nat → Nat} {ca : Nat → ClassId} {tb : Nat → Nat} {w0 : Cond} (S : CallFix p m c cX1_hardestOf 8 s args (w0 :: tWALL) RX1) (hr : meth.sig.returnType = (some .int)) (hlk : meth.locks = false) (E : tEnv 47 dC dI a ca tb s) (post : Int32 → tSt → Prop) (k11 : Int32 → Int32 → Int32 → Int32 → Int32 → tSt → Prop) (hk11 : ∀ (x1 : Int32) (x2 : Int32) (x3 : Int32) (x4 : Int32) (x5 : Int32) (st : tSt), k11 x1 x2 x3 x4 x5 st → tAt p l e rmX1_hardestOf s m args below meth c (dC, dI) (cwC a ca) (tA 47 a s.heap.size) (tQi (cwC a ca) 47 dC dI a args below s post) 8 11 [(0, .ref (a 40)), (1, .int x1), (2, .int x2), (3, .int x3), (4, .int x4), (5, .int x5)] [] st) : ∀ (x1 : Int32) (x5 : Int32) (x6 : Int32) (x7 : Int32) (st : tSt), wp_Cast_hardestOf_70 post k11 x1 x5 x6 x7 st → tAt p l e rmX1_hardestOf s m args below meth c (dC, dI) (cwC a ca) (tA 47 a s.heap.size) (tQi (cwC a ca) 47 dC dI a args below s post) 8 70 [(0, .ref (a 40)), (1, .int x1), (5, .int x5), (6, .int x6), (7, .int x7)] [] st := by
  intro x1 x5 x6 x7 st h H locs ls hP hS hl
  refine lv_iload (pc := 70) S.1 S.2.1 dX1_hardestOf_70 (lv_at hl 2 rfl) ?_
  refine lv_istore_n (pc := 72) S.1 S.2.1 (lv' := [(2, .int x5), (0, .ref (a 40)), (1, .int x1), (5, .int x5), (6, .int x6), (7, .int x7)]) dX1_hardestOf_72 rfl hl (by decide) rfl (fun ls hl => ?_)
  refine lv_iload (pc := 73) S.1 S.2.1 dX1_hardestOf_73 (lv_at hl 4 rfl) ?_
  refine lv_istore_n (pc := 75) S.1 S.2.1 (lv' := [(3, .int x6), (2, .int x5), (0, .ref (a 40)), (1, .int x1), (5, .int x5), (6, .int x6), (7, .int x7)]) dX1_hardestOf_75 rfl hl (by decide) rfl (fun ls hl => ?_)
  refine lv_iload (pc := 76) S.1 S.2.1 dX1_hardestOf_76 (lv_at hl 6 rfl) ?_
  refine lv_istore (pc := 78) S.1 S.2.1 (lv' := [(4, .int x7), (3, .int x6), (2, .int x5), (0, .ref (a 40)), (1, .int x1), (5, .int x5), (6, .int x6), (7, .int x7)]) dX1_hardestOf_78 hl (by decide) rfl (fun ls hl => ?_)
  exact (fun x1 x2 x3 x4 x5 st h => wk_X1_hardestOf_80 S hr hlk E post k11 hk11 x1 x2 x3 x4 x5 st h) x1 x5 x6 x7 x5 st h _ _ _ hP hS (lv_sub hl [3, 4, 2, 1, 0, 5] rfl)
set_option maxHeartbeats 4000000 in
set_option maxRecDepth 100000 in
theorem wk_X1_hardestOf_11 {p : Program} {l : Launch} {e : Env} {s : State} {m : MethodId} {args : Array Value} {below : List Frame} {meth : Method} {c : Code} {dC : Nat → ClassId} {dI : Nat → Nat → Nat} {a : Nat → Nat} {ca : Nat → ClassId} {tb : Nat → Nat} {w0 : Cond} (S : CallFix p m c cX1_hardestOf 8 s args (w0 :: tWALL) RX1) (hr : meth.sig.returnType = (some .int)) (hlk : meth.locks = false) (E : tEnv 47 dC dI a ca tb s) (post : Int32 → tSt → Prop) : ∀ (n : Nat) (x1 : Int32) (x2 : Int32) (x3 : Int32) (x4 : Int32) (x5 : Int32) (st : tSt), wp_Cast_hardestOf_11 post n x1 x2 x3 x4 x5 st → tAt p l e rmX1_hardestOf s m args below meth c (dC, dI) (cwC a ca) (tA 47 a s.heap.size) (tQi (cwC a ca) 47 dC dI a args below s post) 8 11 [(0, .ref (a 40)), (1, .int x1), (2, .int x2), (3, .int x3), (4, .int x4), (5, .int x5)] [] st := by
  intro n
  induction n with
  | zero => intro x1 x2 x3 x4 x5 st h; exact absurd h id
  | succ n ih =>
    intro x1 x2 x3 x4 x5 st h H locs ls hP hS hl
    refine lv_iload (pc := 11) S.1 S.2.1 dX1_hardestOf_11 (lv_at hl 5 rfl) ?_
    refine lv_aload_n (pc := 13) S.1 S.2.1 dX1_hardestOf_13 rfl (lv_at hl 0 rfl) ?_
    refine tp_get (pc := 14) S E.1 hP iwX1 40 (cC_cast a ca st) rfl 4 (by decide) kw_86 (v := .int (st 27 0)) rfl dX1_hardestOf_14 ?_
    refine lv_icmp_ge (pc := 17) (tgt := 86) S.1 S.2.1 dX1_hardestOf_17 (by decide) (fun c1 => ?_) (fun c1 => ?_)
    · have h := h.1 c1
      refine lv_iload_n (pc := 86) S.1 S.2.1 dX1_hardestOf_86 rfl (lv_at hl 2 rfl) ?_
      exact tRi S hr hlk hP hS h dX1_hardestOf_87
    · have h := h.2 c1
      refine lv_iload_n (pc := 20) S.1 S.2.1 dX1_hardestOf_20 rfl (lv_at hl 1 rfl) ?_
      refine lv_iload (pc := 21) S.1 S.2.1 dX1_hardestOf_21 (lv_at hl 5 rfl) ?_
      refine tGi hS (tRunSN (pc := 23) (As := [.int x1, .int x5]) (rest := []) S E hP hS (mt_X7_hasBit l dC dI a ca tb _ x1 x5 st _ h) (cw_X7_hasBit ⟨Nat.le_of_ble_eq_true rfl, Nat.le_of_ble_eq_true rfl⟩) kw_107 kw_49 rfl hl.1 rfl (Nat.le_of_ble_eq_true rfl) dX1_hardestOf_23) (fun r2 st1 H locs h hP hS => ?_)
      refine lv_if_eq (pc := 26) (tgt := 80) S.1 S.2.1 dX1_hardestOf_26 (by decide) (fun c2 => ?_) (fun c2 => ?_)
      · have h := h.1 c2
        exact (fun x1 x2 x3 x4 x5 st h => wk_X1_hardestOf_80 S hr hlk E post (wp_Cast_hardestOf_11 post n) ih x1 x2 x3 x4 x5 st h) x1 x2 x3 x4 x5 st1 h _ _ _ hP hS (lv_sub hl [0, 1, 2, 3, 4, 5] rfl)
      · have h := h.2 c2
        refine lv_aload_n (pc := 29) S.1 S.2.1 dX1_hardestOf_29 rfl (lv_at hl 0 rfl) ?_
        refine lv_iload (pc := 30) S.1 S.2.1 dX1_hardestOf_30 (lv_at hl 5 rfl) ?_
        refine tGi hS (tRunV (pc := 32) (As := [.int x5]) (rest := []) S E hP hS (mt_X1_takersOf l dC dI a ca tb _ x5 st1 _ h) (cw_X1_takersOf ⟨Nat.le_of_ble_eq_true rfl, Nat.le_of_ble_eq_true rfl⟩) kw_115 kw_116 kw_117 40 1 rfl rfl (cC_cast a ca st1) rfl hl.1 rfl (Nat.le_of_ble_eq_true rfl) dX1_hardestOf_32) (fun r4 st3 H locs h hP hS => ?_)
        refine lv_istore (pc := 35) S.1 S.2.1 (lv' := [(6, .int r4), (0, .ref (a 40)), (1, .int x1), (2, .int x2), (3, .int x3), (4, .int x4), (5, .int x5)]) dX1_hardestOf_35 hl (by decide) rfl (fun ls hl => ?_)
        refine lv_aload_n (pc := 37) S.1 S.2.1 dX1_hardestOf_37 rfl (lv_at hl 1 rfl) ?_
        refine tp_get (pc := 38) S E.1 hP iwX1 40 (cC_cast a ca st3) rfl 1 (by decide) kw_100 (v := .ref (a 44)) rfl dX1_hardestOf_38 ?_
        refine lv_iload (pc := 41) S.1 S.2.1 dX1_hardestOf_41 (lv_at hl 6 rfl) ?_
        obtain ⟨hn3, h⟩ := h
        refine tp_iald (pc := 43) S E.1 hP 44 0 (cC_bars a ca st3) rfl (j := x5.toNatClampNeg) rfl hn3 dX1_hardestOf_43 ?_
        refine lv_iload_n (pc := 44) S.1 S.2.1 dX1_hardestOf_44 rfl (lv_at hl 2 rfl) ?_
        refine lv_iand (pc := 45) S.1 S.2.1 dX1_hardestOf_45 ?_
        refine tGi hS (tRunS (pc := 46) (As := [.int ((st3 32 x5.toNatClampNeg) &&& x1)]) (rest := []) S E hP hS (mt_J6_bitCount_0f7a4 l dC dI a ca tb _ ((st3 32 x5.toNatClampNeg) &&& x1) st3 _ h) (cw_J6_bitCount_0f7a4 ⟨Nat.le_of_ble_eq_true rfl, Nat.le_of_ble_eq_true rfl⟩) kw_119 kw_118 rfl hl.1 rfl (Nat.le_of_ble_eq_true rfl) dX1_hardestOf_46) (fun r6 st5 H locs h hP hS => ?_)
        refine lv_istore (pc := 49) S.1 S.2.1 (lv' := [(7, .int r6), (6, .int r4), (0, .ref (a 40)), (1, .int x1), (2, .int x2), (3, .int x3), (4, .int x4), (5, .int x5)]) dX1_hardestOf_49 hl (by decide) rfl (fun ls hl => ?_)
        refine lv_iload (pc := 51) S.1 S.2.1 dX1_hardestOf_51 (lv_at hl 1 rfl) ?_
        refine lv_iload_n (pc := 53) S.1 S.2.1 dX1_hardestOf_53 rfl (lv_at hl 5 rfl) ?_
        refine lv_icmp_lt (pc := 54) (tgt := 70) S.1 S.2.1 dX1_hardestOf_54 (by decide) (fun c4 => ?_) (fun c4 => ?_)
        · have h := h.1 c4
          exact (fun x1 x5 x6 x7 st h => wk_X1_hardestOf_70 S hr hlk E post (wp_Cast_hardestOf_11 post n) ih x1 x5 x6 x7 st h) x1 x5 r4 r6 st5 h _ _ _ hP hS (lv_sub hl [2, 3, 7, 1, 0] rfl)
        · have h := h.2 c4
          refine lv_iload (pc := 57) S.1 S.2.1 dX1_hardestOf_57 (lv_at hl 1 rfl) ?_
          refine lv_iload_n (pc := 59) S.1 S.2.1 dX1_hardestOf_59 rfl (lv_at hl 5 rfl) ?_
          refine lv_icmp_ne (pc := 60) (tgt := 80) S.1 S.2.1 dX1_hardestOf_60 (by decide) (fun c5 => ?_) (fun c5 => ?_)
          · have h := h.2 c5
            exact (fun x1 x2 x3 x4 x5 st h => wk_X1_hardestOf_80 S hr hlk E post (wp_Cast_hardestOf_11 post n) ih x1 x2 x3 x4 x5 st h) x1 x2 x3 x4 x5 st5 h _ _ _ hP hS (lv_sub hl [2, 3, 4, 5, 6, 7] rfl)
          · have h := h.1 c5
            refine lv_iload (pc := 63) S.1 S.2.1 dX1_hardestOf_63 (lv_at hl 0 rfl) ?_
            refine lv_iload (pc := 65) S.1 S.2.1 dX1_hardestOf_65 (lv_at hl 6 rfl) ?_
            refine lv_icmp_le (pc := 67) (tgt := 80) S.1 S.2.1 dX1_hardestOf_67 (by decide) (fun c6 => ?_) (fun c6 => ?_)
            · have h := h.1 c6
              exact (fun x1 x2 x3 x4 x5 st h => wk_X1_hardestOf_80 S hr hlk E post (wp_Cast_hardestOf_11 post n) ih x1 x2 x3 x4 x5 st h) x1 x2 x3 x4 x5 st5 h _ _ _ hP hS (lv_sub hl [2, 3, 4, 5, 6, 7] rfl)
            · have h := h.2 c6
              exact (fun x1 x5 x6 x7 st h => wk_X1_hardestOf_70 S hr hlk E post (wp_Cast_hardestOf_11 post n) ih x1 x5 x6 x7 st h) x1 x5 r4 r6 st5 h _ _ _ hP hS (lv_sub hl [2, 3, 7, 1, 0] rfl)
set_option maxHeartbeats 4000000 in
set_option maxRecDepth 100000 in
theorem mt_X1_hardestOf (l : Launch) (dC : Nat → ClassId) (dI : Nat → Nat → Nat) (a : Nat → Nat) (ca : Nat → ClassId) (tb : Nat → Nat) (sz : Nat) (x1 : Int32) (st : tSt) (post : Int32 → tSt → Prop) (h : wp_Cast_hardestOf x1 st post) : Met l yX1_hardestOf (.code yX1_hardestOf cX1_hardestOf 8 (some .int) :: tWALL) rmX1_hardestOf (va_Pc [.ref (a 40), .int x1] (tPre 47 (cwC a ca) dC dI a ca tb sz st)) (va_Qi post (tB (cwC a ca) dC dI) (tA 47 a sz)) 0 0 (tA 47 a sz) := by
  refine tp_met (by decide) (Nat.le_of_ble_eq_true rfl) ?_
  intro p e s m below meth c ls S hr hlk hsz E hP hl
  subst hsz
  have S : CallFix p m c cX1_hardestOf 8 s _ (.code yX1_hardestOf cX1_hardestOf 8 (some .int) :: tWALL) RX1 := S
  have hl : lv_has ls 8 [(0, .ref (a 40)), (1, .int x1)] := hl
  have hS : va_S (tA 47 a s.heap.size) s.heap s.heap [] := va_S.rf
  show W p l e _ s m _ below meth c s.heap [] 0 0 (tQi (cwC a ca) 47 dC dI a ([.ref (a 40), .int x1] : List Value).toArray below s post) (F0 m 0 ls [])
  refine lv_iconst (pc := 0) S.1 S.2.1 (v := 0) dX1_hardestOf_0 (by decide) ?_
  refine lv_istore_n (pc := 1) S.1 S.2.1 (lv' := [(2, .int (0 : Int32)), (0, .ref (a 40)), (1, .int x1)]) dX1_hardestOf_1 rfl hl (by decide) rfl (fun ls hl => ?_)
  refine lv_bipush (pc := 2) S.1 S.2.1 (v := 7) dX1_hardestOf_2 (by decide) ?_
  refine lv_istore_n (pc := 4) S.1 S.2.1 (lv' := [(3, .int (7 : Int32)), (2, .int (0 : Int32)), (0, .ref (a 40)), (1, .int x1)]) dX1_hardestOf_4 rfl hl (by decide) rfl (fun ls hl => ?_)
  refine lv_iconst (pc := 5) S.1 S.2.1 (v := 0) dX1_hardestOf_5 (by decide) ?_
  refine lv_istore (pc := 6) S.1 S.2.1 (lv' := [(4, .int (0 : Int32)), (3, .int (7 : Int32)), (2, .int (0 : Int32)), (0, .ref (a 40)), (1, .int x1)]) dX1_hardestOf_6 hl (by decide) rfl (fun ls hl => ?_)
  refine lv_iconst (pc := 8) S.1 S.2.1 (v := 0) dX1_hardestOf_8 (by decide) ?_
  refine lv_istore (pc := 9) S.1 S.2.1 (lv' := [(5, .int (0 : Int32)), (4, .int (0 : Int32)), (3, .int (7 : Int32)), (2, .int (0 : Int32)), (0, .ref (a 40)), (1, .int x1)]) dX1_hardestOf_9 hl (by decide) rfl (fun ls hl => ?_)
  exact (fun x1 x2 x3 x4 x5 st h => Exists.elim h (fun q h => wk_X1_hardestOf_11 S hr hlk E post  q x1 x2 x3 x4 x5 st h)) x1 (0 : Int32) (7 : Int32) (0 : Int32) (0 : Int32) st h _ _ _ hP hS (lv_sub hl [4, 5, 3, 2, 1, 0] rfl)

abbrev rmX1_isWorthTrying : Room := { frames := 1, cells := 0, slots := 0, locals := 21 }
theorem cw_X1_isWorthTrying {R : Room} {own : String} {index : Nat} (h : rmX1_isWorthTrying.frames + 1 ≤ R.frames ∧ 8 + (5 + 11) + rmX1_isWorthTrying.locals ≤ R.locals) : tCw R own index yX1_isWorthTrying cX1_isWorthTrying 5 (some .boolean) rmX1_isWorthTrying 3 := ⟨kw_121, kw_90, ⟨rfl, rfl, h.1, h.2⟩, by decide +kernel, by decide +kernel, by decide +kernel⟩
set_option maxHeartbeats 4000000 in
set_option maxRecDepth 100000 in
theorem wk_X1_isWorthTrying_37 {p : Program} {l : Launch} {e : Env} {s : State} {m : MethodId} {args : Array Value} {below : List Frame} {meth : Method} {c : Code} {dC : Nat → ClassId} {dI : Nat → Nat → Nat} {a : Nat → Nat} {ca : Nat → ClassId} {tb : Nat → Nat} {w0 : Cond} (S : CallFix p m c cX1_isWorthTrying 5 s args (w0 :: tWALL) RX1) (hr : meth.sig.returnType = (some .boolean)) (hlk : meth.locks = false) (E : tEnv 47 dC dI a ca tb s) (post : Int32 → tSt → Prop) : ∀ (x1 : Int32) (x2 : Int32) (st : tSt), wp_Cast_isWorthTrying_37 post x1 x2 st → tAt p l e rmX1_isWorthTrying s m args below meth c (dC, dI) (cwC a ca) (tA 47 a s.heap.size) (tQi (cwC a ca) 47 dC dI a args below s post) 5 37 [(0, .ref (a 40)), (1, .int x1), (2, .int x2)] [] st := by
  intro x1 x2 st h H locs ls hP hS hl
  refine lv_aload_n (pc := 37) S.1 S.2.1 dX1_isWorthTrying_37 rfl (lv_at hl 0 rfl) ?_
  refine tp_get (pc := 38) S E.1 hP iwX1 40 (cC_cast a ca st) rfl 0 (by decide) kw_87 (v := .ref (a 43)) rfl dX1_isWorthTrying_38 ?_
  refine lv_iload_n (pc := 41) S.1 S.2.1 dX1_isWorthTrying_41 rfl (lv_at hl 1 rfl) ?_
  obtain ⟨hn1, h⟩ := h
  refine tp_iald (pc := 42) S E.1 hP 43 0 (cC_openTo a ca st) rfl (j := x1.toNatClampNeg) rfl hn1 dX1_isWorthTrying_42 ?_
  refine lv_iload_n (pc := 43) S.1 S.2.1 dX1_isWorthTrying_43 rfl (lv_at hl 2 rfl) ?_
  refine tGi hS (tRunSN (pc := 44) (As := [.int (st 31 x1.toNatClampNeg), .int x2]) (rest := []) S E hP hS (mt_X7_hasBit l dC dI a ca tb _ (st 31 x1.toNatClampNeg) x2 st _ h) (cw_X7_hasBit ⟨Nat.le_of_ble_eq_true rfl, Nat.le_of_ble_eq_true rfl⟩) kw_107 kw_49 rfl hl.1 rfl (Nat.le_of_ble_eq_true rfl) dX1_isWorthTrying_44) (fun r2 st1 H locs h hP hS => ?_)
  obtain ⟨hn2, h⟩ := h
  exact tRz S hr hlk hP hS hn2 h dX1_isWorthTrying_47
set_option maxHeartbeats 4000000 in
set_option maxRecDepth 100000 in
theorem wk_X1_isWorthTrying_3 {p : Program} {l : Launch} {e : Env} {s : State} {m : MethodId} {args : Array Value} {below : List Frame} {meth : Method} {c : Code} {dC : Nat → ClassId} {dI : Nat → Nat → Nat} {a : Nat → Nat} {ca : Nat → ClassId} {tb : Nat → Nat} {w0 : Cond} (S : CallFix p m c cX1_isWorthTrying 5 s args (w0 :: tWALL) RX1) (hr : meth.sig.returnType = (some .boolean)) (hlk : meth.locks = false) (E : tEnv 47 dC dI a ca tb s) (post : Int32 → tSt → Prop) (k37 : Int32 → Int32 → tSt → Prop) (hk37 : ∀ (x1 : Int32) (x2 : Int32) (st : tSt), k37 x1 x2 st → tAt p l e rmX1_isWorthTrying s m args below meth c (dC, dI) (cwC a ca) (tA 47 a s.heap.size) (tQi (cwC a ca) 47 dC dI a args below s post) 5 37 [(0, .ref (a 40)), (1, .int x1), (2, .int x2)] [] st) : ∀ (n : Nat) (x1 : Int32) (x2 : Int32) (x3 : Int32) (x4 : Int32) (st : tSt), wp_Cast_isWorthTrying_3 post k37 n x1 x2 x3 x4 st → tAt p l e rmX1_isWorthTrying s m args below meth c (dC, dI) (cwC a ca) (tA 47 a s.heap.size) (tQi (cwC a ca) 47 dC dI a args below s post) 5 3 [(0, .ref (a 40)), (1, .int x1), (2, .int x2), (3, .int x3), (4, .int x4)] [] st := by
  intro n
  induction n with
  | zero => intro x1 x2 x3 x4 st h; exact absurd h id
  | succ n ih =>
    intro x1 x2 x3 x4 st h H locs ls hP hS hl
    refine lv_iload (pc := 3) S.1 S.2.1 dX1_isWorthTrying_3 (lv_at hl 4 rfl) ?_
    refine lv_iload_n (pc := 5) S.1 S.2.1 dX1_isWorthTrying_5 rfl (lv_at hl 1 rfl) ?_
    refine lv_icmp_ge (pc := 6) (tgt := 37) S.1 S.2.1 dX1_isWorthTrying_6 (by decide) (fun c1 => ?_) (fun c1 => ?_)
    · have h := h.1 c1
      exact hk37 x1 x2 st h _ _ _ hP hS (lv_sub hl [0, 1, 2] rfl)
    · have h := h.2 c1
      refine lv_aload_n (pc := 9) S.1 S.2.1 dX1_isWorthTrying_9 rfl (lv_at hl 0 rfl) ?_
      refine tp_get (pc := 10) S E.1 hP iwX1 40 (cC_cast a ca st) rfl 0 (by decide) kw_87 (v := .ref (a 43)) rfl dX1_isWorthTrying_10 ?_
      refine lv_iload (pc := 13) S.1 S.2.1 dX1_isWorthTrying_13 (lv_at hl 4 rfl) ?_
      obtain ⟨hn2, h⟩ := h
      refine tp_iald (pc := 15) S E.1 hP 43 0 (cC_openTo a ca st) rfl (j := x4.toNatClampNeg) rfl hn2 dX1_isWorthTrying_15 ?_
      refine lv_iload_n (pc := 16) S.1 S.2.1 dX1_isWorthTrying_16 rfl (lv_at hl 3 rfl) ?_
      refine lv_iand (pc := 17) S.1 S.2.1 dX1_isWorthTrying_17 ?_
      refine lv_aload_n (pc := 18) S.1 S.2.1 dX1_isWorthTrying_18 rfl (lv_at hl 0 rfl) ?_
      refine tp_get (pc := 19) S E.1 hP iwX1 40 (cC_cast a ca st) rfl 0 (by decide) kw_87 (v := .ref (a 43)) rfl dX1_isWorthTrying_19 ?_
      refine lv_iload_n (pc := 22) S.1 S.2.1 dX1_isWorthTrying_22 rfl (lv_at hl 1 rfl) ?_
      obtain ⟨hn3, h⟩ := h
      refine tp_iald (pc := 23) S E.1 hP 43 0 (cC_openTo a ca st) rfl (j := x1.toNatClampNeg) rfl hn3 dX1_isWorthTrying_23 ?_
      refine lv_iload_n (pc := 24) S.1 S.2.1 dX1_isWorthTrying_24 rfl (lv_at hl 3 rfl) ?_
      refine lv_iand (pc := 25) S.1 S.2.1 dX1_isWorthTrying_25 ?_
      refine lv_icmp_ne (pc := 26) (tgt := 31) S.1 S.2.1 dX1_isWorthTrying_26 (by decide) (fun c4 => ?_) (fun c4 => ?_)
      · have h := h.2 c4
        obtain ⟨y4_1, e5⟩ : ∃ y : Int32, y = x4 + 1 := ⟨_, rfl⟩
        have h := h y4_1 e5
        refine lv_iinc (pc := 31) S.1 S.2.1 (v := y4_1) (lv' := [(4, .int y4_1), (0, .ref (a 40)), (1, .int x1), (2, .int x2), (3, .int x3)]) dX1_isWorthTrying_31 hl (k := 4) rfl (by rw [e5]; rfl) (by decide) rfl (fun ls hl => ?_)
        refine lv_goto (pc := 34) S.1 S.2.1 (tgt := 3) dX1_isWorthTrying_34 (by decide) ?_
        exact ih x1 x2 x3 y4_1 st h _ _ _ hP hS (lv_sub hl [1, 2, 3, 4, 0] rfl)
      · have h := h.1 c4
        refine lv_iconst (pc := 29) S.1 S.2.1 (v := 0) dX1_isWorthTrying_29 (by decide) ?_
        exact tRz S hr hlk hP hS (Or.inl rfl) h dX1_isWorthTrying_30
set_option maxHeartbeats 4000000 in
set_option maxRecDepth 100000 in
theorem mt_X1_isWorthTrying (l : Launch) (dC : Nat → ClassId) (dI : Nat → Nat → Nat) (a : Nat → Nat) (ca : Nat → ClassId) (tb : Nat → Nat) (sz : Nat) (x1 : Int32) (x2 : Int32) (x3 : Int32) (st : tSt) (post : Int32 → tSt → Prop) (h : wp_Cast_isWorthTrying x1 x2 x3 st post) : Met l yX1_isWorthTrying (.code yX1_isWorthTrying cX1_isWorthTrying 5 (some .boolean) :: tWALL) rmX1_isWorthTrying (va_Pc [.ref (a 40), .int x1, .int x2, .int x3] (tPre 47 (cwC a ca) dC dI a ca tb sz st)) (va_Qi post (tB (cwC a ca) dC dI) (tA 47 a sz)) 0 0 (tA 47 a sz) := by
  refine tp_met (by decide) (Nat.le_of_ble_eq_true rfl) ?_
  intro p e s m below meth c ls S hr hlk hsz E hP hl
  subst hsz
  have S : CallFix p m c cX1_isWorthTrying 5 s _ (.code yX1_isWorthTrying cX1_isWorthTrying 5 (some .boolean) :: tWALL) RX1 := S
  have hl : lv_has ls 5 [(0, .ref (a 40)), (1, .int x1), (2, .int x2), (3, .int x3)] := hl
  have hS : va_S (tA 47 a s.heap.size) s.heap s.heap [] := va_S.rf
  show W p l e _ s m _ below meth c s.heap [] 0 0 (tQi (cwC a ca) 47 dC dI a ([.ref (a 40), .int x1, .int x2, .int x3] : List Value).toArray below s post) (F0 m 0 ls [])
  refine lv_iconst (pc := 0) S.1 S.2.1 (v := 0) dX1_isWorthTrying_0 (by decide) ?_
  refine lv_istore (pc := 1) S.1 S.2.1 (lv' := [(4, .int (0 : Int32)), (0, .ref (a 40)), (1, .int x1), (2, .int x2), (3, .int x3)]) dX1_isWorthTrying_1 hl (by decide) rfl (fun ls hl => ?_)
  exact (fun x1 x2 x3 x4 st h => Exists.elim h (fun q h => wk_X1_isWorthTrying_3 S hr hlk E post (wp_Cast_isWorthTrying_37 post) (fun x1 x2 st h => wk_X1_isWorthTrying_37 S hr hlk E post  x1 x2 st h) q x1 x2 x3 x4 st h)) x1 x2 x3 (0 : Int32) st h _ _ _ hP hS (lv_sub hl [1, 2, 3, 4, 0] rfl)
