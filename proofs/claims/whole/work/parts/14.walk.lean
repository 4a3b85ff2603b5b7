abbrev rmX3_hasPiecesAt : Room := { frames := 2, cells := 0, slots := 0, locals := 41 }
theorem cw_X3_hasPiecesAt {R : Room} {own : String} {index : Nat} (h : rmX3_hasPiecesAt.frames + 1 ≤ R.frames ∧ 8 + (7 + 11) + rmX3_hasPiecesAt.locals ≤ R.locals) : tCw R own index yX3_hasPiecesAt cX3_hasPiecesAt 7 (some .boolean) rmX3_hasPiecesAt 4 := ⟨kw_186, kw_161, ⟨rfl, rfl, h.1, h.2⟩, by decide +kernel, by decide +kernel, by decide +kernel⟩
set_option maxHeartbeats 4000000 in
set_option maxRecDepth 100000 in
theorem wk_X3_hasPiecesAt_56 {p : Program} {l : Launch} {e : Env} {s : State} {m : MethodId} {args : Array Value} {below : List Frame} {meth : Method} {c : Code} {dC : Nat → ClassId} {dI : Nat → Nat → Nat} {a : Nat → Nat} {ca : Nat → ClassId} {tb : Nat → Nat} {w0 : Cond} (S : CallFix p m c cX3_hasPiecesAt 7 s args (w0 :: tWALL) RX3) (hr : meth.sig.returnType = (some .boolean)) (hlk : meth.locks = false) (E : tEnv 47 dC dI a ca tb s) (post : Int32 → tSt → Prop) (k15 : Int32 → Int32 → Int32 → Int32 → Int32 → tSt → Prop) (hk15 : ∀ (x2 : Int32) (x3 : Int32) (x4 : Int32) (x5 : Int32) (x6 : Int32) (st : tSt), k15 x2 x3 x4 x5 x6 st → tAt p l e rmX3_hasPiecesAt s m args below meth c (dC, dI) (cwC a ca) (tA 47 a s.heap.size) (tQi (cwC a ca) 47 dC dI a args below s post) 7 15 [(0, .ref (a 13)), (1, .ref (a 37)), (2, .int x2), (3, .int x3), (4, .int x4), (5, .int x5), (6, .int x6)] [] st) (k62 : Int32 → Int32 → Int32 → Int32 → tSt → Prop) (hk62 : ∀ (x2 : Int32) (x3 : Int32) (x4 : Int32) (x5 : Int32) (st : tSt), k62 x2 x3 x4 x5 st → tAt p l e rmX3_hasPiecesAt s m args below meth c (dC, dI) (cwC a ca) (tA 47 a s.heap.size) (tQi (cwC a ca) 47 dC dI a args below s post) 7 62 [(0, .ref (a 13)), (1, .ref (a 37)), (2, .int x2), (3, .int x3), (4, .int x4), (5, .int x5)] [] st) : ∀ (x2 : Int32) (x3 : Int32) (x4 : Int32) (x5 : Int32) (x6 : Int32) (st : tSt), wp_Plan_hasPiecesAt_56 post k15 k62 x2 x3 x4 x5 x6 st → tAt p l e rmX3_hasPiecesAt s m args below meth c (dC, dI) (cwC a ca) (tA 47 a s.heap.size) (tQi (cwC a ca) 47 dC dI a args below s post) 7 56 [(0, .ref (a 13)), (1, .ref (a 37)), (2, .int x2), (3, .int x3), (4, .int x4), (5, .int x5), (6, .int x6)] [] st := by
  intro x2 x3 x4 x5 x6 st h H locs ls hP hS hl
  obtain ⟨y6_1, e1⟩ : ∃ y : Int32, y = x6 + 1 := ⟨_, rfl⟩
  have h := h y6_1 e1
  refine lv_iinc (pc := 56) S.1 S.2.1 (v := y6_1) (lv' := [(6, .int y6_1), (0, .ref (a 13)), (1, .ref (a 37)), (2, .int x2), (3, .int x3), (4, .int x4), (5, .int x5)]) dX3_hasPiecesAt_56 hl (k := 6) rfl (by rw [e1]; rfl) (by decide) rfl (fun ls hl => ?_)
  refine lv_goto (pc := 59) S.1 S.2.1 (tgt := 15) dX3_hasPiecesAt_59 (by decide) ?_
  exact hk15 x2 x3 x4 x5 y6_1 st h _ _ _ hP hS (lv_sub hl [1, 2, 3, 4, 5, 6, 0] rfl)
set_option maxHeartbeats 4000000 in
set_option maxRecDepth 100000 in
theorem wk_X3_hasPiecesAt_62 {p : Program} {l : Launch} {e : Env} {s : State} {m : MethodId} {args : Array Value} {below : List Frame} {meth : Method} {c : Code} {dC : Nat → ClassId} {dI : Nat → Nat → Nat} {a : Nat → Nat} {ca : Nat → ClassId} {tb : Nat → Nat} {w0 : Cond} (S : CallFix p m c cX3_hasPiecesAt 7 s args (w0 :: tWALL) RX3) (hr : meth.sig.returnType = (some .boolean)) (hlk : meth.locks = false) (E : tEnv 47 dC dI a ca tb s) (post : Int32 → tSt → Prop) (k3 : Int32 → Int32 → Int32 → tSt → Prop) (hk3 : ∀ (x2 : Int32) (x3 : Int32) (x4 : Int32) (st : tSt), k3 x2 x3 x4 st → tAt p l e rmX3_hasPiecesAt s m args below meth c (dC, dI) (cwC a ca) (tA 47 a s.heap.size) (tQi (cwC a ca) 47 dC dI a args below s post) 7 3 [(0, .ref (a 13)), (1, .ref (a 37)), (2, .int x2), (3, .int x3), (4, .int x4)] [] st) : ∀ (x2 : Int32) (x3 : Int32) (x4 : Int32) (x5 : Int32) (st : tSt), wp_Plan_hasPiecesAt_62 post k3 x2 x3 x4 x5 st → tAt p l e rmX3_hasPiecesAt s m args below meth c (dC, dI) (cwC a ca) (tA 47 a s.heap.size) (tQi (cwC a ca) 47 dC dI a args below s post) 7 62 [(0, .ref (a 13)), (1, .ref (a 37)), (2, .int x2), (3, .int x3), (4, .int x4), (5, .int x5)] [] st := by
  intro x2 x3 x4 x5 st h H locs ls hP hS hl
  refine lv_iload (pc := 62) S.1 S.2.1 dX3_hasPiecesAt_62 (lv_at hl 5 rfl) ?_
  refine lv_aload_n (pc := 64) S.1 S.2.1 dX3_hasPiecesAt_64 rfl (lv_at hl 1 rfl) ?_
  refine lv_iload (pc := 65) S.1 S.2.1 dX3_hasPiecesAt_65 (lv_at hl 4 rfl) ?_
  obtain ⟨hn1, h⟩ := h
  refine tp_iald (pc := 67) S E.1 hP 37 0 (cC_piecesOf a ca st) rfl (j := x4.toNatClampNeg) rfl hn1 dX3_hasPiecesAt_67 ?_
  refine lv_icmp_le (pc := 68) (tgt := 73) S.1 S.2.1 dX3_hasPiecesAt_68 (by decide) (fun c2 => ?_) (fun c2 => ?_)
  · have h := h.1 c2
    obtain ⟨y4_1, e3⟩ : ∃ y : Int32, y = x4 + 1 := ⟨_, rfl⟩
    have h := h y4_1 e3
    refine lv_iinc (pc := 73) S.1 S.2.1 (v := y4_1) (lv' := [(4, .int y4_1), (0, .ref (a 13)), (1, .ref (a 37)), (2, .int x2), (3, .int x3), (5, .int x5)]) dX3_hasPiecesAt_73 hl (k := 4) rfl (by rw [e3]; rfl) (by decide) rfl (fun ls hl => ?_)
    refine lv_goto (pc := 76) S.1 S.2.1 (tgt := 3) dX3_hasPiecesAt_76 (by decide) ?_
    exact hk3 x2 x3 y4_1 st h _ _ _ hP hS (lv_sub hl [1, 2, 3, 4, 0] rfl)
  · have h := h.2 c2
    refine lv_iconst (pc := 71) S.1 S.2.1 (v := 0) dX3_hasPiecesAt_71 (by decide) ?_
    exact tRz S hr hlk hP hS (Or.inl rfl) h dX3_hasPiecesAt_72
set_option maxHeartbeats 4000000 in
set_option maxRecDepth 100000 in
theorem wk_X3_hasPiecesAt_15 {p : Program} {l : Launch} {e : Env} {s : State} {m : MethodId} {args : Array Value} {below : List Frame} {meth : Method} {c : Code} {dC : Nat → ClassId} {dI : Nat → Nat → Nat} {a : Nat → Nat} {ca : Nat → ClassId} {tb : Nat → Nat} {w0 : Cond} (S : CallFix p m c cX3_hasPiecesAt 7 s args (w0 :: tWALL) RX3) (hr : meth.sig.returnType = (some .boolean)) (hlk : meth.locks = false) (E : tEnv 47 dC dI a ca tb s) (post : Int32 → tSt → Prop) (k62 : Int32 → Int32 → Int32 → Int32 → tSt → Prop) (hk62 : ∀ (x2 : Int32) (x3 : Int32) (x4 : Int32) (x5 : Int32) (st : tSt), k62 x2 x3 x4 x5 st → tAt p l e rmX3_hasPiecesAt s m args below meth c (dC, dI) (cwC a ca) (tA 47 a s.heap.size) (tQi (cwC a ca) 47 dC dI a args below s post) 7 62 [(0, .ref (a 13)), (1, .ref (a 37)), (2, .int x2), (3, .int x3), (4, .int x4), (5, .int x5)] [] st) : ∀ (n : Nat) (x2 : Int32) (x3 : Int32) (x4 : Int32) (x5 : Int32) (x6 : Int32) (st : tSt), wp_Plan_hasPiecesAt_15 post k62 n x2 x3 x4 x5 x6 st → tAt p l e rmX3_hasPiecesAt s m args below meth c (dC, dI) (cwC a ca) (tA 47 a s.heap.size) (tQi (cwC a ca) 47 dC dI a args below s post) 7 15 [(0, .ref (a 13)), (1, .ref (a 37)), (2, .int x2), (3, .int x3), (4, .int x4), (5, .int x5), (6, .int x6)] [] st := by
  intro n
  induction n with
  | zero => intro x2 x3 x4 x5 x6 st h; exact absurd h id
  | succ n ih =>
    intro x2 x3 x4 x5 x6 st h H locs ls hP hS hl
    refine lv_iload (pc := 15) S.1 S.2.1 dX3_hasPiecesAt_15 (lv_at hl 6 rfl) ?_
    refine lv_bipush (pc := 17) S.1 S.2.1 (v := 6) dX3_hasPiecesAt_17 (by decide) ?_
    refine lv_icmp_ge (pc := 19) (tgt := 62) S.1 S.2.1 dX3_hasPiecesAt_19 (by decide) (fun c1 => ?_) (fun c1 => ?_)
    · have h := h.1 c1
      exact hk62 x2 x3 x4 x5 st h _ _ _ hP hS (lv_sub hl [0, 1, 2, 3, 4, 5] rfl)
    · have h := h.2 c1
      refine lv_iload_n (pc := 22) S.1 S.2.1 dX3_hasPiecesAt_22 rfl (lv_at hl 2 rfl) ?_
      refine lv_iload (pc := 23) S.1 S.2.1 dX3_hasPiecesAt_23 (lv_at hl 6 rfl) ?_
      refine tGi hS (tRunSN (pc := 25) (As := [.int x2, .int x6]) (rest := []) S E hP hS (mt_X7_hasBit l dC dI a ca tb _ x2 x6 st _ h) (cw_X7_hasBit ⟨Nat.le_of_ble_eq_true rfl, Nat.le_of_ble_eq_true rfl⟩) kw_164 kw_49 rfl hl.1 rfl (Nat.le_of_ble_eq_true rfl) dX3_hasPiecesAt_25) (fun r2 st1 H locs h hP hS => ?_)
      refine lv_if_eq (pc := 28) (tgt := 56) S.1 S.2.1 dX3_hasPiecesAt_28 (by decide) (fun c2 => ?_) (fun c2 => ?_)
      · have h := h.1 c2
        exact (fun x2 x3 x4 x5 x6 st h => wk_X3_hasPiecesAt_56 S hr hlk E post (wp_Plan_hasPiecesAt_15 post k62 n) ih k62 hk62 x2 x3 x4 x5 x6 st h) x2 x3 x4 x5 x6 st1 h _ _ _ hP hS (lv_sub hl [0, 1, 2, 3, 4, 5, 6] rfl)
      · have h := h.2 c2
        refine lv_aload_n (pc := 31) S.1 S.2.1 dX3_hasPiecesAt_31 rfl (lv_at hl 0 rfl) ?_
        refine lv_iload (pc := 32) S.1 S.2.1 dX3_hasPiecesAt_32 (lv_at hl 6 rfl) ?_
        obtain ⟨hn3, h⟩ := h
        refine tp_aald (pc := 34) S E.1 hP 13 2 (cC_callsA a ca st1) rfl (j := x6.toNatClampNeg) (d := a (14 + x6.toNatClampNeg)) rfl rfl hn3 dX3_hasPiecesAt_34 ?_
        have hj4 := t_lt hn3
        refine lv_iload_n (pc := 35) S.1 S.2.1 dX3_hasPiecesAt_35 rfl (lv_at hl 3 rfl) ?_
        refine tGi hS (tRunV (pc := 36) (As := [.int x3]) (rest := []) S E hP hS (mt_X0_isOnAt l dC dI a ca tb _ hj4 x3 st1 _ h) (cw_X0_isOnAt ⟨Nat.le_of_ble_eq_true rfl, Nat.le_of_ble_eq_true rfl⟩) kw_180 kw_181 kw_182 (14 + x6.toNatClampNeg) 0 rfl rfl (cC_call a ca st1 hj4) rfl hl.1 rfl (Nat.le_of_ble_eq_true rfl) dX3_hasPiecesAt_36) (fun r4 st3 H locs h hP hS => ?_)
        refine lv_if_eq (pc := 39) (tgt := 56) S.1 S.2.1 dX3_hasPiecesAt_39 (by decide) (fun c5 => ?_) (fun c5 => ?_)
        · have h := h.1 c5
          exact (fun x2 x3 x4 x5 x6 st h => wk_X3_hasPiecesAt_56 S hr hlk E post (wp_Plan_hasPiecesAt_15 post k62 n) ih k62 hk62 x2 x3 x4 x5 x6 st h) x2 x3 x4 x5 x6 st3 h _ _ _ hP hS (lv_sub hl [0, 1, 2, 3, 4, 5, 6] rfl)
        · have h := h.2 c5
          refine lv_iload (pc := 42) S.1 S.2.1 dX3_hasPiecesAt_42 (lv_at hl 5 rfl) ?_
          refine lv_aload_n (pc := 44) S.1 S.2.1 dX3_hasPiecesAt_44 rfl (lv_at hl 0 rfl) ?_
          refine lv_iload (pc := 45) S.1 S.2.1 dX3_hasPiecesAt_45 (lv_at hl 6 rfl) ?_
          obtain ⟨hn6, h⟩ := h
          refine tp_aald (pc := 47) S E.1 hP 13 2 (cC_callsA a ca st3) rfl (j := x6.toNatClampNeg) (d := a (14 + x6.toNatClampNeg)) rfl rfl hn6 dX3_hasPiecesAt_47 ?_
          refine lv_iload (pc := 48) S.1 S.2.1 dX3_hasPiecesAt_48 (lv_at hl 4 rfl) ?_
          refine tGi hS (tRunV (pc := 50) (As := [.int x4]) (rest := [.int x5]) S E hP hS (mt_X0_partsWith l dC dI a ca tb _ hj4 x4 st3 _ h) (cw_X0_partsWith ⟨Nat.le_of_ble_eq_true rfl, Nat.le_of_ble_eq_true rfl⟩) kw_183 kw_184 kw_185 (14 + x6.toNatClampNeg) 0 rfl rfl (cC_call a ca st3 hj4) rfl hl.1 rfl (Nat.le_of_ble_eq_true rfl) dX3_hasPiecesAt_50) (fun r6 st5 H locs h hP hS => ?_)
          refine lv_iadd (pc := 53) S.1 S.2.1 dX3_hasPiecesAt_53 ?_
          refine lv_topi (fun y5_7 e7 => ?_)
          have h := h y5_7 e7
          refine lv_istore (pc := 54) S.1 S.2.1 (lv' := [(5, .int y5_7), (0, .ref (a 13)), (1, .ref (a 37)), (2, .int x2), (3, .int x3), (4, .int x4), (6, .int x6)]) dX3_hasPiecesAt_54 hl (by decide) rfl (fun ls hl => ?_)
          exact (fun x2 x3 x4 x5 x6 st h => wk_X3_hasPiecesAt_56 S hr hlk E post (wp_Plan_hasPiecesAt_15 post k62 n) ih k62 hk62 x2 x3 x4 x5 x6 st h) x2 x3 x4 y5_7 x6 st5 h _ _ _ hP hS (lv_sub hl [1, 2, 3, 4, 5, 0, 6] rfl)
set_option maxHeartbeats 4000000 in
set_option maxRecDepth 100000 in
theorem wk_X3_hasPiecesAt_3 {p : Program} {l : Launch} {e : Env} {s : State} {m : MethodId} {args : Array Value} {below : List Frame} {meth : Method} {c : Code} {dC : Nat → ClassId} {dI : Nat → Nat → Nat} {a : Nat → Nat} {ca : Nat → ClassId} {tb : Nat → Nat} {w0 : Cond} (S : CallFix p m c cX3_hasPiecesAt 7 s args (w0 :: tWALL) RX3) (hr : meth.sig.returnType = (some .boolean)) (hlk : meth.locks = false) (E : tEnv 47 dC dI a ca tb s) (post : Int32 → tSt → Prop) : ∀ (n : Nat) (x2 : Int32) (x3 : Int32) (x4 : Int32) (st : tSt), wp_Plan_hasPiecesAt_3 post n x2 x3 x4 st → tAt p l e rmX3_hasPiecesAt s m args below meth c (dC, dI) (cwC a ca) (tA 47 a s.heap.size) (tQi (cwC a ca) 47 dC dI a args below s post) 7 3 [(0, .ref (a 13)), (1, .ref (a 37)), (2, .int x2), (3, .int x3), (4, .int x4)] [] st := by
  intro n
  induction n with
  | zero => intro x2 x3 x4 st h; exact absurd h id
  | succ n ih =>
    intro x2 x3 x4 st h H locs ls hP hS hl
    refine lv_iload (pc := 3) S.1 S.2.1 dX3_hasPiecesAt_3 (lv_at hl 4 rfl) ?_
    refine lv_iconst (pc := 5) S.1 S.2.1 (v := 5) dX3_hasPiecesAt_5 (by decide) ?_
    refine lv_icmp_ge (pc := 6) (tgt := 79) S.1 S.2.1 dX3_hasPiecesAt_6 (by decide) (fun c1 => ?_) (fun c1 => ?_)
    · have h := h.1 c1
      refine lv_iconst (pc := 79) S.1 S.2.1 (v := 1) dX3_hasPiecesAt_79 (by decide) ?_
      exact tRz S hr hlk hP hS (Or.inr rfl) h dX3_hasPiecesAt_80
    · have h := h.2 c1
      refine lv_iconst (pc := 9) S.1 S.2.1 (v := 0) dX3_hasPiecesAt_9 (by decide) ?_
      refine lv_istore (pc := 10) S.1 S.2.1 (lv' := [(5, .int (0 : Int32)), (0, .ref (a 13)), (1, .ref (a 37)), (2, .int x2), (3, .int x3), (4, .int x4)]) dX3_hasPiecesAt_10 hl (by decide) rfl (fun ls hl => ?_)
      refine lv_iconst (pc := 12) S.1 S.2.1 (v := 0) dX3_hasPiecesAt_12 (by decide) ?_
      refine lv_istore (pc := 13) S.1 S.2.1 (lv' := [(6, .int (0 : Int32)), (5, .int (0 : Int32)), (0, .ref (a 13)), (1, .ref (a 37)), (2, .int x2), (3, .int x3), (4, .int x4)]) dX3_hasPiecesAt_13 hl (by decide) rfl (fun ls hl => ?_)
      exact (fun x2 x3 x4 x5 x6 st h => Exists.elim h (fun q h => wk_X3_hasPiecesAt_15 S hr hlk E post (wp_Plan_hasPiecesAt_62 post (wp_Plan_hasPiecesAt_3 post n)) (fun x2 x3 x4 x5 st h => wk_X3_hasPiecesAt_62 S hr hlk E post (wp_Plan_hasPiecesAt_3 post n) ih x2 x3 x4 x5 st h) q x2 x3 x4 x5 x6 st h)) x2 x3 x4 (0 : Int32) (0 : Int32) st h _ _ _ hP hS (lv_sub hl [2, 3, 4, 5, 6, 1, 0] rfl)
set_option maxHeartbeats 4000000 in
set_option maxRecDepth 100000 in
theorem mt_X3_hasPiecesAt (l : Launch) (dC : Nat → ClassId) (dI : Nat → Nat → Nat) (a : Nat → Nat) (ca : Nat → ClassId) (tb : Nat → Nat) (sz : Nat) (x2 : Int32) (x3 : Int32) (st : tSt) (post : Int32 → tSt → Prop) (h : wp_Plan_hasPiecesAt x2 x3 st post) : Met l yX3_hasPiecesAt (.code yX3_hasPiecesAt cX3_hasPiecesAt 7 (some .boolean) :: tWALL) rmX3_hasPiecesAt (va_Pc [.ref (a 13), .ref (a 37), .int x2, .int x3] (tPre 47 (cwC a ca) dC dI a ca tb sz st)) (va_Qi post (tB (cwC a ca) dC dI) (tA 47 a sz)) 0 0 (tA 47 a sz) := by
  refine tp_met (by decide) (Nat.le_of_ble_eq_true rfl) ?_
  intro p e s m below meth c ls S hr hlk hsz E hP hl
  subst hsz
  have S : CallFix p m c cX3_hasPiecesAt 7 s _ (.code yX3_hasPiecesAt cX3_hasPiecesAt 7 (some .boolean) :: tWALL) RX3 := S
  have hl : lv_has ls 7 [(0, .ref (a 13)), (1, .ref (a 37)), (2, .int x2), (3, .int x3)] := hl
  have hS : va_S (tA 47 a s.heap.size) s.heap s.heap [] := va_S.rf
  show W p l e _ s m _ below meth c s.heap [] 0 0 (tQi (cwC a ca) 47 dC dI a ([.ref (a 13), .ref (a 37), .int x2, .int x3] : List Value).toArray below s post) (F0 m 0 ls [])
  refine lv_iconst (pc := 0) S.1 S.2.1 (v := 0) dX3_hasPiecesAt_0 (by decide) ?_
  refine lv_istore (pc := 1) S.1 S.2.1 (lv' := [(4, .int (0 : Int32)), (0, .ref (a 13)), (1, .ref (a 37)), (2, .int x2), (3, .int x3)]) dX3_hasPiecesAt_1 hl (by decide) rfl (fun ls hl => ?_)
  exact (fun x2 x3 x4 st h => Exists.elim h (fun q h => wk_X3_hasPiecesAt_3 S hr hlk E post  q x2 x3 x4 st h)) x2 x3 (0 : Int32) st h _ _ _ hP hS (lv_sub hl [1, 2, 3, 4, 0] rfl)

abbrev rmX3_hasPieces : Room := { frames := 3, cells := 0, slots := 0, locals := 67 }
theorem cw_X3_hasPieces {R : Room} {own : String} {index : Nat} (h : rmX3_hasPieces.frames + 1 ≤ R.frames ∧ 8 + (6 + 11) + rmX3_hasPieces.locals ≤ R.locals) : tCw R own index yX3_hasPieces cX3_hasPieces 6 (some .boolean) rmX3_hasPieces 3 := ⟨kw_190, kw_161, ⟨rfl, rfl, h.1, h.2⟩, by decide +kernel, by decide +kernel, by decide +kernel⟩
set_option maxHeartbeats 4000000 in
set_option maxRecDepth 100000 in
theorem wk_X3_hasPieces_50 {p : Program} {l : Launch} {e : Env} {s : State} {m : MethodId} {args : Array Value} {below : List Frame} {meth : Method} {c : Code} {dC : Nat → ClassId} {dI : Nat → Nat → Nat} {a : Nat → Nat} {ca : Nat → ClassId} {tb : Nat → Nat} {w0 : Cond} (S : CallFix p m c cX3_hasPieces 6 s args (w0 :: tWALL) RX3) (hr : meth.sig.returnType = (some .boolean)) (hlk : meth.locks = false) (E : tEnv 47 dC dI a ca tb s) (post : Int32 → tSt → Prop) (k13 : Int32 → Int32 → tSt → Prop) (hk13 : ∀ (x4 : Int32) (x5 : Int32) (st : tSt), k13 x4 x5 st → tAt p l e rmX3_hasPieces s m args below meth c (dC, dI) (cwC a ca) (tA 47 a s.heap.size) (tQi (cwC a ca) 47 dC dI a args below s post) 6 13 [(1, .ref (a 13)), (2, .ref (a 37)), (4, .int x4), (5, .int x5)] [] st) : ∀ (x4 : Int32) (x5 : Int32) (st : tSt), wp_Plan_hasPieces_50 post k13 x4 x5 st → tAt p l e rmX3_hasPieces s m args below meth c (dC, dI) (cwC a ca) (tA 47 a s.heap.size) (tQi (cwC a ca) 47 dC dI a args below s post) 6 50 [(1, .ref (a 13)), (2, .ref (a 37)), (4, .int x4), (5, .int x5)] [] st := by
  intro x4 x5 st h H locs ls hP hS hl
  obtain ⟨y5_1, e1⟩ : ∃ y : Int32, y = x5 + 1 := ⟨_, rfl⟩
  have h := h y5_1 e1
  refine lv_iinc (pc := 50) S.1 S.2.1 (v := y5_1) (lv' := [(5, .int y5_1), (1, .ref (a 13)), (2, .ref (a 37)), (4, .int x4)]) dX3_hasPieces_50 hl (k := 3) rfl (by rw [e1]; rfl) (by decide) rfl (fun ls hl => ?_)
  refine lv_goto (pc := 53) S.1 S.2.1 (tgt := 13) dX3_hasPieces_53 (by decide) ?_
  exact hk13 x4 y5_1 st h _ _ _ hP hS (lv_sub hl [1, 2, 3, 0] rfl)
set_option maxHeartbeats 4000000 in
set_option maxRecDepth 100000 in
theorem wk_X3_hasPieces_13 {p : Program} {l : Launch} {e : Env} {s : State} {m : MethodId} {args : Array Value} {below : List Frame} {meth : Method} {c : Code} {dC : Nat → ClassId} {dI : Nat → Nat → Nat} {a : Nat → Nat} {ca : Nat → ClassId} {tb : Nat → Nat} {w0 : Cond} (S : CallFix p m c cX3_hasPieces 6 s args (w0 :: tWALL) RX3) (hr : meth.sig.returnType = (some .boolean)) (hlk : meth.locks = false) (E : tEnv 47 dC dI a ca tb s) (post : Int32 → tSt → Prop) : ∀ (n : Nat) (x4 : Int32) (x5 : Int32) (st : tSt), wp_Plan_hasPieces_13 post n x4 x5 st → tAt p l e rmX3_hasPieces s m args below meth c (dC, dI) (cwC a ca) (tA 47 a s.heap.size) (tQi (cwC a ca) 47 dC dI a args below s post) 6 13 [(1, .ref (a 13)), (2, .ref (a 37)), (4, .int x4), (5, .int x5)] [] st := by
  intro n
  induction n with
  | zero => intro x4 x5 st h; exact absurd h id
  | succ n ih =>
    intro x4 x5 st h H locs ls hP hS hl
    refine lv_iload (pc := 13) S.1 S.2.1 dX3_hasPieces_13 (lv_at hl 3 rfl) ?_
    refine lv_bipush (pc := 15) S.1 S.2.1 (v := 6) dX3_hasPieces_15 (by decide) ?_
    refine lv_icmp_ge (pc := 17) (tgt := 56) S.1 S.2.1 dX3_hasPieces_17 (by decide) (fun c1 => ?_) (fun c1 => ?_)
    · have h := h.1 c1
      refine lv_iconst (pc := 56) S.1 S.2.1 (v := 1) dX3_hasPieces_56 (by decide) ?_
      exact tRz S hr hlk hP hS (Or.inr rfl) h dX3_hasPieces_57
    · have h := h.2 c1
      refine lv_iload (pc := 20) S.1 S.2.1 dX3_hasPieces_20 (lv_at hl 2 rfl) ?_
      refine lv_iload (pc := 22) S.1 S.2.1 dX3_hasPieces_22 (lv_at hl 3 rfl) ?_
      refine tGi hS (tRunSN (pc := 24) (As := [.int x4, .int x5]) (rest := []) S E hP hS (mt_X7_hasBit l dC dI a ca tb _ x4 x5 st _ h) (cw_X7_hasBit ⟨Nat.le_of_ble_eq_true rfl, Nat.le_of_ble_eq_true rfl⟩) kw_164 kw_49 rfl hl.1 rfl (Nat.le_of_ble_eq_true rfl) dX3_hasPieces_24) (fun r2 st1 H locs h hP hS => ?_)
      refine lv_if_eq (pc := 27) (tgt := 50) S.1 S.2.1 dX3_hasPieces_27 (by decide) (fun c2 => ?_) (fun c2 => ?_)
      · have h := h.1 c2
        exact (fun x4 x5 st h => wk_X3_hasPieces_50 S hr hlk E post (wp_Plan_hasPieces_13 post n) ih x4 x5 st h) x4 x5 st1 h _ _ _ hP hS (lv_sub hl [0, 1, 2, 3] rfl)
      · have h := h.2 c2
        refine lv_aload_n (pc := 30) S.1 S.2.1 dX3_hasPieces_30 rfl (lv_at hl 0 rfl) ?_
        refine lv_aload_n (pc := 31) S.1 S.2.1 dX3_hasPieces_31 rfl (lv_at hl 1 rfl) ?_
        refine lv_iload (pc := 32) S.1 S.2.1 dX3_hasPieces_32 (lv_at hl 2 rfl) ?_
        refine lv_aload_n (pc := 34) S.1 S.2.1 dX3_hasPieces_34 rfl (lv_at hl 0 rfl) ?_
        refine lv_iload (pc := 35) S.1 S.2.1 dX3_hasPieces_35 (lv_at hl 3 rfl) ?_
        obtain ⟨hn3, h⟩ := h
        refine tp_aald (pc := 37) S E.1 hP 13 2 (cC_callsA a ca st1) rfl (j := x5.toNatClampNeg) (d := a (14 + x5.toNatClampNeg)) rfl rfl hn3 dX3_hasPieces_37 ?_
        have hj4 := t_lt hn3
        refine lv_iconst (pc := 38) S.1 S.2.1 (v := 1) dX3_hasPieces_38 (by decide) ?_
        refine tGi hS (tRunV (pc := 39) (As := [.int (1 : Int32)]) (rest := [.int x4, .ref (a 37), .ref (a 13)]) S E hP hS (mt_X0_fact l dC dI a ca tb _ hj4 (1 : Int32) st1 _ h) (cw_X0_fact ⟨Nat.le_of_ble_eq_true rfl, Nat.le_of_ble_eq_true rfl⟩) kw_187 kw_146 kw_147 (14 + x5.toNatClampNeg) 0 rfl rfl (cC_call a ca st1 hj4) rfl hl.1 rfl (Nat.le_of_ble_eq_true rfl) dX3_hasPieces_39) (fun r4 st3 H locs h hP hS => ?_)
        refine tGi hS (tRunS (pc := 42) (As := [.ref (a 13), .ref (a 37), .int x4, .int r4]) (rest := []) S E hP hS (mt_X3_hasPiecesAt l dC dI a ca tb _ x4 r4 st3 _ h) (cw_X3_hasPiecesAt ⟨Nat.le_of_ble_eq_true rfl, Nat.le_of_ble_eq_true rfl⟩) kw_189 kw_188 rfl hl.1 rfl (Nat.le_of_ble_eq_true rfl) dX3_hasPieces_42) (fun r6 st5 H locs h hP hS => ?_)
        refine lv_if_ne (pc := 45) (tgt := 50) S.1 S.2.1 dX3_hasPieces_45 (by decide) (fun c5 => ?_) (fun c5 => ?_)
        · have h := h.2 c5
          exact (fun x4 x5 st h => wk_X3_hasPieces_50 S hr hlk E post (wp_Plan_hasPieces_13 post n) ih x4 x5 st h) x4 x5 st5 h _ _ _ hP hS (lv_sub hl [0, 1, 2, 3] rfl)
        · have h := h.1 c5
          refine lv_iconst (pc := 48) S.1 S.2.1 (v := 0) dX3_hasPieces_48 (by decide) ?_
          exact tRz S hr hlk hP hS (Or.inl rfl) h dX3_hasPieces_49
set_option maxHeartbeats 4000000 in
set_option maxRecDepth 100000 in
theorem mt_X3_hasPieces (l : Launch) (dC : Nat → ClassId) (dI : Nat → Nat → Nat) (a : Nat → Nat) (ca : Nat → ClassId) (tb : Nat → Nat) (sz : Nat) (x3 : Int32) (st : tSt) (post : Int32 → tSt → Prop) (h : wp_Plan_hasPieces x3 st post) : Met l yX3_hasPieces (.code yX3_hasPieces cX3_hasPieces 6 (some .boolean) :: tWALL) rmX3_hasPieces (va_Pc [.ref (a 39), .ref (a 13), .ref (a 37), .int x3] (tPre 47 (cwC a ca) dC dI a ca tb sz st)) (va_Qi post (tB (cwC a ca) dC dI) (tA 47 a sz)) 0 0 (tA 47 a sz) := by
  refine tp_met (by decide) (Nat.le_of_ble_eq_true rfl) ?_
  intro p e s m below meth c ls S hr hlk hsz E hP hl
  subst hsz
  have S : CallFix p m c cX3_hasPieces 6 s _ (.code yX3_hasPieces cX3_hasPieces 6 (some .boolean) :: tWALL) RX3 := S
  have hl : lv_has ls 6 [(0, .ref (a 39)), (1, .ref (a 13)), (2, .ref (a 37)), (3, .int x3)] := hl
  have hS : va_S (tA 47 a s.heap.size) s.heap s.heap [] := va_S.rf
  show W p l e _ s m _ below meth c s.heap [] 0 0 (tQi (cwC a ca) 47 dC dI a ([.ref (a 39), .ref (a 13), .ref (a 37), .int x3] : List Value).toArray below s post) (F0 m 0 ls [])
  refine lv_aload_n (pc := 0) S.1 S.2.1 dX3_hasPieces_0 rfl (lv_at hl 0 rfl) ?_
  refine tp_get (pc := 1) S E.1 hP iwX3 39 (cC_plan a ca st) rfl 3 (by decide) kw_160 (v := .int (st 26 0)) rfl dX3_hasPieces_1 ?_
  refine lv_iconst (pc := 4) S.1 S.2.1 (v := 1) dX3_hasPieces_4 (by decide) ?_
  refine lv_iload_n (pc := 5) S.1 S.2.1 dX3_hasPieces_5 rfl (lv_at hl 3 rfl) ?_
  refine lv_ishl (pc := 6) S.1 S.2.1 dX3_hasPieces_6 ?_
  refine lv_ior (pc := 7) S.1 S.2.1 dX3_hasPieces_7 ?_
  refine lv_topi (fun y4_1 e1 => ?_)
  have h := h y4_1 e1
  refine lv_istore (pc := 8) S.1 S.2.1 (lv' := [(4, .int y4_1), (0, .ref (a 39)), (1, .ref (a 13)), (2, .ref (a 37)), (3, .int x3)]) dX3_hasPieces_8 hl (by decide) rfl (fun ls hl => ?_)
  refine lv_iconst (pc := 10) S.1 S.2.1 (v := 0) dX3_hasPieces_10 (by decide) ?_
  refine lv_istore (pc := 11) S.1 S.2.1 (lv' := [(5, .int (0 : Int32)), (4, .int y4_1), (0, .ref (a 39)), (1, .ref (a 13)), (2, .ref (a 37)), (3, .int x3)]) dX3_hasPieces_11 hl (by decide) rfl (fun ls hl => ?_)
  exact (fun x4 x5 st h => Exists.elim h (fun q h => wk_X3_hasPieces_13 S hr hlk E post  q x4 x5 st h)) y4_1 (0 : Int32) st h _ _ _ hP hS (lv_sub hl [3, 4, 1, 0] rfl)

abbrev rmX3_castCalls : Room := { frames := 32, cells := 0, slots := 0, locals := 926 }
theorem cw_X3_castCalls {R : Room} {own : String} {index : Nat} (h : rmX3_castCalls.frames + 1 ≤ R.frames ∧ 8 + (7 + 11) + rmX3_castCalls.locals ≤ R.locals) : tCw R own index yX3_castCalls cX3_castCalls 7 none rmX3_castCalls 4 := ⟨kw_206, kw_161, ⟨rfl, rfl, h.1, h.2⟩, by decide +kernel, by decide +kernel, by decide +kernel⟩
set_option maxHeartbeats 4000000 in
set_option maxRecDepth 100000 in
theorem wk_X3_castCalls_83 {p : Program} {l : Launch} {e : Env} {s : State} {m : MethodId} {args : Array Value} {below : List Frame} {meth : Method} {c : Code} {dC : Nat → ClassId} {dI : Nat → Nat → Nat} {a : Nat → Nat} {ca : Nat → ClassId} {tb : Nat → Nat} {w0 : Cond} (S : CallFix p m c cX3_castCalls 7 s args (w0 :: tWALL) RX3) (hr : meth.sig.returnType = none) (hlk : meth.locks = false) (E : tEnv 47 dC dI a ca tb s) (post : tSt → Prop) (k24 : Int32 → Int32 → Int32 → tSt → Prop) (hk24 : ∀ (x4 : Int32) (x5 : Int32) (x6 : Int32) (st : tSt), k24 x4 x5 x6 st → tAt p l e rmX3_castCalls s m args below meth c (dC, dI) (cwC a ca) (tA 47 a s.heap.size) (tQv (cwC a ca) 47 dC dI a args below s post) 7 24 [(0, .ref (a 39)), (1, .ref (a 13)), (2, .ref (a 6)), (3, .ref (a 37)), (4, .int x4), (5, .int x5), (6, .int x6)] [] st) (k89 : Int32 → Int32 → tSt → Prop) (hk89 : ∀ (x4 : Int32) (x5 : Int32) (st : tSt), k89 x4 x5 st → tAt p l e rmX3_castCalls s m args below meth c (dC, dI) (cwC a ca) (tA 47 a s.heap.size) (tQv (cwC a ca) 47 dC dI a args below s post) 7 89 [(0, .ref (a 39)), (1, .ref (a 13)), (2, .ref (a 6)), (3, .ref (a 37)), (4, .int x4), (5, .int x5)] [] st) : ∀ (x4 : Int32) (x5 : Int32) (x6 : Int32) (st : tSt), wp_Plan_castCalls_83 post k24 k89 x4 x5 x6 st → tAt p l e rmX3_castCalls s m args below meth c (dC, dI) (cwC a ca) (tA 47 a s.heap.size) (tQv (cwC a ca) 47 dC dI a args below s post) 7 83 [(0, .ref (a 39)), (1, .ref (a 13)), (2, .ref (a 6)), (3, .ref (a 37)), (4, .int x4), (5, .int x5), (6, .int x6)] [] st := by
  intro x4 x5 x6 st h H locs ls hP hS hl
  obtain ⟨y6_1, e1⟩ : ∃ y : Int32, y = x6 + 1 := ⟨_, rfl⟩
  have h := h y6_1 e1
  refine lv_iinc (pc := 83) S.1 S.2.1 (v := y6_1) (lv' := [(6, .int y6_1), (0, .ref (a 39)), (1, .ref (a 13)), (2, .ref (a 6)), (3, .ref (a 37)), (4, .int x4), (5, .int x5)]) dX3_castCalls_83 hl (k := 6) rfl (by rw [e1]; rfl) (by decide) rfl (fun ls hl => ?_)
  refine lv_goto (pc := 86) S.1 S.2.1 (tgt := 24) dX3_castCalls_86 (by decide) ?_
  exact hk24 x4 x5 y6_1 st h _ _ _ hP hS (lv_sub hl [1, 2, 3, 4, 5, 6, 0] rfl)
set_option maxHeartbeats 4000000 in
set_option maxRecDepth 100000 in
theorem wk_X3_castCalls_89 {p : Program} {l : Launch} {e : Env} {s : State} {m : MethodId} {args : Array Value} {below : List Frame} {meth : Method} {c : Code} {dC : Nat → ClassId} {dI : Nat → Nat → Nat} {a : Nat → Nat} {ca : Nat → ClassId} {tb : Nat → Nat} {w0 : Cond} (S : CallFix p m c cX3_castCalls 7 s args (w0 :: tWALL) RX3) (hr : meth.sig.returnType = none) (hlk : meth.locks = false) (E : tEnv 47 dC dI a ca tb s) (post : tSt → Prop) (k15 : Int32 → Int32 → tSt → Prop) (hk15 : ∀ (x4 : Int32) (x5 : Int32) (st : tSt), k15 x4 x5 st → tAt p l e rmX3_castCalls s m args below meth c (dC, dI) (cwC a ca) (tA 47 a s.heap.size) (tQv (cwC a ca) 47 dC dI a args below s post) 7 15 [(0, .ref (a 39)), (1, .ref (a 13)), (2, .ref (a 6)), (3, .ref (a 37)), (4, .int x4), (5, .int x5)] [] st) (k95 : tSt → Prop) (hk95 : ∀  (st : tSt), k95  st → tAt p l e rmX3_castCalls s m args below meth c (dC, dI) (cwC a ca) (tA 47 a s.heap.size) (tQv (cwC a ca) 47 dC dI a args below s post) 7 95 [(0, .ref (a 39))] [] st) : ∀ (x4 : Int32) (x5 : Int32) (st : tSt), wp_Plan_castCalls_89 post k15 k95 x4 x5 st → tAt p l e rmX3_castCalls s m args below meth c (dC, dI) (cwC a ca) (tA 47 a s.heap.size) (tQv (cwC a ca) 47 dC dI a args below s post) 7 89 [(0, .ref (a 39)), (1, .ref (a 13)), (2, .ref (a 6)), (3, .ref (a 37)), (4, .int x4), (5, .int x5)] [] st := by
  intro x4 x5 st h H locs ls hP hS hl
  obtain ⟨y5_1, e1⟩ : ∃ y : Int32, y = x5 + 1 := ⟨_, rfl⟩
  have h := h y5_1 e1
  refine lv_iinc (pc := 89) S.1 S.2.1 (v := y5_1) (lv' := [(5, .int y5_1), (0, .ref (a 39)), (1, .ref (a 13)), (2, .ref (a 6)), (3, .ref (a 37)), (4, .int x4)]) dX3_castCalls_89 hl (k := 5) rfl (by rw [e1]; rfl) (by decide) rfl (fun ls hl => ?_)
  refine lv_goto (pc := 92) S.1 S.2.1 (tgt := 15) dX3_castCalls_92 (by decide) ?_
  exact hk15 x4 y5_1 st h _ _ _ hP hS (lv_sub hl [1, 2, 3, 4, 5, 0] rfl)
set_option maxHeartbeats 4000000 in
set_option maxRecDepth 100000 in
theorem wk_X3_castCalls_24 {p : Program} {l : Launch} {e : Env} {s : State} {m : MethodId} {args : Array Value} {below : List Frame} {meth : Method} {c : Code} {dC : Nat → ClassId} {dI : Nat → Nat → Nat} {a : Nat → Nat} {ca : Nat → ClassId} {tb : Nat → Nat} {w0 : Cond} (S : CallFix p m c cX3_castCalls 7 s args (w0 :: tWALL) RX3) (hr : meth.sig.returnType = none) (hlk : meth.locks = false) (E : tEnv 47 dC dI a ca tb s) (post : tSt → Prop) (k89 : Int32 → Int32 → tSt → Prop) (hk89 : ∀ (x4 : Int32) (x5 : Int32) (st : tSt), k89 x4 x5 st → tAt p l e rmX3_castCalls s m args below meth c (dC, dI) (cwC a ca) (tA 47 a s.heap.size) (tQv (cwC a ca) 47 dC dI a args below s post) 7 89 [(0, .ref (a 39)), (1, .ref (a 13)), (2, .ref (a 6)), (3, .ref (a 37)), (4, .int x4), (5, .int x5)] [] st) : ∀ (n : Nat) (x4 : Int32) (x5 : Int32) (x6 : Int32) (st : tSt), wp_Plan_castCalls_24 post k89 n x4 x5 x6 st → tAt p l e rmX3_castCalls s m args below meth c (dC, dI) (cwC a ca) (tA 47 a s.heap.size) (tQv (cwC a ca) 47 dC dI a args below s post) 7 24 [(0, .ref (a 39)), (1, .ref (a 13)), (2, .ref (a 6)), (3, .ref (a 37)), (4, .int x4), (5, .int x5), (6, .int x6)] [] st := by
  intro n
  induction n with
  | zero => intro x4 x5 x6 st h; exact absurd h id
  | succ n ih =>
    intro x4 x5 x6 st h H locs ls hP hS hl
    refine lv_iload (pc := 24) S.1 S.2.1 dX3_castCalls_24 (lv_at hl 6 rfl) ?_
    refine lv_bipush (pc := 26) S.1 S.2.1 (v := 6) dX3_castCalls_26 (by decide) ?_
    refine lv_icmp_ge (pc := 28) (tgt := 89) S.1 S.2.1 dX3_castCalls_28 (by decide) (fun c1 => ?_) (fun c1 => ?_)
    · have h := h.1 c1
      exact hk89 x4 x5 st h _ _ _ hP hS (lv_sub hl [0, 1, 2, 3, 4, 5] rfl)
    · have h := h.2 c1
      refine lv_aload_n (pc := 31) S.1 S.2.1 dX3_castCalls_31 rfl (lv_at hl 1 rfl) ?_
      refine lv_iload (pc := 32) S.1 S.2.1 dX3_castCalls_32 (lv_at hl 6 rfl) ?_
      obtain ⟨hn2, h⟩ := h
      refine tp_aald (pc := 34) S E.1 hP 13 2 (cC_callsA a ca st) rfl (j := x6.toNatClampNeg) (d := a (14 + x6.toNatClampNeg)) rfl rfl hn2 dX3_castCalls_34 ?_
      have hj3 := t_lt hn2
      refine lv_iload (pc := 35) S.1 S.2.1 dX3_castCalls_35 (lv_at hl 5 rfl) ?_
      refine tGi hS (tRunV (pc := 37) (As := [.int x5]) (rest := []) S E hP hS (mt_X0_isOfOrder l dC dI a ca tb _ hj3 x5 st _ h) (cw_X0_isOfOrder ⟨Nat.le_of_ble_eq_true rfl, Nat.le_of_ble_eq_true rfl⟩) kw_191 kw_192 kw_193 (14 + x6.toNatClampNeg) 0 rfl rfl (cC_call a ca st hj3) rfl hl.1 rfl (Nat.le_of_ble_eq_true rfl) dX3_castCalls_37) (fun r2 st1 H locs h hP hS => ?_)
      refine lv_if_eq (pc := 40) (tgt := 83) S.1 S.2.1 dX3_castCalls_40 (by decide) (fun c4 => ?_) (fun c4 => ?_)
      · have h := h.1 c4
        exact (fun x4 x5 x6 st h => wk_X3_castCalls_83 S hr hlk E post (wp_Plan_castCalls_24 post k89 n) ih k89 hk89 x4 x5 x6 st h) x4 x5 x6 st1 h _ _ _ hP hS (lv_sub hl [0, 1, 2, 3, 4, 5, 6] rfl)
      · have h := h.2 c4
        refine lv_aload_n (pc := 43) S.1 S.2.1 dX3_castCalls_43 rfl (lv_at hl 0 rfl) ?_
        refine lv_aload_n (pc := 44) S.1 S.2.1 dX3_castCalls_44 rfl (lv_at hl 1 rfl) ?_
        refine lv_aload_n (pc := 45) S.1 S.2.1 dX3_castCalls_45 rfl (lv_at hl 3 rfl) ?_
        refine lv_iload (pc := 46) S.1 S.2.1 dX3_castCalls_46 (lv_at hl 6 rfl) ?_
        refine tGi hS (tRunV (pc := 48) (As := [.ref (a 13), .ref (a 37), .int x6]) (rest := []) S E hP hS (mt_X3_hasPieces l dC dI a ca tb _ x6 st1 _ h) (cw_X3_hasPieces ⟨Nat.le_of_ble_eq_true rfl, Nat.le_of_ble_eq_true rfl⟩) kw_194 kw_195 kw_196 39 3 rfl rfl (cC_plan a ca st1) rfl hl.1 rfl (Nat.le_of_ble_eq_true rfl) dX3_castCalls_48) (fun r4 st3 H locs h hP hS => ?_)
        refine lv_if_eq (pc := 51) (tgt := 83) S.1 S.2.1 dX3_castCalls_51 (by decide) (fun c5 => ?_) (fun c5 => ?_)
        · have h := h.1 c5
          exact (fun x4 x5 x6 st h => wk_X3_castCalls_83 S hr hlk E post (wp_Plan_castCalls_24 post k89 n) ih k89 hk89 x4 x5 x6 st h) x4 x5 x6 st3 h _ _ _ hP hS (lv_sub hl [0, 1, 2, 3, 4, 5, 6] rfl)
        · have h := h.2 c5
          refine lv_aload_n (pc := 54) S.1 S.2.1 dX3_castCalls_54 rfl (lv_at hl 0 rfl) ?_
          refine tp_get (pc := 55) S E.1 hP iwX3 39 (cC_plan a ca st3) rfl 0 (by decide) kw_166 (v := .ref (a 40)) rfl dX3_castCalls_55 ?_
          refine lv_aload_n (pc := 58) S.1 S.2.1 dX3_castCalls_58 rfl (lv_at hl 1 rfl) ?_
          refine lv_iload (pc := 59) S.1 S.2.1 dX3_castCalls_59 (lv_at hl 6 rfl) ?_
          refine lv_aload_n (pc := 61) S.1 S.2.1 dX3_castCalls_61 rfl (lv_at hl 2 rfl) ?_
          refine lv_iload (pc := 62) S.1 S.2.1 dX3_castCalls_62 (lv_at hl 4 rfl) ?_
          refine tGi hS (tRunV (pc := 64) (As := [.ref (a 13), .int x6, .ref (a 6), .int x4]) (rest := []) S E hP hS (mt_X1_admit l dC dI a ca tb _ x6 x4 st3 _ h) (cw_X1_admit ⟨Nat.le_of_ble_eq_true rfl, Nat.le_of_ble_eq_true rfl⟩) kw_197 kw_198 kw_199 40 1 rfl rfl (cC_cast a ca st3) rfl hl.1 rfl (Nat.le_of_ble_eq_true rfl) dX3_castCalls_64) (fun r6 st5 H locs h hP hS => ?_)
          refine lv_if_eq (pc := 67) (tgt := 83) S.1 S.2.1 dX3_castCalls_67 (by decide) (fun c6 => ?_) (fun c6 => ?_)
          · have h := h.1 c6
            exact (fun x4 x5 x6 st h => wk_X3_castCalls_83 S hr hlk E post (wp_Plan_castCalls_24 post k89 n) ih k89 hk89 x4 x5 x6 st h) x4 x5 x6 st5 h _ _ _ hP hS (lv_sub hl [0, 1, 2, 3, 4, 5, 6] rfl)
          · have h := h.2 c6
            refine lv_aload_n (pc := 70) S.1 S.2.1 dX3_castCalls_70 rfl (lv_at hl 0 rfl) ?_
            refine lv_dup (pc := 71) S.1 S.2.1 dX3_castCalls_71 rfl ?_
            refine tp_get (pc := 72) S E.1 hP iwX3 39 (cC_plan a ca st5) rfl 3 (by decide) kw_160 (v := .int (st5 26 0)) rfl dX3_castCalls_72 ?_
            refine lv_iconst (pc := 75) S.1 S.2.1 (v := 1) dX3_castCalls_75 (by decide) ?_
            refine lv_iload (pc := 76) S.1 S.2.1 dX3_castCalls_76 (lv_at hl 6 rfl) ?_
            refine lv_ishl (pc := 78) S.1 S.2.1 dX3_castCalls_78 ?_
            refine lv_ior (pc := 79) S.1 S.2.1 dX3_castCalls_79 ?_
            refine tp_put (pc := 80) S E.1 hP (cC_D E st5) hS iwX3 tyX3 tyX3_ok nmX3 39 (cC_plan a ca st5) rfl 3 (by decide) kw_160 rfl (v := .int ((st5 26 0) ||| ((1 : Int32) <<< (x6 &&& 31)))) (tyX3_ok 3 (by decide)) rfl rfl (Nat.le_of_ble_eq_true rfl) (sC_plan_bits a ca st5 _) dX3_castCalls_80 (fun st7 H locs e7 hP hS => ?_)
            have h := h st7 e7
            exact (fun x4 x5 x6 st h => wk_X3_castCalls_83 S hr hlk E post (wp_Plan_castCalls_24 post k89 n) ih k89 hk89 x4 x5 x6 st h) x4 x5 x6 st7 h _ _ _ hP hS (lv_sub hl [0, 1, 2, 3, 4, 5, 6] rfl)
set_option maxHeartbeats 4000000 in
set_option maxRecDepth 100000 in
theorem wk_X3_castCalls_95 {p : Program} {l : Launch} {e : Env} {s : State} {m : MethodId} {args : Array Value} {below : List Frame} {meth : Method} {c : Code} {dC : Nat → ClassId} {dI : Nat → Nat → Nat} {a : Nat → Nat} {ca : Nat → ClassId} {tb : Nat → Nat} {w0 : Cond} (S : CallFix p m c cX3_castCalls 7 s args (w0 :: tWALL) RX3) (hr : meth.sig.returnType = none) (hlk : meth.locks = false) (E : tEnv 47 dC dI a ca tb s) (post : tSt → Prop) : ∀  (st : tSt), wp_Plan_castCalls_95 post  st → tAt p l e rmX3_castCalls s m args below meth c (dC, dI) (cwC a ca) (tA 47 a s.heap.size) (tQv (cwC a ca) 47 dC dI a args below s post) 7 95 [(0, .ref (a 39))] [] st := by
  intro  st h H locs ls hP hS hl
  refine lv_aload_n (pc := 95) S.1 S.2.1 dX3_castCalls_95 rfl (lv_at hl 0 rfl) ?_
  refine tp_get (pc := 96) S E.1 hP iwX3 39 (cC_plan a ca st) rfl 0 (by decide) kw_166 (v := .ref (a 40)) rfl dX3_castCalls_96 ?_
  refine tGv hS (tRunV (pc := 99) (As := []) (rest := []) S E hP hS (mt_X1_lowerAll l dC dI a ca tb _  st _ h) (cw_X1_lowerAll ⟨Nat.le_of_ble_eq_true rfl, Nat.le_of_ble_eq_true rfl⟩) kw_200 kw_201 kw_202 40 1 rfl rfl (cC_cast a ca st) rfl hl.1 rfl (Nat.le_of_ble_eq_true rfl) dX3_castCalls_99) (fun st1 H locs h hP hS => ?_)
  exact tRv S hr hlk hP hS h dX3_castCalls_102
set_option maxHeartbeats 4000000 in
set_option maxRecDepth 100000 in
theorem wk_X3_castCalls_15 {p : Program} {l : Launch} {e : Env} {s : State} {m : MethodId} {args : Array Value} {below : List Frame} {meth : Method} {c : Code} {dC : Nat → ClassId} {dI : Nat → Nat → Nat} {a : Nat → Nat} {ca : Nat → ClassId} {tb : Nat → Nat} {w0 : Cond} (S : CallFix p m c cX3_castCalls 7 s args (w0 :: tWALL) RX3) (hr : meth.sig.returnType = none) (hlk : meth.locks = false) (E : tEnv 47 dC dI a ca tb s) (post : tSt → Prop) (k95 : tSt → Prop) (hk95 : ∀  (st : tSt), k95  st → tAt p l e rmX3_castCalls s m args below meth c (dC, dI) (cwC a ca) (tA 47 a s.heap.size) (tQv (cwC a ca) 47 dC dI a args below s post) 7 95 [(0, .ref (a 39))] [] st) : ∀ (n : Nat) (x4 : Int32) (x5 : Int32) (st : tSt), wp_Plan_castCalls_15 post k95 n x4 x5 st → tAt p l e rmX3_castCalls s m args below meth c (dC, dI) (cwC a ca) (tA 47 a s.heap.size) (tQv (cwC a ca) 47 dC dI a args below s post) 7 15 [(0, .ref (a 39)), (1, .ref (a 13)), (2, .ref (a 6)), (3, .ref (a 37)), (4, .int x4), (5, .int x5)] [] st := by
  intro n
  induction n with
  | zero => intro x4 x5 st h; exact absurd h id
  | succ n ih =>
    intro x4 x5 st h H locs ls hP hS hl
    refine lv_iload (pc := 15) S.1 S.2.1 dX3_castCalls_15 (lv_at hl 5 rfl) ?_
    refine lv_iconst (pc := 17) S.1 S.2.1 (v := 3) dX3_castCalls_17 (by decide) ?_
    refine lv_icmp_gt (pc := 18) (tgt := 95) S.1 S.2.1 dX3_castCalls_18 (by decide) (fun c1 => ?_) (fun c1 => ?_)
    · have h := h.1 c1
      exact hk95  st h _ _ _ hP hS (lv_sub hl [0] rfl)
    · have h := h.2 c1
      refine lv_iconst (pc := 21) S.1 S.2.1 (v := 0) dX3_castCalls_21 (by decide) ?_
      refine lv_istore (pc := 22) S.1 S.2.1 (lv' := [(6, .int (0 : Int32)), (0, .ref (a 39)), (1, .ref (a 13)), (2, .ref (a 6)), (3, .ref (a 37)), (4, .int x4), (5, .int x5)]) dX3_castCalls_22 hl (by decide) rfl (fun ls hl => ?_)
      exact (fun x4 x5 x6 st h => Exists.elim h (fun q h => wk_X3_castCalls_24 S hr hlk E post (wp_Plan_castCalls_89 post (wp_Plan_castCalls_15 post k95 n) k95) (fun x4 x5 st h => wk_X3_castCalls_89 S hr hlk E post (wp_Plan_castCalls_15 post k95 n) ih k95 hk95 x4 x5 st h) q x4 x5 x6 st h)) x4 x5 (0 : Int32) st h _ _ _ hP hS (lv_sub hl [1, 2, 3, 4, 5, 6, 0] rfl)
set_option maxHeartbeats 4000000 in
set_option maxRecDepth 100000 in
theorem mt_X3_castCalls (l : Launch) (dC : Nat → ClassId) (dI : Nat → Nat → Nat) (a : Nat → Nat) (ca : Nat → ClassId) (tb : Nat → Nat) (sz : Nat) (x4 : Int32) (st : tSt) (post : tSt → Prop) (h : wp_Plan_castCalls x4 st post) : Met l yX3_castCalls (.code yX3_castCalls cX3_castCalls 7 none :: tWALL) rmX3_castCalls (va_Pc [.ref (a 39), .ref (a 13), .ref (a 6), .ref (a 37), .int x4] (tPre 47 (cwC a ca) dC dI a ca tb sz st)) (va_Qv post (tB (cwC a ca) dC dI) (tA 47 a sz)) 0 0 (tA 47 a sz) := by
  refine tp_met (by decide) (Nat.le_of_ble_eq_true rfl) ?_
  intro p e s m below meth c ls S hr hlk hsz E hP hl
  subst hsz
  have S : CallFix p m c cX3_castCalls 7 s _ (.code yX3_castCalls cX3_castCalls 7 none :: tWALL) RX3 := S
  have hl : lv_has ls 7 [(0, .ref (a 39)), (1, .ref (a 13)), (2, .ref (a 6)), (3, .ref (a 37)), (4, .int x4)] := hl
  have hS : va_S (tA 47 a s.heap.size) s.heap s.heap [] := va_S.rf
  show W p l e _ s m _ below meth c s.heap [] 0 0 (tQv (cwC a ca) 47 dC dI a ([.ref (a 39), .ref (a 13), .ref (a 6), .ref (a 37), .int x4] : List Value).toArray below s post) (F0 m 0 ls [])
  refine lv_aload_n (pc := 0) S.1 S.2.1 dX3_castCalls_0 rfl (lv_at hl 0 rfl) ?_
  refine tp_get (pc := 1) S E.1 hP iwX3 39 (cC_plan a ca st) rfl 0 (by decide) kw_166 (v := .ref (a 40)) rfl dX3_castCalls_1 ?_
  refine tGv hS (tRunV (pc := 4) (As := []) (rest := []) S E hP hS (mt_X1_clear l dC dI a ca tb _  st _ h) (cw_X1_clear ⟨Nat.le_of_ble_eq_true rfl, Nat.le_of_ble_eq_true rfl⟩) kw_203 kw_204 kw_205 40 1 rfl rfl (cC_cast a ca st) rfl hl.1 rfl (Nat.le_of_ble_eq_true rfl) dX3_castCalls_4) (fun st1 H locs h hP hS => ?_)
  refine lv_aload_n (pc := 7) S.1 S.2.1 dX3_castCalls_7 rfl (lv_at hl 0 rfl) ?_
  refine lv_iconst (pc := 8) S.1 S.2.1 (v := 0) dX3_castCalls_8 (by decide) ?_
  refine tp_put (pc := 9) S E.1 hP (cC_D E st1) hS iwX3 tyX3 tyX3_ok nmX3 39 (cC_plan a ca st1) rfl 3 (by decide) kw_160 rfl (v := .int (0 : Int32)) (tyX3_ok 3 (by decide)) rfl rfl (Nat.le_of_ble_eq_true rfl) (sC_plan_bits a ca st1 _) dX3_castCalls_9 (fun st2 H locs e1 hP hS => ?_)
  have h := h st2 e1
  refine lv_iconst (pc := 12) S.1 S.2.1 (v := 0) dX3_castCalls_12 (by decide) ?_
  refine lv_istore (pc := 13) S.1 S.2.1 (lv' := [(5, .int (0 : Int32)), (0, .ref (a 39)), (1, .ref (a 13)), (2, .ref (a 6)), (3, .ref (a 37)), (4, .int x4)]) dX3_castCalls_13 hl (by decide) rfl (fun ls hl => ?_)
  exact (fun x4 x5 st h => Exists.elim h (fun q h => wk_X3_castCalls_15 S hr hlk E post (wp_Plan_castCalls_95 post) (fun  st h => wk_X3_castCalls_95 S hr hlk E post   st h) q x4 x5 st h)) x4 (0 : Int32) st2 h _ _ _ hP hS (lv_sub hl [1, 2, 3, 4, 5, 0] rfl)

abbrev rmX3_longestUnheard : Room := { frames := 2, cells := 0, slots := 0, locals := 43 }
theorem cw_X3_longestUnheard {R : Room} {own : String} {index : Nat} (h : rmX3_longestUnheard.frames + 1 ≤ R.frames ∧ 8 + (6 + 11) + rmX3_longestUnheard.locals ≤ R.locals) : tCw R own index yX3_longestUnheard cX3_longestUnheard 6 (some .int) rmX3_longestUnheard 3 := ⟨kw_211, kw_161, ⟨rfl, rfl, h.1, h.2⟩, by decide +kernel, by decide +kernel, by decide +kernel⟩
set_option maxHeartbeats 4000000 in
set_option maxRecDepth 100000 in
theorem wk_X3_longestUnheard_52 {p : Program} {l : Launch} {e : Env} {s : State} {m : MethodId} {args : Array Value} {below : List Frame} {meth : Method} {c : Code} {dC : Nat → ClassId} {dI : Nat → Nat → Nat} {a : Nat → Nat} {ca : Nat → ClassId} {tb : Nat → Nat} {w0 : Cond} (S : CallFix p m c cX3_longestUnheard 6 s args (w0 :: tWALL) RX3) (hr : meth.sig.returnType = (some .int)) (hlk : meth.locks = false) (E : tEnv 47 dC dI a ca tb s) (post : Int32 → tSt → Prop) (k6 : Int32 → Int32 → Int32 → Int32 → tSt → Prop) (hk6 : ∀ (x2 : Int32) (x3 : Int32) (x4 : Int32) (x5 : Int32) (st : tSt), k6 x2 x3 x4 x5 st → tAt p l e rmX3_longestUnheard s m args below meth c (dC, dI) (cwC a ca) (tA 47 a s.heap.size) (tQi (cwC a ca) 47 dC dI a args below s post) 6 6 [(0, .ref (a 39)), (1, .ref (a 26)), (2, .int x2), (3, .int x3), (4, .int x4), (5, .int x5)] [] st) : ∀ (x2 : Int32) (x3 : Int32) (x4 : Int32) (x5 : Int32) (st : tSt), wp_Plan_longestUnheard_52 post k6 x2 x3 x4 x5 st → tAt p l e rmX3_longestUnheard s m args below meth c (dC, dI) (cwC a ca) (tA 47 a s.heap.size) (tQi (cwC a ca) 47 dC dI a args below s post) 6 52 [(0, .ref (a 39)), (1, .ref (a 26)), (2, .int x2), (3, .int x3), (4, .int x4), (5, .int x5)] [] st := by
  intro x2 x3 x4 x5 st h H locs ls hP hS hl
  obtain ⟨y5_1, e1⟩ : ∃ y : Int32, y = x5 + 1 := ⟨_, rfl⟩
  have h := h y5_1 e1
  refine lv_iinc (pc := 52) S.1 S.2.1 (v := y5_1) (lv' := [(5, .int y5_1), (0, .ref (a 39)), (1, .ref (a 26)), (2, .int x2), (3, .int x3), (4, .int x4)]) dX3_longestUnheard_52 hl (k := 5) rfl (by rw [e1]; rfl) (by decide) rfl (fun ls hl => ?_)
  refine lv_goto (pc := 55) S.1 S.2.1 (tgt := 6) dX3_longestUnheard_55 (by decide) ?_
  exact hk6 x2 x3 x4 y5_1 st h _ _ _ hP hS (lv_sub hl [1, 2, 3, 4, 5, 0] rfl)
set_option maxHeartbeats 4000000 in
set_option maxRecDepth 100000 in
theorem wk_X3_longestUnheard_48 {p : Program} {l : Launch} {e : Env} {s : State} {m : MethodId} {args : Array Value} {below : List Frame} {meth : Method} {c : Code} {dC : Nat → ClassId} {dI : Nat → Nat → Nat} {a : Nat → Nat} {ca : Nat → ClassId} {tb : Nat → Nat} {w0 : Cond} (S : CallFix p m c cX3_longestUnheard 6 s args (w0 :: tWALL) RX3) (hr : meth.sig.returnType = (some .int)) (hlk : meth.locks = false) (E : tEnv 47 dC dI a ca tb s) (post : Int32 → tSt → Prop) (k6 : Int32 → Int32 → Int32 → Int32 → tSt → Prop) (hk6 : ∀ (x2 : Int32) (x3 : Int32) (x4 : Int32) (x5 : Int32) (st : tSt), k6 x2 x3 x4 x5 st → tAt p l e rmX3_longestUnheard s m args below meth c (dC, dI) (cwC a ca) (tA 47 a s.heap.size) (tQi (cwC a ca) 47 dC dI a args below s post) 6 6 [(0, .ref (a 39)), (1, .ref (a 26)), (2, .int x2), (3, .int x3), (4, .int x4), (5, .int x5)] [] st) : ∀ (x2 : Int32) (x3 : Int32) (x5 : Int32) (st : tSt), wp_Plan_longestUnheard_48 post k6 x2 x3 x5 st → tAt p l e rmX3_longestUnheard s m args below meth c (dC, dI) (cwC a ca) (tA 47 a s.heap.size) (tQi (cwC a ca) 47 dC dI a args below s post) 6 48 [(0, .ref (a 39)), (1, .ref (a 26)), (2, .int x2), (3, .int x3), (5, .int x5)] [] st := by
  intro x2 x3 x5 st h H locs ls hP hS hl
  refine lv_iload (pc := 48) S.1 S.2.1 dX3_longestUnheard_48 (lv_at hl 4 rfl) ?_
  refine lv_istore (pc := 50) S.1 S.2.1 (lv' := [(4, .int x5), (0, .ref (a 39)), (1, .ref (a 26)), (2, .int x2), (3, .int x3), (5, .int x5)]) dX3_longestUnheard_50 hl (by decide) rfl (fun ls hl => ?_)
  exact (fun x2 x3 x4 x5 st h => wk_X3_longestUnheard_52 S hr hlk E post k6 hk6 x2 x3 x4 x5 st h) x2 x3 x5 x5 st h _ _ _ hP hS (lv_sub hl [1, 2, 3, 4, 0, 5] rfl)
set_option maxHeartbeats 4000000 in
set_option maxRecDepth 100000 in
theorem wk_X3_longestUnheard_6 {p : Program} {l : Launch} {e : Env} {s : State} {m : MethodId} {args : Array Value} {below : List Frame} {meth : Method} {c : Code} {dC : Nat → ClassId} {dI : Nat → Nat → Nat} {a : Nat → Nat} {ca : Nat → ClassId} {tb : Nat → Nat} {w0 : Cond} (S : CallFix p m c cX3_longestUnheard 6 s args (w0 :: tWALL) RX3) (hr : meth.sig.returnType = (some .int)) (hlk : meth.locks = false) (E : tEnv 47 dC dI a ca tb s) (post : Int32 → tSt → Prop) : ∀ (n : Nat) (x2 : Int32) (x3 : Int32) (x4 : Int32) (x5 : Int32) (st : tSt), wp_Plan_longestUnheard_6 post n x2 x3 x4 x5 st → tAt p l e rmX3_longestUnheard s m args below meth c (dC, dI) (cwC a ca) (tA 47 a s.heap.size) (tQi (cwC a ca) 47 dC dI a args below s post) 6 6 [(0, .ref (a 39)), (1, .ref (a 26)), (2, .int x2), (3, .int x3), (4, .int x4), (5, .int x5)] [] st := by
  intro n
  induction n with
  | zero => intro x2 x3 x4 x5 st h; exact absurd h id
  | succ n ih =>
    intro x2 x3 x4 x5 st h H locs ls hP hS hl
    refine lv_iload (pc := 6) S.1 S.2.1 dX3_longestUnheard_6 (lv_at hl 5 rfl) ?_
    refine lv_bipush (pc := 8) S.1 S.2.1 (v := 10) dX3_longestUnheard_8 (by decide) ?_
    refine lv_icmp_ge (pc := 10) (tgt := 58) S.1 S.2.1 dX3_longestUnheard_10 (by decide) (fun c1 => ?_) (fun c1 => ?_)
    · have h := h.1 c1
      refine lv_iload (pc := 58) S.1 S.2.1 dX3_longestUnheard_58 (lv_at hl 4 rfl) ?_
      exact tRi S hr hlk hP hS h dX3_longestUnheard_60
    · have h := h.2 c1
      refine lv_aload_n (pc := 13) S.1 S.2.1 dX3_longestUnheard_13 rfl (lv_at hl 1 rfl) ?_
      refine lv_iload (pc := 14) S.1 S.2.1 dX3_longestUnheard_14 (lv_at hl 5 rfl) ?_
      obtain ⟨hn2, h⟩ := h
      refine tp_aald (pc := 16) S E.1 hP 26 3 (cC_tunesA a ca st) rfl (j := x5.toNatClampNeg) (d := a (27 + x5.toNatClampNeg)) rfl rfl hn2 dX3_longestUnheard_16 ?_
      have hj3 := t_lt hn2
      refine lv_iload_n (pc := 17) S.1 S.2.1 dX3_longestUnheard_17 rfl (lv_at hl 2 rfl) ?_
      refine lv_iload_n (pc := 18) S.1 S.2.1 dX3_longestUnheard_18 rfl (lv_at hl 3 rfl) ?_
      refine tGi hS (tRunV (pc := 19) (As := [.int x2, .int x3]) (rest := []) S E hP hS (mt_X6_fits l dC dI a ca tb _ hj3 x2 x3 st _ h) (cw_X6_fits ⟨Nat.le_of_ble_eq_true rfl, Nat.le_of_ble_eq_true rfl⟩) kw_207 kw_208 kw_209 (27 + x5.toNatClampNeg) 6 rfl rfl (cC_tune a ca st hj3) rfl hl.1 rfl (Nat.le_of_ble_eq_true rfl) dX3_longestUnheard_19) (fun r2 st1 H locs h hP hS => ?_)
      refine lv_if_eq (pc := 22) (tgt := 52) S.1 S.2.1 dX3_longestUnheard_22 (by decide) (fun c4 => ?_) (fun c4 => ?_)
      · have h := h.1 c4
        exact (fun x2 x3 x4 x5 st h => wk_X3_longestUnheard_52 S hr hlk E post (wp_Plan_longestUnheard_6 post n) ih x2 x3 x4 x5 st h) x2 x3 x4 x5 st1 h _ _ _ hP hS (lv_sub hl [0, 1, 2, 3, 4, 5] rfl)
      · have h := h.2 c4
        refine lv_iload (pc := 25) S.1 S.2.1 dX3_longestUnheard_25 (lv_at hl 4 rfl) ?_
        refine lv_iconst (pc := 27) S.1 S.2.1 (v := (-1)) dX3_longestUnheard_27 (by decide) ?_
        refine lv_icmp_eq (pc := 28) (tgt := 48) S.1 S.2.1 dX3_longestUnheard_28 (by decide) (fun c5 => ?_) (fun c5 => ?_)
        · have h := h.1 c5
          exact (fun x2 x3 x5 st h => wk_X3_longestUnheard_48 S hr hlk E post (wp_Plan_longestUnheard_6 post n) ih x2 x3 x5 st h) x2 x3 x5 st1 h _ _ _ hP hS (lv_sub hl [0, 1, 2, 3, 5] rfl)
        · have h := h.2 c5
          refine lv_aload_n (pc := 31) S.1 S.2.1 dX3_longestUnheard_31 rfl (lv_at hl 0 rfl) ?_
          refine tp_get (pc := 32) S E.1 hP iwX3 39 (cC_plan a ca st1) rfl 2 (by decide) kw_210 (v := .ref (a 42)) rfl dX3_longestUnheard_32 ?_
          refine lv_iload (pc := 35) S.1 S.2.1 dX3_longestUnheard_35 (lv_at hl 5 rfl) ?_
          obtain ⟨hn6, h⟩ := h
          refine tp_iald (pc := 37) S E.1 hP 42 0 (cC_lastTurns a ca st1) rfl (j := x5.toNatClampNeg) rfl hn6 dX3_longestUnheard_37 ?_
          refine lv_aload_n (pc := 38) S.1 S.2.1 dX3_longestUnheard_38 rfl (lv_at hl 0 rfl) ?_
          refine tp_get (pc := 39) S E.1 hP iwX3 39 (cC_plan a ca st1) rfl 2 (by decide) kw_210 (v := .ref (a 42)) rfl dX3_longestUnheard_39 ?_
          refine lv_iload (pc := 42) S.1 S.2.1 dX3_longestUnheard_42 (lv_at hl 4 rfl) ?_
          obtain ⟨hn7, h⟩ := h
          refine tp_iald (pc := 44) S E.1 hP 42 0 (cC_lastTurns a ca st1) rfl (j := x4.toNatClampNeg) rfl hn7 dX3_longestUnheard_44 ?_
          refine lv_icmp_ge (pc := 45) (tgt := 52) S.1 S.2.1 dX3_longestUnheard_45 (by decide) (fun c8 => ?_) (fun c8 => ?_)
          · have h := h.1 c8
            exact (fun x2 x3 x4 x5 st h => wk_X3_longestUnheard_52 S hr hlk E post (wp_Plan_longestUnheard_6 post n) ih x2 x3 x4 x5 st h) x2 x3 x4 x5 st1 h _ _ _ hP hS (lv_sub hl [0, 1, 2, 3, 4, 5] rfl)
          · have h := h.2 c8
            exact (fun x2 x3 x5 st h => wk_X3_longestUnheard_48 S hr hlk E post (wp_Plan_longestUnheard_6 post n) ih x2 x3 x5 st h) x2 x3 x5 st1 h _ _ _ hP hS (lv_sub hl [0, 1, 2, 3, 5] rfl)
set_option maxHeartbeats 4000000 in
set_option maxRecDepth 100000 in
theorem mt_X3_longestUnheard (l : Launch) (dC : Nat → ClassId) (dI : Nat → Nat → Nat) (a : Nat → Nat) (ca : Nat → ClassId) (tb : Nat → Nat) (sz : Nat) (x2 : Int32) (x3 : Int32) (st : tSt) (post : Int32 → tSt → Prop) (h : wp_Plan_longestUnheard x2 x3 st post) : Met l yX3_longestUnheard (.code yX3_longestUnheard cX3_longestUnheard 6 (some .int) :: tWALL) rmX3_longestUnheard (va_Pc [.ref (a 39), .ref (a 26), .int x2, .int x3] (tPre 47 (cwC a ca) dC dI a ca tb sz st)) (va_Qi post (tB (cwC a ca) dC dI) (tA 47 a sz)) 0 0 (tA 47 a sz) := by
  refine tp_met (by decide) (Nat.le_of_ble_eq_true rfl) ?_
  intro p e s m below meth c ls S hr hlk hsz E hP hl
  subst hsz
  have S : CallFix p m c cX3_longestUnheard 6 s _ (.code yX3_longestUnheard cX3_longestUnheard 6 (some .int) :: tWALL) RX3 := S
  have hl : lv_has ls 6 [(0, .ref (a 39)), (1, .ref (a 26)), (2, .int x2), (3, .int x3)] := hl
  have hS : va_S (tA 47 a s.heap.size) s.heap s.heap [] := va_S.rf
  show W p l e _ s m _ below meth c s.heap [] 0 0 (tQi (cwC a ca) 47 dC dI a ([.ref (a 39), .ref (a 26), .int x2, .int x3] : List Value).toArray below s post) (F0 m 0 ls [])
  refine lv_iconst (pc := 0) S.1 S.2.1 (v := (-1)) dX3_longestUnheard_0 (by decide) ?_
  refine lv_istore (pc := 1) S.1 S.2.1 (lv' := [(4, .int (-1 : Int32)), (0, .ref (a 39)), (1, .ref (a 26)), (2, .int x2), (3, .int x3)]) dX3_longestUnheard_1 hl (by decide) rfl (fun ls hl => ?_)
  refine lv_iconst (pc := 3) S.1 S.2.1 (v := 0) dX3_longestUnheard_3 (by decide) ?_
  refine lv_istore (pc := 4) S.1 S.2.1 (lv' := [(5, .int (0 : Int32)), (4, .int (-1 : Int32)), (0, .ref (a 39)), (1, .ref (a 26)), (2, .int x2), (3, .int x3)]) dX3_longestUnheard_4 hl (by decide) rfl (fun ls hl => ?_)
  exact (fun x2 x3 x4 x5 st h => Exists.elim h (fun q h => wk_X3_longestUnheard_6 S hr hlk E post  q x2 x3 x4 x5 st h)) x2 x3 (-1 : Int32) (0 : Int32) st h _ _ _ hP hS (lv_sub hl [2, 3, 4, 5, 1, 0] rfl)

abbrev rmX3_takeTurn : Room := { frames := 1, cells := 0, slots := 0, locals := 22 }
theorem cw_X3_takeTurn {R : Room} {own : String} {index : Nat} (h : rmX3_takeTurn.frames + 1 ≤ R.frames ∧ 8 + (3 + 11) + rmX3_takeTurn.locals ≤ R.locals) : tCw R own index yX3_takeTurn cX3_takeTurn 3 none rmX3_takeTurn 2 := ⟨kw_212, kw_161, ⟨rfl, rfl, h.1, h.2⟩, by decide +kernel, by decide +kernel, by decide +kernel⟩

set_option maxHeartbeats 4000000 in
set_option maxRecDepth 100000 in
theorem mt_X3_takeTurn (l : Launch) (dC : Nat → ClassId) (dI : Nat → Nat → Nat) (a : Nat → Nat) (ca : Nat → ClassId) (tb : Nat → Nat) (sz : Nat) (x1 : Int32) (x2 : Int32) (st : tSt) (post : tSt → Prop) (h : wp_Plan_takeTurn x1 x2 st post) : Met l yX3_takeTurn (.code yX3_takeTurn cX3_takeTurn 3 none :: tWALL) rmX3_takeTurn (va_Pc [.ref (a 39), .int x1, .int x2] (tPre 47 (cwC a ca) dC dI a ca tb sz st)) (va_Qv post (tB (cwC a ca) dC dI) (tA 47 a sz)) 0 0 (tA 47 a sz) := by
  refine tp_met (by decide) (Nat.le_of_ble_eq_true rfl) ?_
  intro p e s m below meth c ls S hr hlk hsz E hP hl
  subst hsz
  have S : CallFix p m c cX3_takeTurn 3 s _ (.code yX3_takeTurn cX3_takeTurn 3 none :: tWALL) RX3 := S
  have hl : lv_has ls 3 [(0, .ref (a 39)), (1, .int x1), (2, .int x2)] := hl
  have hS : va_S (tA 47 a s.heap.size) s.heap s.heap [] := va_S.rf
  show W p l e _ s m _ below meth c s.heap [] 0 0 (tQv (cwC a ca) 47 dC dI a ([.ref (a 39), .int x1, .int x2] : List Value).toArray below s post) (F0 m 0 ls [])
  refine lv_iload_n (pc := 0) S.1 S.2.1 dX3_takeTurn_0 rfl (lv_at hl 1 rfl) ?_
  refine lv_iconst (pc := 1) S.1 S.2.1 (v := 0) dX3_takeTurn_1 (by decide) ?_
  refine lv_bipush (pc := 2) S.1 S.2.1 (v := 9) dX3_takeTurn_2 (by decide) ?_
  refine tGi hS (tRunSN (pc := 4) (As := [.int x1, .int (0 : Int32), .int (9 : Int32)]) (rest := []) S E hP hS (mt_X7_within l dC dI a ca tb _ x1 (0 : Int32) (9 : Int32) st _ h) (cw_X7_within ⟨Nat.le_of_ble_eq_true rfl, Nat.le_of_ble_eq_true rfl⟩) kw_163 kw_8 rfl hl.1 rfl (Nat.le_of_ble_eq_true rfl) dX3_takeTurn_4) (fun r2 st1 H locs h hP hS => ?_)
  refine lv_if_eq (pc := 7) (tgt := 17) S.1 S.2.1 dX3_takeTurn_7 (by decide) (fun c1 => ?_) (fun c1 => ?_)
  · have h := h.1 c1
    exact tRv S hr hlk hP hS h dX3_takeTurn_17
  · have h := h.2 c1
    refine lv_aload_n (pc := 10) S.1 S.2.1 dX3_takeTurn_10 rfl (lv_at hl 0 rfl) ?_
    refine tp_get (pc := 11) S E.1 hP iwX3 39 (cC_plan a ca st1) rfl 2 (by decide) kw_210 (v := .ref (a 42)) rfl dX3_takeTurn_11 ?_
    refine lv_iload_n (pc := 14) S.1 S.2.1 dX3_takeTurn_14 rfl (lv_at hl 1 rfl) ?_
    refine lv_iload_n (pc := 15) S.1 S.2.1 dX3_takeTurn_15 rfl (lv_at hl 2 rfl) ?_
    obtain ⟨hn2, h⟩ := h
    refine tp_iast (pc := 16) S E.1 hP (cC_D E st1) hS 42 0 (cC_lastTurns a ca st1) rfl (j := x1.toNatClampNeg) rfl hn2 (sC_lastTurns a ca st1 _ _) dX3_takeTurn_16 (fun st3 H locs e3 hP hS => ?_)
    have h := h st3 e3
    exact tRv S hr hlk hP hS h dX3_takeTurn_17

abbrev rmX3_chooseTunes : Room := { frames := 3, cells := 0, slots := 0, locals := 68 }
theorem cw_X3_chooseTunes {R : Room} {own : String} {index : Nat} (h : rmX3_chooseTunes.frames + 1 ≤ R.frames ∧ 8 + (8 + 11) + rmX3_chooseTunes.locals ≤ R.locals) : tCw R own index yX3_chooseTunes cX3_chooseTunes 8 none rmX3_chooseTunes 4 := ⟨kw_220, kw_161, ⟨rfl, rfl, h.1, h.2⟩, by decide +kernel, by decide +kernel, by decide +kernel⟩
set_option maxHeartbeats 4000000 in
set_option maxRecDepth 100000 in
theorem wk_X3_chooseTunes_111 {p : Program} {l : Launch} {e : Env} {s : State} {m : MethodId} {args : Array Value} {below : List Frame} {meth : Method} {c : Code} {dC : Nat → ClassId} {dI : Nat → Nat → Nat} {a : Nat → Nat} {ca : Nat → ClassId} {tb : Nat → Nat} {w0 : Cond} (S : CallFix p m c cX3_chooseTunes 8 s args (w0 :: tWALL) RX3) (hr : meth.sig.returnType = none) (hlk : meth.locks = false) (E : tEnv 47 dC dI a ca tb s) (post : tSt → Prop) (k46 : Int32 → Int32 → Int32 → Int32 → tSt → Prop) (hk46 : ∀ (x3 : Int32) (x5 : Int32) (x6 : Int32) (x7 : Int32) (st : tSt), k46 x3 x5 x6 x7 st → tAt p l e rmX3_chooseTunes s m args below meth c (dC, dI) (cwC a ca) (tA 47 a s.heap.size) (tQv (cwC a ca) 47 dC dI a args below s post) 8 46 [(0, .ref (a 39)), (1, .ref (a 13)), (2, .ref (a 26)), (3, .int x3), (5, .int x5), (6, .int x6), (7, .int x7)] [] st) (k117 : Int32 → Int32 → Int32 → tSt → Prop) (hk117 : ∀ (x3 : Int32) (x5 : Int32) (x6 : Int32) (st : tSt), k117 x3 x5 x6 st → tAt p l e rmX3_chooseTunes s m args below meth c (dC, dI) (cwC a ca) (tA 47 a s.heap.size) (tQv (cwC a ca) 47 dC dI a args below s post) 8 117 [(0, .ref (a 39)), (1, .ref (a 13)), (2, .ref (a 26)), (3, .int x3), (5, .int x5), (6, .int x6)] [] st) : ∀ (x3 : Int32) (x5 : Int32) (x6 : Int32) (x7 : Int32) (st : tSt), wp_Plan_chooseTunes_111 post k46 k117 x3 x5 x6 x7 st → tAt p l e rmX3_chooseTunes s m args below meth c (dC, dI) (cwC a ca) (tA 47 a s.heap.size) (tQv (cwC a ca) 47 dC dI a args below s post) 8 111 [(0, .ref (a 39)), (1, .ref (a 13)), (2, .ref (a 26)), (3, .int x3), (5, .int x5), (6, .int x6), (7, .int x7)] [] st := by
  intro x3 x5 x6 x7 st h H locs ls hP hS hl
  obtain ⟨y7_1, e1⟩ : ∃ y : Int32, y = x7 + 1 := ⟨_, rfl⟩
  have h := h y7_1 e1
  refine lv_iinc (pc := 111) S.1 S.2.1 (v := y7_1) (lv' := [(7, .int y7_1), (0, .ref (a 39)), (1, .ref (a 13)), (2, .ref (a 26)), (3, .int x3), (5, .int x5), (6, .int x6)]) dX3_chooseTunes_111 hl (k := 6) rfl (by rw [e1]; rfl) (by decide) rfl (fun ls hl => ?_)
  refine lv_goto (pc := 114) S.1 S.2.1 (tgt := 46) dX3_chooseTunes_114 (by decide) ?_
  exact hk46 x3 x5 x6 y7_1 st h _ _ _ hP hS (lv_sub hl [1, 2, 3, 4, 5, 6, 0] rfl)
set_option maxHeartbeats 4000000 in
set_option maxRecDepth 100000 in
theorem wk_X3_chooseTunes_117 {p : Program} {l : Launch} {e : Env} {s : State} {m : MethodId} {args : Array Value} {below : List Frame} {meth : Method} {c : Code} {dC : Nat → ClassId} {dI : Nat → Nat → Nat} {a : Nat → Nat} {ca : Nat → ClassId} {tb : Nat → Nat} {w0 : Cond} (S : CallFix p m c cX3_chooseTunes 8 s args (w0 :: tWALL) RX3) (hr : meth.sig.returnType = none) (hlk : meth.locks = false) (E : tEnv 47 dC dI a ca tb s) (post : tSt → Prop) (k37 : Int32 → Int32 → Int32 → tSt → Prop) (hk37 : ∀ (x3 : Int32) (x5 : Int32) (x6 : Int32) (st : tSt), k37 x3 x5 x6 st → tAt p l e rmX3_chooseTunes s m args below meth c (dC, dI) (cwC a ca) (tA 47 a s.heap.size) (tQv (cwC a ca) 47 dC dI a args below s post) 8 37 [(0, .ref (a 39)), (1, .ref (a 13)), (2, .ref (a 26)), (3, .int x3), (5, .int x5), (6, .int x6)] [] st) : ∀ (x3 : Int32) (x5 : Int32) (x6 : Int32) (st : tSt), wp_Plan_chooseTunes_117 post k37 x3 x5 x6 st → tAt p l e rmX3_chooseTunes s m args below meth c (dC, dI) (cwC a ca) (tA 47 a s.heap.size) (tQv (cwC a ca) 47 dC dI a args below s post) 8 117 [(0, .ref (a 39)), (1, .ref (a 13)), (2, .ref (a 26)), (3, .int x3), (5, .int x5), (6, .int x6)] [] st := by
  intro x3 x5 x6 st h H locs ls hP hS hl
  obtain ⟨y6_1, e1⟩ : ∃ y : Int32, y = x6 + 1 := ⟨_, rfl⟩
  have h := h y6_1 e1
  refine lv_iinc (pc := 117) S.1 S.2.1 (v := y6_1) (lv' := [(6, .int y6_1), (0, .ref (a 39)), (1, .ref (a 13)), (2, .ref (a 26)), (3, .int x3), (5, .int x5)]) dX3_chooseTunes_117 hl (k := 5) rfl (by rw [e1]; rfl) (by decide) rfl (fun ls hl => ?_)
  refine lv_goto (pc := 120) S.1 S.2.1 (tgt := 37) dX3_chooseTunes_120 (by decide) ?_
  exact hk37 x3 x5 y6_1 st h _ _ _ hP hS (lv_sub hl [1, 2, 3, 4, 5, 0] rfl)
set_option maxHeartbeats 4000000 in
set_option maxRecDepth 100000 in
theorem wk_X3_chooseTunes_46 {p : Program} {l : Launch} {e : Env} {s : State} {m : MethodId} {args : Array Value} {below : List Frame} {meth : Method} {c : Code} {dC : Nat → ClassId} {dI : Nat → Nat → Nat} {a : Nat → Nat} {ca : Nat → ClassId} {tb : Nat → Nat} {w0 : Cond} (S : CallFix p m c cX3_chooseTunes 8 s args (w0 :: tWALL) RX3) (hr : meth.sig.returnType = none) (hlk : meth.locks = false) (E : tEnv 47 dC dI a ca tb s) (post : tSt → Prop) (k117 : Int32 → Int32 → Int32 → tSt → Prop) (hk117 : ∀ (x3 : Int32) (x5 : Int32) (x6 : Int32) (st : tSt), k117 x3 x5 x6 st → tAt p l e rmX3_chooseTunes s m args below meth c (dC, dI) (cwC a ca) (tA 47 a s.heap.size) (tQv (cwC a ca) 47 dC dI a args below s post) 8 117 [(0, .ref (a 39)), (1, .ref (a 13)), (2, .ref (a 26)), (3, .int x3), (5, .int x5), (6, .int x6)] [] st) : ∀ (n : Nat) (x3 : Int32) (x5 : Int32) (x6 : Int32) (x7 : Int32) (st : tSt), wp_Plan_chooseTunes_46 post k117 n x3 x5 x6 x7 st → tAt p l e rmX3_chooseTunes s m args below meth c (dC, dI) (cwC a ca) (tA 47 a s.heap.size) (tQv (cwC a ca) 47 dC dI a args below s post) 8 46 [(0, .ref (a 39)), (1, .ref (a 13)), (2, .ref (a 26)), (3, .int x3), (5, .int x5), (6, .int x6), (7, .int x7)] [] st := by
  intro n
  induction n with
  | zero => intro x3 x5 x6 x7 st h; exact absurd h id
  | succ n ih =>
    intro x3 x5 x6 x7 st h H locs ls hP hS hl
    refine lv_iload (pc := 46) S.1 S.2.1 dX3_chooseTunes_46 (lv_at hl 6 rfl) ?_
    refine lv_bipush (pc := 48) S.1 S.2.1 (v := 6) dX3_chooseTunes_48 (by decide) ?_
    refine lv_icmp_ge (pc := 50) (tgt := 117) S.1 S.2.1 dX3_chooseTunes_50 (by decide) (fun c1 => ?_) (fun c1 => ?_)
    · have h := h.1 c1
      exact hk117 x3 x5 x6 st h _ _ _ hP hS (lv_sub hl [0, 1, 2, 3, 4, 5] rfl)
    · have h := h.2 c1
      refine lv_aload_n (pc := 53) S.1 S.2.1 dX3_chooseTunes_53 rfl (lv_at hl 0 rfl) ?_
      refine lv_iload (pc := 54) S.1 S.2.1 dX3_chooseTunes_54 (lv_at hl 6 rfl) ?_
      refine tGi hS (tRunV (pc := 56) (As := [.int x7]) (rest := []) S E hP hS (mt_X3_has l dC dI a ca tb _ x7 st _ h) (cw_X3_has ⟨Nat.le_of_ble_eq_true rfl, Nat.le_of_ble_eq_true rfl⟩) kw_171 kw_172 kw_173 39 3 rfl rfl (cC_plan a ca st) rfl hl.1 rfl (Nat.le_of_ble_eq_true rfl) dX3_chooseTunes_56) (fun r2 st1 H locs h hP hS => ?_)
      refine lv_if_eq (pc := 59) (tgt := 111) S.1 S.2.1 dX3_chooseTunes_59 (by decide) (fun c2 => ?_) (fun c2 => ?_)
      · have h := h.1 c2
        exact (fun x3 x5 x6 x7 st h => wk_X3_chooseTunes_111 S hr hlk E post (wp_Plan_chooseTunes_46 post k117 n) ih k117 hk117 x3 x5 x6 x7 st h) x3 x5 x6 x7 st1 h _ _ _ hP hS (lv_sub hl [0, 1, 2, 3, 4, 5, 6] rfl)
      · have h := h.2 c2
        refine lv_aload_n (pc := 62) S.1 S.2.1 dX3_chooseTunes_62 rfl (lv_at hl 1 rfl) ?_
        refine lv_iload (pc := 63) S.1 S.2.1 dX3_chooseTunes_63 (lv_at hl 6 rfl) ?_
        obtain ⟨hn3, h⟩ := h
        refine tp_aald (pc := 65) S E.1 hP 13 2 (cC_callsA a ca st1) rfl (j := x7.toNatClampNeg) (d := a (14 + x7.toNatClampNeg)) rfl rfl hn3 dX3_chooseTunes_65 ?_
        have hj4 := t_lt hn3
        refine lv_iload (pc := 66) S.1 S.2.1 dX3_chooseTunes_66 (lv_at hl 5 rfl) ?_
        refine tGi hS (tRunV (pc := 68) (As := [.int x6]) (rest := []) S E hP hS (mt_X0_isOfOrder l dC dI a ca tb _ hj4 x6 st1 _ h) (cw_X0_isOfOrder ⟨Nat.le_of_ble_eq_true rfl, Nat.le_of_ble_eq_true rfl⟩) kw_191 kw_192 kw_193 (14 + x7.toNatClampNeg) 0 rfl rfl (cC_call a ca st1 hj4) rfl hl.1 rfl (Nat.le_of_ble_eq_true rfl) dX3_chooseTunes_68) (fun r4 st3 H locs h hP hS => ?_)
        refine lv_if_eq (pc := 71) (tgt := 111) S.1 S.2.1 dX3_chooseTunes_71 (by decide) (fun c5 => ?_) (fun c5 => ?_)
        · have h := h.1 c5
          exact (fun x3 x5 x6 x7 st h => wk_X3_chooseTunes_111 S hr hlk E post (wp_Plan_chooseTunes_46 post k117 n) ih k117 hk117 x3 x5 x6 x7 st h) x3 x5 x6 x7 st3 h _ _ _ hP hS (lv_sub hl [0, 1, 2, 3, 4, 5, 6] rfl)
        · have h := h.2 c5
          refine lv_aload_n (pc := 74) S.1 S.2.1 dX3_chooseTunes_74 rfl (lv_at hl 0 rfl) ?_
          refine tp_get (pc := 75) S E.1 hP iwX3 39 (cC_plan a ca st3) rfl 1 (by decide) kw_174 (v := .ref (a 41)) rfl dX3_chooseTunes_75 ?_
          refine lv_iload (pc := 78) S.1 S.2.1 dX3_chooseTunes_78 (lv_at hl 6 rfl) ?_
          refine lv_aload_n (pc := 80) S.1 S.2.1 dX3_chooseTunes_80 rfl (lv_at hl 0 rfl) ?_
          refine lv_aload_n (pc := 81) S.1 S.2.1 dX3_chooseTunes_81 rfl (lv_at hl 2 rfl) ?_
          refine lv_aload_n (pc := 82) S.1 S.2.1 dX3_chooseTunes_82 rfl (lv_at hl 1 rfl) ?_
          refine lv_iload (pc := 83) S.1 S.2.1 dX3_chooseTunes_83 (lv_at hl 6 rfl) ?_
          obtain ⟨hn6, h⟩ := h
          refine tp_aald (pc := 85) S E.1 hP 13 2 (cC_callsA a ca st3) rfl (j := x7.toNatClampNeg) (d := a (14 + x7.toNatClampNeg)) rfl rfl hn6 dX3_chooseTunes_85 ?_
          refine lv_iconst (pc := 86) S.1 S.2.1 (v := 4) dX3_chooseTunes_86 (by decide) ?_
          refine tGi hS (tRunV (pc := 87) (As := [.int (4 : Int32)]) (rest := [.ref (a 26), .ref (a 39), .int x7, .ref (a 41)]) S E hP hS (mt_X0_fact l dC dI a ca tb _ hj4 (4 : Int32) st3 _ h) (cw_X0_fact ⟨Nat.le_of_ble_eq_true rfl, Nat.le_of_ble_eq_true rfl⟩) kw_187 kw_146 kw_147 (14 + x7.toNatClampNeg) 0 rfl rfl (cC_call a ca st3 hj4) rfl hl.1 rfl (Nat.le_of_ble_eq_true rfl) dX3_chooseTunes_87) (fun r6 st5 H locs h hP hS => ?_)
          refine lv_iload_n (pc := 90) S.1 S.2.1 dX3_chooseTunes_90 rfl (lv_at hl 3 rfl) ?_
          refine tGi hS (tRunV (pc := 91) (As := [.ref (a 26), .int r6, .int x3]) (rest := [.int x7, .ref (a 41)]) S E hP hS (mt_X3_longestUnheard l dC dI a ca tb _ r6 x3 st5 _ h) (cw_X3_longestUnheard ⟨Nat.le_of_ble_eq_true rfl, Nat.le_of_ble_eq_true rfl⟩) kw_213 kw_214 kw_215 39 3 rfl rfl (cC_plan a ca st5) rfl hl.1 rfl (Nat.le_of_ble_eq_true rfl) dX3_chooseTunes_91) (fun r8 st7 H locs h hP hS => ?_)
          obtain ⟨hn7, h⟩ := h
          refine tp_iast (pc := 94) S E.1 hP (cC_D E st7) hS 41 0 (cC_chosenTunes a ca st7) rfl (j := x7.toNatClampNeg) rfl hn7 (sC_chosenTunes a ca st7 _ _) dX3_chooseTunes_94 (fun st9 H locs e8 hP hS => ?_)
          have h := h st9 e8
          refine lv_aload_n (pc := 95) S.1 S.2.1 dX3_chooseTunes_95 rfl (lv_at hl 0 rfl) ?_
          refine lv_aload_n (pc := 96) S.1 S.2.1 dX3_chooseTunes_96 rfl (lv_at hl 0 rfl) ?_
          refine tp_get (pc := 97) S E.1 hP iwX3 39 (cC_plan a ca st9) rfl 1 (by decide) kw_174 (v := .ref (a 41)) rfl dX3_chooseTunes_97 ?_
          refine lv_iload (pc := 100) S.1 S.2.1 dX3_chooseTunes_100 (lv_at hl 6 rfl) ?_
          obtain ⟨hn9, h⟩ := h
          refine tp_iald (pc := 102) S E.1 hP 41 0 (cC_chosenTunes a ca st9) rfl (j := x7.toNatClampNeg) rfl hn9 dX3_chooseTunes_102 ?_
          refine lv_iload (pc := 103) S.1 S.2.1 dX3_chooseTunes_103 (lv_at hl 4 rfl) ?_
          refine tGv hS (tRunV (pc := 105) (As := [.int (st9 29 x7.toNatClampNeg), .int x5]) (rest := []) S E hP hS (mt_X3_takeTurn l dC dI a ca tb _ (st9 29 x7.toNatClampNeg) x5 st9 _ h) (cw_X3_takeTurn ⟨Nat.le_of_ble_eq_true rfl, Nat.le_of_ble_eq_true rfl⟩) kw_216 kw_217 kw_218 39 3 rfl rfl (cC_plan a ca st9) rfl hl.1 rfl (Nat.le_of_ble_eq_true rfl) dX3_chooseTunes_105) (fun st10 H locs h hP hS => ?_)
          obtain ⟨y5_11, e10⟩ : ∃ y : Int32, y = x5 + 1 := ⟨_, rfl⟩
          have h := h y5_11 e10
          refine lv_iinc (pc := 108) S.1 S.2.1 (v := y5_11) (lv' := [(5, .int y5_11), (0, .ref (a 39)), (1, .ref (a 13)), (2, .ref (a 26)), (3, .int x3), (6, .int x6), (7, .int x7)]) dX3_chooseTunes_108 hl (k := 4) rfl (by rw [e10]; rfl) (by decide) rfl (fun ls hl => ?_)
          exact (fun x3 x5 x6 x7 st h => wk_X3_chooseTunes_111 S hr hlk E post (wp_Plan_chooseTunes_46 post k117 n) ih k117 hk117 x3 x5 x6 x7 st h) x3 y5_11 x6 x7 st10 h _ _ _ hP hS (lv_sub hl [1, 2, 3, 4, 0, 5, 6] rfl)
set_option maxHeartbeats 4000000 in
set_option maxRecDepth 100000 in
theorem wk_X3_chooseTunes_37 {p : Program} {l : Launch} {e : Env} {s : State} {m : MethodId} {args : Array Value} {below : List Frame} {meth : Method} {c : Code} {dC : Nat → ClassId} {dI : Nat → Nat → Nat} {a : Nat → Nat} {ca : Nat → ClassId} {tb : Nat → Nat} {w0 : Cond} (S : CallFix p m c cX3_chooseTunes 8 s args (w0 :: tWALL) RX3) (hr : meth.sig.returnType = none) (hlk : meth.locks = false) (E : tEnv 47 dC dI a ca tb s) (post : tSt → Prop) : ∀ (n : Nat) (x3 : Int32) (x5 : Int32) (x6 : Int32) (st : tSt), wp_Plan_chooseTunes_37 post n x3 x5 x6 st → tAt p l e rmX3_chooseTunes s m args below meth c (dC, dI) (cwC a ca) (tA 47 a s.heap.size) (tQv (cwC a ca) 47 dC dI a args below s post) 8 37 [(0, .ref (a 39)), (1, .ref (a 13)), (2, .ref (a 26)), (3, .int x3), (5, .int x5), (6, .int x6)] [] st := by
  intro n
  induction n with
  | zero => intro x3 x5 x6 st h; exact absurd h id
  | succ n ih =>
    intro x3 x5 x6 st h H locs ls hP hS hl
    refine lv_iload (pc := 37) S.1 S.2.1 dX3_chooseTunes_37 (lv_at hl 5 rfl) ?_
    refine lv_iconst (pc := 39) S.1 S.2.1 (v := 3) dX3_chooseTunes_39 (by decide) ?_
    refine lv_icmp_gt (pc := 40) (tgt := 123) S.1 S.2.1 dX3_chooseTunes_40 (by decide) (fun c1 => ?_) (fun c1 => ?_)
    · have h := h.1 c1
      exact tRv S hr hlk hP hS h dX3_chooseTunes_123
    · have h := h.2 c1
      refine lv_iconst (pc := 43) S.1 S.2.1 (v := 0) dX3_chooseTunes_43 (by decide) ?_
      refine lv_istore (pc := 44) S.1 S.2.1 (lv' := [(7, .int (0 : Int32)), (0, .ref (a 39)), (1, .ref (a 13)), (2, .ref (a 26)), (3, .int x3), (5, .int x5), (6, .int x6)]) dX3_chooseTunes_44 hl (by decide) rfl (fun ls hl => ?_)
      exact (fun x3 x5 x6 x7 st h => Exists.elim h (fun q h => wk_X3_chooseTunes_46 S hr hlk E post (wp_Plan_chooseTunes_117 post (wp_Plan_chooseTunes_37 post n)) (fun x3 x5 x6 st h => wk_X3_chooseTunes_117 S hr hlk E post (wp_Plan_chooseTunes_37 post n) ih x3 x5 x6 st h) q x3 x5 x6 x7 st h)) x3 x5 x6 (0 : Int32) st h _ _ _ hP hS (lv_sub hl [1, 2, 3, 4, 5, 6, 0] rfl)
set_option maxHeartbeats 4000000 in
set_option maxRecDepth 100000 in
theorem wk_X3_chooseTunes_30 {p : Program} {l : Launch} {e : Env} {s : State} {m : MethodId} {args : Array Value} {below : List Frame} {meth : Method} {c : Code} {dC : Nat → ClassId} {dI : Nat → Nat → Nat} {a : Nat → Nat} {ca : Nat → ClassId} {tb : Nat → Nat} {w0 : Cond} (S : CallFix p m c cX3_chooseTunes 8 s args (w0 :: tWALL) RX3) (hr : meth.sig.returnType = none) (hlk : meth.locks = false) (E : tEnv 47 dC dI a ca tb s) (post : tSt → Prop) : ∀ (x3 : Int32) (x4 : Int32) (st : tSt), wp_Plan_chooseTunes_30 post x3 x4 st → tAt p l e rmX3_chooseTunes s m args below meth c (dC, dI) (cwC a ca) (tA 47 a s.heap.size) (tQv (cwC a ca) 47 dC dI a args below s post) 8 30 [(0, .ref (a 39)), (1, .ref (a 13)), (2, .ref (a 26)), (3, .int x3), (4, .int x4)] [] st := by
  intro x3 x4 st h H locs ls hP hS hl
  refine lv_iload (pc := 30) S.1 S.2.1 dX3_chooseTunes_30 (lv_at hl 4 rfl) ?_
  refine lv_istore (pc := 32) S.1 S.2.1 (lv' := [(5, .int x4), (0, .ref (a 39)), (1, .ref (a 13)), (2, .ref (a 26)), (3, .int x3), (4, .int x4)]) dX3_chooseTunes_32 hl (by decide) rfl (fun ls hl => ?_)
  refine lv_iconst (pc := 34) S.1 S.2.1 (v := 0) dX3_chooseTunes_34 (by decide) ?_
  refine lv_istore (pc := 35) S.1 S.2.1 (lv' := [(6, .int (0 : Int32)), (5, .int x4), (0, .ref (a 39)), (1, .ref (a 13)), (2, .ref (a 26)), (3, .int x3), (4, .int x4)]) dX3_chooseTunes_35 hl (by decide) rfl (fun ls hl => ?_)
  exact (fun x3 x5 x6 st h => Exists.elim h (fun q h => wk_X3_chooseTunes_37 S hr hlk E post  q x3 x5 x6 st h)) x3 x4 (0 : Int32) st h _ _ _ hP hS (lv_sub hl [2, 3, 4, 5, 1, 0] rfl)
set_option maxHeartbeats 4000000 in
set_option maxRecDepth 100000 in
theorem wk_X3_chooseTunes_3 {p : Program} {l : Launch} {e : Env} {s : State} {m : MethodId} {args : Array Value} {below : List Frame} {meth : Method} {c : Code} {dC : Nat → ClassId} {dI : Nat → Nat → Nat} {a : Nat → Nat} {ca : Nat → ClassId} {tb : Nat → Nat} {w0 : Cond} (S : CallFix p m c cX3_chooseTunes 8 s args (w0 :: tWALL) RX3) (hr : meth.sig.returnType = none) (hlk : meth.locks = false) (E : tEnv 47 dC dI a ca tb s) (post : tSt → Prop) (k30 : Int32 → Int32 → tSt → Prop) (hk30 : ∀ (x3 : Int32) (x4 : Int32) (st : tSt), k30 x3 x4 st → tAt p l e rmX3_chooseTunes s m args below meth c (dC, dI) (cwC a ca) (tA 47 a s.heap.size) (tQv (cwC a ca) 47 dC dI a args below s post) 8 30 [(0, .ref (a 39)), (1, .ref (a 13)), (2, .ref (a 26)), (3, .int x3), (4, .int x4)] [] st) : ∀ (n : Nat) (x3 : Int32) (x4 : Int32) (x5 : Int32) (st : tSt), wp_Plan_chooseTunes_3 post k30 n x3 x4 x5 st → tAt p l e rmX3_chooseTunes s m args below meth c (dC, dI) (cwC a ca) (tA 47 a s.heap.size) (tQv (cwC a ca) 47 dC dI a args below s post) 8 3 [(0, .ref (a 39)), (1, .ref (a 13)), (2, .ref (a 26)), (3, .int x3), (4, .int x4), (5, .int x5)] [] st := by
  intro n
  induction n with
  | zero => intro x3 x4 x5 st h; exact absurd h id
  | succ n ih =>
    intro x3 x4 x5 st h H locs ls hP hS hl
    refine lv_iload (pc := 3) S.1 S.2.1 dX3_chooseTunes_3 (lv_at hl 5 rfl) ?_
    refine lv_bipush (pc := 5) S.1 S.2.1 (v := 10) dX3_chooseTunes_5 (by decide) ?_
    refine lv_icmp_ge (pc := 7) (tgt := 30) S.1 S.2.1 dX3_chooseTunes_7 (by decide) (fun c1 => ?_) (fun c1 => ?_)
    · have h := h.1 c1
      exact hk30 x3 x4 st h _ _ _ hP hS (lv_sub hl [0, 1, 2, 3, 4] rfl)
    · have h := h.2 c1
      refine lv_aload_n (pc := 10) S.1 S.2.1 dX3_chooseTunes_10 rfl (lv_at hl 0 rfl) ?_
      refine tp_get (pc := 11) S E.1 hP iwX3 39 (cC_plan a ca st) rfl 2 (by decide) kw_210 (v := .ref (a 42)) rfl dX3_chooseTunes_11 ?_
      refine lv_iload (pc := 14) S.1 S.2.1 dX3_chooseTunes_14 (lv_at hl 5 rfl) ?_
      refine lv_aload_n (pc := 16) S.1 S.2.1 dX3_chooseTunes_16 rfl (lv_at hl 2 rfl) ?_
      refine lv_iload (pc := 17) S.1 S.2.1 dX3_chooseTunes_17 (lv_at hl 5 rfl) ?_
      obtain ⟨hn2, h⟩ := h
      refine tp_aald (pc := 19) S E.1 hP 26 3 (cC_tunesA a ca st) rfl (j := x5.toNatClampNeg) (d := a (27 + x5.toNatClampNeg)) rfl rfl hn2 dX3_chooseTunes_19 ?_
      have hj3 := t_lt hn2
      refine tp_getN (pc := 20) S E.2.1 E.1 hP iwX6 (27 + x5.toNatClampNeg) (cC_tune a ca st hj3) rfl 2 (by decide) kw_219 (v := .int (st 22 x5.toNatClampNeg)) rfl dX3_chooseTunes_20 ?_
      obtain ⟨hn4, h⟩ := h
      refine tp_iast (pc := 23) S E.1 hP (cC_D E st) hS 42 0 (cC_lastTurns a ca st) rfl (j := x5.toNatClampNeg) rfl hn4 (sC_lastTurns a ca st _ _) dX3_chooseTunes_23 (fun st1 H locs e5 hP hS => ?_)
      have h := h st1 e5
      obtain ⟨y5_2, e6⟩ : ∃ y : Int32, y = x5 + 1 := ⟨_, rfl⟩
      have h := h y5_2 e6
      refine lv_iinc (pc := 24) S.1 S.2.1 (v := y5_2) (lv' := [(5, .int y5_2), (0, .ref (a 39)), (1, .ref (a 13)), (2, .ref (a 26)), (3, .int x3), (4, .int x4)]) dX3_chooseTunes_24 hl (k := 5) rfl (by rw [e6]; rfl) (by decide) rfl (fun ls hl => ?_)
      refine lv_goto (pc := 27) S.1 S.2.1 (tgt := 3) dX3_chooseTunes_27 (by decide) ?_
      exact ih x3 x4 y5_2 st1 h _ _ _ hP hS (lv_sub hl [1, 2, 3, 4, 5, 0] rfl)
set_option maxHeartbeats 4000000 in
set_option maxRecDepth 100000 in
theorem mt_X3_chooseTunes (l : Launch) (dC : Nat → ClassId) (dI : Nat → Nat → Nat) (a : Nat → Nat) (ca : Nat → ClassId) (tb : Nat → Nat) (sz : Nat) (x3 : Int32) (x4 : Int32) (st : tSt) (post : tSt → Prop) (h : wp_Plan_chooseTunes x3 x4 st post) : Met l yX3_chooseTunes (.code yX3_chooseTunes cX3_chooseTunes 8 none :: tWALL) rmX3_chooseTunes (va_Pc [.ref (a 39), .ref (a 13), .ref (a 26), .int x3, .int x4] (tPre 47 (cwC a ca) dC dI a ca tb sz st)) (va_Qv post (tB (cwC a ca) dC dI) (tA 47 a sz)) 0 0 (tA 47 a sz) := by
  refine tp_met (by decide) (Nat.le_of_ble_eq_true rfl) ?_
  intro p e s m below meth c ls S hr hlk hsz E hP hl
  subst hsz
  have S : CallFix p m c cX3_chooseTunes 8 s _ (.code yX3_chooseTunes cX3_chooseTunes 8 none :: tWALL) RX3 := S
  have hl : lv_has ls 8 [(0, .ref (a 39)), (1, .ref (a 13)), (2, .ref (a 26)), (3, .int x3), (4, .int x4)] := hl
  have hS : va_S (tA 47 a s.heap.size) s.heap s.heap [] := va_S.rf
  show W p l e _ s m _ below meth c s.heap [] 0 0 (tQv (cwC a ca) 47 dC dI a ([.ref (a 39), .ref (a 13), .ref (a 26), .int x3, .int x4] : List Value).toArray below s post) (F0 m 0 ls [])
  refine lv_iconst (pc := 0) S.1 S.2.1 (v := 0) dX3_chooseTunes_0 (by decide) ?_
  refine lv_istore (pc := 1) S.1 S.2.1 (lv' := [(5, .int (0 : Int32)), (0, .ref (a 39)), (1, .ref (a 13)), (2, .ref (a 26)), (3, .int x3), (4, .int x4)]) dX3_chooseTunes_1 hl (by decide) rfl (fun ls hl => ?_)
  exact (fun x3 x4 x5 st h => Exists.elim h (fun q h => wk_X3_chooseTunes_3 S hr hlk E post (wp_Plan_chooseTunes_30 post) (fun x3 x4 st h => wk_X3_chooseTunes_30 S hr hlk E post  x3 x4 st h) q x3 x4 x5 st h)) x3 x4 (0 : Int32) st h _ _ _ hP hS (lv_sub hl [1, 2, 3, 4, 5, 0] rfl)

abbrev rmX3_hearTunes : Room := { frames := 0, cells := 0, slots := 0, locals := 0 }
theorem cw_X3_hearTunes {R : Room} {own : String} {index : Nat} (h : rmX3_hearTunes.frames + 1 ≤ R.frames ∧ 8 + (3 + 11) + rmX3_hearTunes.locals ≤ R.locals) : tCw R own index yX3_hearTunes cX3_hearTunes 3 none rmX3_hearTunes 1 := ⟨kw_221, kw_161, ⟨rfl, rfl, h.1, h.2⟩, by decide +kernel, by decide +kernel, by decide +kernel⟩
set_option maxHeartbeats 4000000 in
set_option maxRecDepth 100000 in
theorem wk_X3_hearTunes_2 {p : Program} {l : Launch} {e : Env} {s : State} {m : MethodId} {args : Array Value} {below : List Frame} {meth : Method} {c : Code} {dC : Nat → ClassId} {dI : Nat → Nat → Nat} {a : Nat → Nat} {ca : Nat → ClassId} {tb : Nat → Nat} {w0 : Cond} (S : CallFix p m c cX3_hearTunes 3 s args (w0 :: tWALL) RX3) (hr : meth.sig.returnType = none) (hlk : meth.locks = false) (E : tEnv 47 dC dI a ca tb s) (post : tSt → Prop) : ∀ (n : Nat) (x2 : Int32) (st : tSt), wp_Plan_hearTunes_2 post n x2 st → tAt p l e rmX3_hearTunes s m args below meth c (dC, dI) (cwC a ca) (tA 47 a s.heap.size) (tQv (cwC a ca) 47 dC dI a args below s post) 3 2 [(0, .ref (a 39)), (1, .ref (a 26)), (2, .int x2)] [] st := by
  intro n
  induction n with
  | zero => intro x2 st h; exact absurd h id
  | succ n ih =>
    intro x2 st h H locs ls hP hS hl
    refine lv_iload_n (pc := 2) S.1 S.2.1 dX3_hearTunes_2 rfl (lv_at hl 2 rfl) ?_
    refine lv_bipush (pc := 3) S.1 S.2.1 (v := 10) dX3_hearTunes_3 (by decide) ?_
    refine lv_icmp_ge (pc := 5) (tgt := 26) S.1 S.2.1 dX3_hearTunes_5 (by decide) (fun c1 => ?_) (fun c1 => ?_)
    · have h := h.1 c1
      exact tRv S hr hlk hP hS h dX3_hearTunes_26
    · have h := h.2 c1
      refine lv_aload_n (pc := 8) S.1 S.2.1 dX3_hearTunes_8 rfl (lv_at hl 1 rfl) ?_
      refine lv_iload_n (pc := 9) S.1 S.2.1 dX3_hearTunes_9 rfl (lv_at hl 2 rfl) ?_
      obtain ⟨hn2, h⟩ := h
      refine tp_aald (pc := 10) S E.1 hP 26 3 (cC_tunesA a ca st) rfl (j := x2.toNatClampNeg) (d := a (27 + x2.toNatClampNeg)) rfl rfl hn2 dX3_hearTunes_10 ?_
      have hj3 := t_lt hn2
      refine lv_aload_n (pc := 11) S.1 S.2.1 dX3_hearTunes_11 rfl (lv_at hl 0 rfl) ?_
      refine tp_get (pc := 12) S E.1 hP iwX3 39 (cC_plan a ca st) rfl 2 (by decide) kw_210 (v := .ref (a 42)) rfl dX3_hearTunes_12 ?_
      refine lv_iload_n (pc := 15) S.1 S.2.1 dX3_hearTunes_15 rfl (lv_at hl 2 rfl) ?_
      obtain ⟨hn4, h⟩ := h
      refine tp_iald (pc := 16) S E.1 hP 42 0 (cC_lastTurns a ca st) rfl (j := x2.toNatClampNeg) rfl hn4 dX3_hearTunes_16 ?_
      refine tp_putN (pc := 17) S E.2.1 E.1 hP (cC_D E st) hS iwX6 tyX6 tyX6_ok nmX6 (27 + x2.toNatClampNeg) (cC_tune a ca st hj3) rfl 2 (by decide) kw_219 rfl (v := .int (st 30 x2.toNatClampNeg)) (tyX6_ok 2 (by decide)) rfl rfl (Nat.le_of_ble_eq_true rfl) (sC_tune_lastTurn a ca st hj3 _) dX3_hearTunes_17 (fun st1 H locs e5 hP hS => ?_)
      have h := h st1 e5
      obtain ⟨y2_2, e6⟩ : ∃ y : Int32, y = x2 + 1 := ⟨_, rfl⟩
      have h := h y2_2 e6
      refine lv_iinc (pc := 20) S.1 S.2.1 (v := y2_2) (lv' := [(2, .int y2_2), (0, .ref (a 39)), (1, .ref (a 26))]) dX3_hearTunes_20 hl (k := 2) rfl (by rw [e6]; rfl) (by decide) rfl (fun ls hl => ?_)
      refine lv_goto (pc := 23) S.1 S.2.1 (tgt := 2) dX3_hearTunes_23 (by decide) ?_
      exact ih y2_2 st1 h _ _ _ hP hS (lv_sub hl [1, 2, 0] rfl)
set_option maxHeartbeats 4000000 in
set_option maxRecDepth 100000 in
theorem mt_X3_hearTunes (l : Launch) (dC : Nat → ClassId) (dI : Nat → Nat → Nat) (a : Nat → Nat) (ca : Nat → ClassId) (tb : Nat → Nat) (sz : Nat) (st : tSt) (post : tSt → Prop) (h : wp_Plan_hearTunes  st post) : Met l yX3_hearTunes (.code yX3_hearTunes cX3_hearTunes 3 none :: tWALL) rmX3_hearTunes (va_Pc [.ref (a 39), .ref (a 26)] (tPre 47 (cwC a ca) dC dI a ca tb sz st)) (va_Qv post (tB (cwC a ca) dC dI) (tA 47 a sz)) 0 0 (tA 47 a sz) := by
  refine tp_met (by decide) (Nat.le_of_ble_eq_true rfl) ?_
  intro p e s m below meth c ls S hr hlk hsz E hP hl
  subst hsz
  have S : CallFix p m c cX3_hearTunes 3 s _ (.code yX3_hearTunes cX3_hearTunes 3 none :: tWALL) RX3 := S
  have hl : lv_has ls 3 [(0, .ref (a 39)), (1, .ref (a 26))] := hl
  have hS : va_S (tA 47 a s.heap.size) s.heap s.heap [] := va_S.rf
  show W p l e _ s m _ below meth c s.heap [] 0 0 (tQv (cwC a ca) 47 dC dI a ([.ref (a 39), .ref (a 26)] : List Value).toArray below s post) (F0 m 0 ls [])
  refine lv_iconst (pc := 0) S.1 S.2.1 (v := 0) dX3_hearTunes_0 (by decide) ?_
  refine lv_istore_n (pc := 1) S.1 S.2.1 (lv' := [(2, .int (0 : Int32)), (0, .ref (a 39)), (1, .ref (a 26))]) dX3_hearTunes_1 rfl hl (by decide) rfl (fun ls hl => ?_)
  exact (fun x2 st h => Exists.elim h (fun q h => wk_X3_hearTunes_2 S hr hlk E post  q x2 st h)) (0 : Int32) st h _ _ _ hP hS (lv_sub hl [1, 2, 0] rfl)

abbrev rmX7_feed : Room := { frames := 1, cells := 0, slots := 0, locals := 22 }
theorem cw_X7_feed {R : Room} {own : String} {index : Nat} (h : rmX7_feed.frames + 1 ≤ R.frames ∧ 8 + (6 + 11) + rmX7_feed.locals ≤ R.locals) : tCw R own index yX7_feed cX7_feed 6 (some .int) rmX7_feed 5 := ⟨kw_232, kw_6, ⟨rfl, rfl, h.1, h.2⟩, by decide +kernel, by decide +kernel, by decide +kernel⟩

set_option maxHeartbeats 4000000 in
set_option maxRecDepth 100000 in
theorem mt_X7_feed (l : Launch) (dC : Nat → ClassId) (dI : Nat → Nat → Nat) (a : Nat → Nat) (ca : Nat → ClassId) (tb : Nat → Nat) (sz : Nat) (x1 : Int32) (x2 : Int32) (x3 : Int32) (x4 : Int32) (x5 : Int32) (st : tSt) (post : Int32 → tSt → Prop) (h : wp_T_feed x1 x2 x3 x4 x5 st post) : Met l yX7_feed (.code yX7_feed cX7_feed 6 (some .int) :: tWALL) rmX7_feed (va_Pc [.ref (a 0), .int x1, .int x2, .int x3, .int x4, .int x5] (tPre 47 (cwC a ca) dC dI a ca tb sz st)) (va_Qi post (tB (cwC a ca) dC dI) (tA 47 a sz)) 0 0 (tA 47 a sz) := by
  refine tp_met (by decide) (Nat.le_of_ble_eq_true rfl) ?_
  intro p e s m below meth c ls S hr hlk hsz E hP hl
  subst hsz
  have S : CallFix p m c cX7_feed 6 s _ (.code yX7_feed cX7_feed 6 (some .int) :: tWALL) RX7 := S
  have hl : lv_has ls 6 [(0, .ref (a 0)), (1, .int x1), (2, .int x2), (3, .int x3), (4, .int x4), (5, .int x5)] := hl
  have hS : va_S (tA 47 a s.heap.size) s.heap s.heap [] := va_S.rf
  show W p l e _ s m _ below meth c s.heap [] 0 0 (tQi (cwC a ca) 47 dC dI a ([.ref (a 0), .int x1, .int x2, .int x3, .int x4, .int x5] : List Value).toArray below s post) (F0 m 0 ls [])
  refine lv_aload_n (pc := 0) S.1 S.2.1 dX7_feed_0 rfl (lv_at hl 0 rfl) ?_
  refine tp_get (pc := 1) S E.1 hP iwX7 0 (cC_tp a ca st) rfl 0 (by decide) kw_222 (v := .ref (a 1)) rfl dX7_feed_1 ?_
  refine tGi hS (tRunV (pc := 4) (As := []) (rest := []) S E hP hS (mt_X4_hasRoom l dC dI a ca tb _  st _ h) (cw_X4_hasRoom ⟨Nat.le_of_ble_eq_true rfl, Nat.le_of_ble_eq_true rfl⟩) kw_223 kw_224 kw_225 1 4 rfl rfl (cC_tape a ca st) rfl hl.1 rfl (Nat.le_of_ble_eq_true rfl) dX7_feed_4) (fun r2 st1 H locs h hP hS => ?_)
  refine lv_if_ne (pc := 7) (tgt := 12) S.1 S.2.1 dX7_feed_7 (by decide) (fun c1 => ?_) (fun c1 => ?_)
  · have h := h.2 c1
    refine lv_aload_n (pc := 12) S.1 S.2.1 dX7_feed_12 rfl (lv_at hl 0 rfl) ?_
    refine tp_get (pc := 13) S E.1 hP iwX7 0 (cC_tp a ca st1) rfl 0 (by decide) kw_222 (v := .ref (a 1)) rfl dX7_feed_13 ?_
    refine lv_iload_n (pc := 16) S.1 S.2.1 dX7_feed_16 rfl (lv_at hl 1 rfl) ?_
    refine tGv hS (tRunV (pc := 17) (As := [.int x1]) (rest := []) S E hP hS (mt_X4_put l dC dI a ca tb _ x1 st1 _ h) (cw_X4_put ⟨Nat.le_of_ble_eq_true rfl, Nat.le_of_ble_eq_true rfl⟩) kw_226 kw_227 kw_228 1 4 rfl rfl (cC_tape a ca st1) rfl hl.1 rfl (Nat.le_of_ble_eq_true rfl) dX7_feed_17) (fun st3 H locs h hP hS => ?_)
    refine lv_aload_n (pc := 20) S.1 S.2.1 dX7_feed_20 rfl (lv_at hl 0 rfl) ?_
    refine tp_get (pc := 21) S E.1 hP iwX7 0 (cC_tp a ca st3) rfl 0 (by decide) kw_222 (v := .ref (a 1)) rfl dX7_feed_21 ?_
    refine lv_iload_n (pc := 24) S.1 S.2.1 dX7_feed_24 rfl (lv_at hl 2 rfl) ?_
    refine tGv hS (tRunV (pc := 25) (As := [.int x2]) (rest := []) S E hP hS (mt_X4_put l dC dI a ca tb _ x2 st3 _ h) (cw_X4_put ⟨Nat.le_of_ble_eq_true rfl, Nat.le_of_ble_eq_true rfl⟩) kw_226 kw_227 kw_228 1 4 rfl rfl (cC_tape a ca st3) rfl hl.1 rfl (Nat.le_of_ble_eq_true rfl) dX7_feed_25) (fun st4 H locs h hP hS => ?_)
    refine lv_aload_n (pc := 28) S.1 S.2.1 dX7_feed_28 rfl (lv_at hl 0 rfl) ?_
    refine tp_get (pc := 29) S E.1 hP iwX7 0 (cC_tp a ca st4) rfl 0 (by decide) kw_222 (v := .ref (a 1)) rfl dX7_feed_29 ?_
    refine lv_iload_n (pc := 32) S.1 S.2.1 dX7_feed_32 rfl (lv_at hl 3 rfl) ?_
    refine tGv hS (tRunV (pc := 33) (As := [.int x3]) (rest := []) S E hP hS (mt_X4_put l dC dI a ca tb _ x3 st4 _ h) (cw_X4_put ⟨Nat.le_of_ble_eq_true rfl, Nat.le_of_ble_eq_true rfl⟩) kw_226 kw_227 kw_228 1 4 rfl rfl (cC_tape a ca st4) rfl hl.1 rfl (Nat.le_of_ble_eq_true rfl) dX7_feed_33) (fun st5 H locs h hP hS => ?_)
    refine lv_aload_n (pc := 36) S.1 S.2.1 dX7_feed_36 rfl (lv_at hl 0 rfl) ?_
    refine tp_get (pc := 37) S E.1 hP iwX7 0 (cC_tp a ca st5) rfl 0 (by decide) kw_222 (v := .ref (a 1)) rfl dX7_feed_37 ?_
    refine lv_iload (pc := 40) S.1 S.2.1 dX7_feed_40 (lv_at hl 4 rfl) ?_
    refine tGv hS (tRunV (pc := 42) (As := [.int x4]) (rest := []) S E hP hS (mt_X4_put l dC dI a ca tb _ x4 st5 _ h) (cw_X4_put ⟨Nat.le_of_ble_eq_true rfl, Nat.le_of_ble_eq_true rfl⟩) kw_226 kw_227 kw_228 1 4 rfl rfl (cC_tape a ca st5) rfl hl.1 rfl (Nat.le_of_ble_eq_true rfl) dX7_feed_42) (fun st6 H locs h hP hS => ?_)
    refine lv_aload_n (pc := 45) S.1 S.2.1 dX7_feed_45 rfl (lv_at hl 0 rfl) ?_
    refine tp_get (pc := 46) S E.1 hP iwX7 0 (cC_tp a ca st6) rfl 0 (by decide) kw_222 (v := .ref (a 1)) rfl dX7_feed_46 ?_
    refine lv_iload (pc := 49) S.1 S.2.1 dX7_feed_49 (lv_at hl 5 rfl) ?_
    refine tGv hS (tRunV (pc := 51) (As := [.int x5]) (rest := []) S E hP hS (mt_X4_put l dC dI a ca tb _ x5 st6 _ h) (cw_X4_put ⟨Nat.le_of_ble_eq_true rfl, Nat.le_of_ble_eq_true rfl⟩) kw_226 kw_227 kw_228 1 4 rfl rfl (cC_tape a ca st6) rfl hl.1 rfl (Nat.le_of_ble_eq_true rfl) dX7_feed_51) (fun st7 H locs h hP hS => ?_)
    refine lv_aload_n (pc := 54) S.1 S.2.1 dX7_feed_54 rfl (lv_at hl 0 rfl) ?_
    refine tp_get (pc := 55) S E.1 hP iwX7 0 (cC_tp a ca st7) rfl 0 (by decide) kw_222 (v := .ref (a 1)) rfl dX7_feed_55 ?_
    refine tGi hS (tRunV (pc := 58) (As := []) (rest := []) S E hP hS (mt_X4_size l dC dI a ca tb _  st7 _ h) (cw_X4_size ⟨Nat.le_of_ble_eq_true rfl, Nat.le_of_ble_eq_true rfl⟩) kw_229 kw_230 kw_231 1 4 rfl rfl (cC_tape a ca st7) rfl hl.1 rfl (Nat.le_of_ble_eq_true rfl) dX7_feed_58) (fun r9 st8 H locs h hP hS => ?_)
    exact tRi S hr hlk hP hS h dX7_feed_61
  · have h := h.1 c1
    refine lv_iconst (pc := 10) S.1 S.2.1 (v := (-1)) dX7_feed_10 (by decide) ?_
    exact tRi S hr hlk hP hS h dX7_feed_11
