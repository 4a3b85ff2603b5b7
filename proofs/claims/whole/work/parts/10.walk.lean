abbrev rmX4_size : Room := { frames := 0, cells := 0, slots := 0, locals := 0 }
theorem cw_X4_size {R : Room} {own : String} {index : Nat} (h : rmX4_size.frames + 1 ≤ R.frames ∧ 8 + (1 + 11) + rmX4_size.locals ≤ R.locals) : tCw R own index yX4_size cX4_size 1 (some .int) rmX4_size 0 := ⟨kw_2, kw_1, ⟨rfl, rfl, h.1, h.2⟩, by decide +kernel, by decide +kernel, by decide +kernel⟩

set_option maxHeartbeats 4000000 in
set_option maxRecDepth 100000 in
theorem mt_X4_size (l : Launch) (dC : Nat → ClassId) (dI : Nat → Nat → Nat) (a : Nat → Nat) (ca : Nat → ClassId) (tb : Nat → Nat) (sz : Nat) (st : tSt) (post : Int32 → tSt → Prop) (h : wp_Tape_size  st post) : Met l yX4_size (.code yX4_size cX4_size 1 (some .int) :: tWALL) rmX4_size (va_Pc [.ref (a 1)] (tPre 47 (cwC a ca) dC dI a ca tb sz st)) (va_Qi post (tB (cwC a ca) dC dI) (tA 47 a sz)) 0 0 (tA 47 a sz) := by
  refine tp_met (by decide) (Nat.le_of_ble_eq_true rfl) ?_
  intro p e s m below meth c ls S hr hlk hsz E hP hl
  subst hsz
  have S : CallFix p m c cX4_size 1 s _ (.code yX4_size cX4_size 1 (some .int) :: tWALL) RX4 := S
  have hl : lv_has ls 1 [(0, .ref (a 1))] := hl
  have hS : va_S (tA 47 a s.heap.size) s.heap s.heap [] := va_S.rf
  show W p l e _ s m _ below meth c s.heap [] 0 0 (tQi (cwC a ca) 47 dC dI a ([.ref (a 1)] : List Value).toArray below s post) (F0 m 0 ls [])
  refine lv_aload_n (pc := 0) S.1 S.2.1 dX4_size_0 rfl (lv_at hl 0 rfl) ?_
  refine tp_get (pc := 1) S E.1 hP iwX4 1 (cC_tape a ca st) rfl 1 (by decide) kw_0 (v := .int (st 5 0)) rfl dX4_size_1 ?_
  exact tRi S hr hlk hP hS h dX4_size_4

abbrev rmX4_hasRoom : Room := { frames := 0, cells := 0, slots := 0, locals := 0 }
theorem cw_X4_hasRoom {R : Room} {own : String} {index : Nat} (h : rmX4_hasRoom.frames + 1 ≤ R.frames ∧ 8 + (1 + 11) + rmX4_hasRoom.locals ≤ R.locals) : tCw R own index yX4_hasRoom cX4_hasRoom 1 (some .boolean) rmX4_hasRoom 0 := ⟨kw_3, kw_1, ⟨rfl, rfl, h.1, h.2⟩, by decide +kernel, by decide +kernel, by decide +kernel⟩

set_option maxHeartbeats 4000000 in
set_option maxRecDepth 100000 in
theorem mt_X4_hasRoom (l : Launch) (dC : Nat → ClassId) (dI : Nat → Nat → Nat) (a : Nat → Nat) (ca : Nat → ClassId) (tb : Nat → Nat) (sz : Nat) (st : tSt) (post : Int32 → tSt → Prop) (h : wp_Tape_hasRoom  st post) : Met l yX4_hasRoom (.code yX4_hasRoom cX4_hasRoom 1 (some .boolean) :: tWALL) rmX4_hasRoom (va_Pc [.ref (a 1)] (tPre 47 (cwC a ca) dC dI a ca tb sz st)) (va_Qi post (tB (cwC a ca) dC dI) (tA 47 a sz)) 0 0 (tA 47 a sz) := by
  refine tp_met (by decide) (Nat.le_of_ble_eq_true rfl) ?_
  intro p e s m below meth c ls S hr hlk hsz E hP hl
  subst hsz
  have S : CallFix p m c cX4_hasRoom 1 s _ (.code yX4_hasRoom cX4_hasRoom 1 (some .boolean) :: tWALL) RX4 := S
  have hl : lv_has ls 1 [(0, .ref (a 1))] := hl
  have hS : va_S (tA 47 a s.heap.size) s.heap s.heap [] := va_S.rf
  show W p l e _ s m _ below meth c s.heap [] 0 0 (tQi (cwC a ca) 47 dC dI a ([.ref (a 1)] : List Value).toArray below s post) (F0 m 0 ls [])
  refine lv_aload_n (pc := 0) S.1 S.2.1 dX4_hasRoom_0 rfl (lv_at hl 0 rfl) ?_
  refine tp_get (pc := 1) S E.1 hP iwX4 1 (cC_tape a ca st) rfl 1 (by decide) kw_0 (v := .int (st 5 0)) rfl dX4_hasRoom_1 ?_
  refine lv_bipush (pc := 4) S.1 S.2.1 (v := 20) dX4_hasRoom_4 (by decide) ?_
  refine lv_iadd (pc := 6) S.1 S.2.1 dX4_hasRoom_6 ?_
  refine lv_bipush (pc := 7) S.1 S.2.1 (v := 40) dX4_hasRoom_7 (by decide) ?_
  refine lv_icmp_gt (pc := 9) (tgt := 16) S.1 S.2.1 dX4_hasRoom_9 (by decide) (fun c1 => ?_) (fun c1 => ?_)
  · have h := h.1 c1
    refine lv_iconst (pc := 16) S.1 S.2.1 (v := 0) dX4_hasRoom_16 (by decide) ?_
    exact tRz S hr hlk hP hS (Or.inl rfl) h dX4_hasRoom_17
  · have h := h.2 c1
    refine lv_iconst (pc := 12) S.1 S.2.1 (v := 1) dX4_hasRoom_12 (by decide) ?_
    refine lv_goto (pc := 13) S.1 S.2.1 (tgt := 17) dX4_hasRoom_13 (by decide) ?_
    exact tRz S hr hlk hP hS (Or.inr rfl) h dX4_hasRoom_17

abbrev rmX4_put : Room := { frames := 0, cells := 0, slots := 0, locals := 0 }
theorem cw_X4_put {R : Room} {own : String} {index : Nat} (h : rmX4_put.frames + 1 ≤ R.frames ∧ 8 + (3 + 11) + rmX4_put.locals ≤ R.locals) : tCw R own index yX4_put cX4_put 3 none rmX4_put 1 := ⟨kw_5, kw_1, ⟨rfl, rfl, h.1, h.2⟩, by decide +kernel, by decide +kernel, by decide +kernel⟩
set_option maxHeartbeats 4000000 in
set_option maxRecDepth 100000 in
theorem wk_X4_put_3 {p : Program} {l : Launch} {e : Env} {s : State} {m : MethodId} {args : Array Value} {below : List Frame} {meth : Method} {c : Code} {dC : Nat → ClassId} {dI : Nat → Nat → Nat} {a : Nat → Nat} {ca : Nat → ClassId} {tb : Nat → Nat} {w0 : Cond} (S : CallFix p m c cX4_put 3 s args (w0 :: tWALL) RX4) (hr : meth.sig.returnType = none) (hlk : meth.locks = false) (E : tEnv 47 dC dI a ca tb s) (post : tSt → Prop) : ∀ (n : Nat) (x1 : Int32) (x2 : Int32) (st : tSt), wp_Tape_put_3 post n x1 x2 st → tAt p l e rmX4_put s m args below meth c (dC, dI) (cwC a ca) (tA 47 a s.heap.size) (tQv (cwC a ca) 47 dC dI a args below s post) 3 3 [(0, .ref (a 1)), (1, .int x1), (2, .int x2)] [] st := by
  intro n
  induction n with
  | zero => intro x1 x2 st h; exact absurd h id
  | succ n ih =>
    intro x1 x2 st h H locs ls hP hS hl
    refine lv_iload_n (pc := 3) S.1 S.2.1 dX4_put_3 rfl (lv_at hl 2 rfl) ?_
    refine lv_if_lt (pc := 4) (tgt := 48) S.1 S.2.1 dX4_put_4 (by decide) (fun c1 => ?_) (fun c1 => ?_)
    · have h := h.1 c1
      exact tRv S hr hlk hP hS h dX4_put_48
    · have h := h.2 c1
      refine lv_aload_n (pc := 7) S.1 S.2.1 dX4_put_7 rfl (lv_at hl 0 rfl) ?_
      refine tp_get (pc := 8) S E.1 hP iwX4 1 (cC_tape a ca st) rfl 1 (by decide) kw_0 (v := .int (st 5 0)) rfl dX4_put_8 ?_
      refine lv_bipush (pc := 11) S.1 S.2.1 (v := 40) dX4_put_11 (by decide) ?_
      refine lv_icmp_ge (pc := 13) (tgt := 48) S.1 S.2.1 dX4_put_13 (by decide) (fun c2 => ?_) (fun c2 => ?_)
      · have h := h.1 c2
        exact tRv S hr hlk hP hS h dX4_put_48
      · have h := h.2 c2
        refine lv_aload_n (pc := 16) S.1 S.2.1 dX4_put_16 rfl (lv_at hl 0 rfl) ?_
        refine tp_get (pc := 17) S E.1 hP iwX4 1 (cC_tape a ca st) rfl 0 (by decide) kw_4 (v := .ref (a 2)) rfl dX4_put_17 ?_
        refine lv_aload_n (pc := 20) S.1 S.2.1 dX4_put_20 rfl (lv_at hl 0 rfl) ?_
        refine tp_get (pc := 21) S E.1 hP iwX4 1 (cC_tape a ca st) rfl 1 (by decide) kw_0 (v := .int (st 5 0)) rfl dX4_put_21 ?_
        refine lv_iload_n (pc := 24) S.1 S.2.1 dX4_put_24 rfl (lv_at hl 1 rfl) ?_
        refine lv_iload_n (pc := 25) S.1 S.2.1 dX4_put_25 rfl (lv_at hl 2 rfl) ?_
        refine lv_ishr (pc := 26) S.1 S.2.1 dX4_put_26 ?_
        refine lv_sipush (pc := 27) S.1 S.2.1 (v := 255) dX4_put_27 (by decide) ?_
        refine lv_iand (pc := 30) S.1 S.2.1 dX4_put_30 ?_
        obtain ⟨hn3, h⟩ := h
        refine tp_iast (pc := 31) S E.1 hP (cC_D E st) hS 2 0 (cC_bytes a ca st) rfl (j := (st 5 0).toNatClampNeg) rfl hn3 (sC_bytes a ca st _ _) dX4_put_31 (fun st1 H locs e4 hP hS => ?_)
        have h := h st1 e4
        refine lv_aload_n (pc := 32) S.1 S.2.1 dX4_put_32 rfl (lv_at hl 0 rfl) ?_
        refine lv_dup (pc := 33) S.1 S.2.1 dX4_put_33 rfl ?_
        refine tp_get (pc := 34) S E.1 hP iwX4 1 (cC_tape a ca st1) rfl 1 (by decide) kw_0 (v := .int (st1 5 0)) rfl dX4_put_34 ?_
        refine lv_iconst (pc := 37) S.1 S.2.1 (v := 1) dX4_put_37 (by decide) ?_
        refine lv_iadd (pc := 38) S.1 S.2.1 dX4_put_38 ?_
        refine tp_put (pc := 39) S E.1 hP (cC_D E st1) hS iwX4 tyX4 tyX4_ok nmX4 1 (cC_tape a ca st1) rfl 1 (by decide) kw_0 rfl (v := .int ((st1 5 0) + (1 : Int32))) (tyX4_ok 1 (by decide)) rfl rfl (Nat.le_of_ble_eq_true rfl) (sC_tape_length a ca st1 _) dX4_put_39 (fun st2 H locs e5 hP hS => ?_)
        have h := h st2 e5
        obtain ⟨y2_3, e6⟩ : ∃ y : Int32, y = x2 + (-8) := ⟨_, rfl⟩
        have h := h y2_3 e6
        refine lv_iinc (pc := 42) S.1 S.2.1 (v := y2_3) (lv' := [(2, .int y2_3), (0, .ref (a 1)), (1, .int x1)]) dX4_put_42 hl (k := 2) rfl (by rw [e6]; rfl) (by decide) rfl (fun ls hl => ?_)
        refine lv_goto (pc := 45) S.1 S.2.1 (tgt := 3) dX4_put_45 (by decide) ?_
        exact ih x1 y2_3 st2 h _ _ _ hP hS (lv_sub hl [1, 2, 0] rfl)
set_option maxHeartbeats 4000000 in
set_option maxRecDepth 100000 in
theorem mt_X4_put (l : Launch) (dC : Nat → ClassId) (dI : Nat → Nat → Nat) (a : Nat → Nat) (ca : Nat → ClassId) (tb : Nat → Nat) (sz : Nat) (x1 : Int32) (st : tSt) (post : tSt → Prop) (h : wp_Tape_put x1 st post) : Met l yX4_put (.code yX4_put cX4_put 3 none :: tWALL) rmX4_put (va_Pc [.ref (a 1), .int x1] (tPre 47 (cwC a ca) dC dI a ca tb sz st)) (va_Qv post (tB (cwC a ca) dC dI) (tA 47 a sz)) 0 0 (tA 47 a sz) := by
  refine tp_met (by decide) (Nat.le_of_ble_eq_true rfl) ?_
  intro p e s m below meth c ls S hr hlk hsz E hP hl
  subst hsz
  have S : CallFix p m c cX4_put 3 s _ (.code yX4_put cX4_put 3 none :: tWALL) RX4 := S
  have hl : lv_has ls 3 [(0, .ref (a 1)), (1, .int x1)] := hl
  have hS : va_S (tA 47 a s.heap.size) s.heap s.heap [] := va_S.rf
  show W p l e _ s m _ below meth c s.heap [] 0 0 (tQv (cwC a ca) 47 dC dI a ([.ref (a 1), .int x1] : List Value).toArray below s post) (F0 m 0 ls [])
  refine lv_bipush (pc := 0) S.1 S.2.1 (v := 24) dX4_put_0 (by decide) ?_
  refine lv_istore_n (pc := 2) S.1 S.2.1 (lv' := [(2, .int (24 : Int32)), (0, .ref (a 1)), (1, .int x1)]) dX4_put_2 rfl hl (by decide) rfl (fun ls hl => ?_)
  exact (fun x1 x2 st h => Exists.elim h (fun q h => wk_X4_put_3 S hr hlk E post  q x1 x2 st h)) x1 (24 : Int32) st h _ _ _ hP hS (lv_sub hl [1, 2, 0] rfl)

abbrev rmX7_within : Room := { frames := 0, cells := 0, slots := 0, locals := 0 }
theorem cw_X7_within {R : Room} {own : String} {index : Nat} (h : rmX7_within.frames + 1 ≤ R.frames ∧ 8 + (3 + 11) + rmX7_within.locals ≤ R.locals) : tCw R own index yX7_within cX7_within 3 (some .boolean) rmX7_within 3 := ⟨kw_7, kw_6, ⟨rfl, rfl, h.1, h.2⟩, by decide +kernel, by decide +kernel, by decide +kernel⟩

set_option maxHeartbeats 4000000 in
set_option maxRecDepth 100000 in
theorem mt_X7_within (l : Launch) (dC : Nat → ClassId) (dI : Nat → Nat → Nat) (a : Nat → Nat) (ca : Nat → ClassId) (tb : Nat → Nat) (sz : Nat) (x0 : Int32) (x1 : Int32) (x2 : Int32) (st : tSt) (post : Int32 → tSt → Prop) (h : wp_T_within x0 x1 x2 st post) : Met l yX7_within (.code yX7_within cX7_within 3 (some .boolean) :: tWALL) rmX7_within (va_Pc [.int x0, .int x1, .int x2] (tPre 47 (cwC a ca) dC dI a ca tb sz st)) (va_Qi post (tB (cwC a ca) dC dI) (tA 47 a sz)) 0 0 (tA 47 a sz) := by
  refine tp_met (by decide) (Nat.le_of_ble_eq_true rfl) ?_
  intro p e s m below meth c ls S hr hlk hsz E hP hl
  subst hsz
  have S : CallFix p m c cX7_within 3 s _ (.code yX7_within cX7_within 3 (some .boolean) :: tWALL) RX7 := S
  have hl : lv_has ls 3 [(0, .int x0), (1, .int x1), (2, .int x2)] := hl
  have hS : va_S (tA 47 a s.heap.size) s.heap s.heap [] := va_S.rf
  show W p l e _ s m _ below meth c s.heap [] 0 0 (tQi (cwC a ca) 47 dC dI a ([.int x0, .int x1, .int x2] : List Value).toArray below s post) (F0 m 0 ls [])
  refine lv_iload_n (pc := 0) S.1 S.2.1 dX7_within_0 rfl (lv_at hl 0 rfl) ?_
  refine lv_iload_n (pc := 1) S.1 S.2.1 dX7_within_1 rfl (lv_at hl 1 rfl) ?_
  refine lv_icmp_lt (pc := 2) (tgt := 14) S.1 S.2.1 dX7_within_2 (by decide) (fun c1 => ?_) (fun c1 => ?_)
  · have h := h.1 c1
    refine lv_iconst (pc := 14) S.1 S.2.1 (v := 0) dX7_within_14 (by decide) ?_
    exact tRz S hr hlk hP hS (Or.inl rfl) h dX7_within_15
  · have h := h.2 c1
    refine lv_iload_n (pc := 5) S.1 S.2.1 dX7_within_5 rfl (lv_at hl 0 rfl) ?_
    refine lv_iload_n (pc := 6) S.1 S.2.1 dX7_within_6 rfl (lv_at hl 2 rfl) ?_
    refine lv_icmp_gt (pc := 7) (tgt := 14) S.1 S.2.1 dX7_within_7 (by decide) (fun c2 => ?_) (fun c2 => ?_)
    · have h := h.1 c2
      refine lv_iconst (pc := 14) S.1 S.2.1 (v := 0) dX7_within_14 (by decide) ?_
      exact tRz S hr hlk hP hS (Or.inl rfl) h dX7_within_15
    · have h := h.2 c2
      refine lv_iconst (pc := 10) S.1 S.2.1 (v := 1) dX7_within_10 (by decide) ?_
      refine lv_goto (pc := 11) S.1 S.2.1 (tgt := 15) dX7_within_11 (by decide) ?_
      exact tRz S hr hlk hP hS (Or.inr rfl) h dX7_within_15

abbrev rmX4_byteAt : Room := { frames := 1, cells := 0, slots := 0, locals := 22 }
theorem cw_X4_byteAt {R : Room} {own : String} {index : Nat} (h : rmX4_byteAt.frames + 1 ≤ R.frames ∧ 8 + (2 + 11) + rmX4_byteAt.locals ≤ R.locals) : tCw R own index yX4_byteAt cX4_byteAt 2 (some .int) rmX4_byteAt 1 := ⟨kw_10, kw_1, ⟨rfl, rfl, h.1, h.2⟩, by decide +kernel, by decide +kernel, by decide +kernel⟩

set_option maxHeartbeats 4000000 in
set_option maxRecDepth 100000 in
theorem mt_X4_byteAt (l : Launch) (dC : Nat → ClassId) (dI : Nat → Nat → Nat) (a : Nat → Nat) (ca : Nat → ClassId) (tb : Nat → Nat) (sz : Nat) (x1 : Int32) (st : tSt) (post : Int32 → tSt → Prop) (h : wp_Tape_byteAt x1 st post) : Met l yX4_byteAt (.code yX4_byteAt cX4_byteAt 2 (some .int) :: tWALL) rmX4_byteAt (va_Pc [.ref (a 1), .int x1] (tPre 47 (cwC a ca) dC dI a ca tb sz st)) (va_Qi post (tB (cwC a ca) dC dI) (tA 47 a sz)) 0 0 (tA 47 a sz) := by
  refine tp_met (by decide) (Nat.le_of_ble_eq_true rfl) ?_
  intro p e s m below meth c ls S hr hlk hsz E hP hl
  subst hsz
  have S : CallFix p m c cX4_byteAt 2 s _ (.code yX4_byteAt cX4_byteAt 2 (some .int) :: tWALL) RX4 := S
  have hl : lv_has ls 2 [(0, .ref (a 1)), (1, .int x1)] := hl
  have hS : va_S (tA 47 a s.heap.size) s.heap s.heap [] := va_S.rf
  show W p l e _ s m _ below meth c s.heap [] 0 0 (tQi (cwC a ca) 47 dC dI a ([.ref (a 1), .int x1] : List Value).toArray below s post) (F0 m 0 ls [])
  refine lv_iload_n (pc := 0) S.1 S.2.1 dX4_byteAt_0 rfl (lv_at hl 1 rfl) ?_
  refine lv_iconst (pc := 1) S.1 S.2.1 (v := 0) dX4_byteAt_1 (by decide) ?_
  refine lv_aload_n (pc := 2) S.1 S.2.1 dX4_byteAt_2 rfl (lv_at hl 0 rfl) ?_
  refine tp_get (pc := 3) S E.1 hP iwX4 1 (cC_tape a ca st) rfl 1 (by decide) kw_0 (v := .int (st 5 0)) rfl dX4_byteAt_3 ?_
  refine lv_iconst (pc := 6) S.1 S.2.1 (v := 1) dX4_byteAt_6 (by decide) ?_
  refine lv_isub (pc := 7) S.1 S.2.1 dX4_byteAt_7 ?_
  refine tGi hS (tRunSN (pc := 8) (As := [.int x1, .int (0 : Int32), .int ((st 5 0) - (1 : Int32))]) (rest := []) S E hP hS (mt_X7_within l dC dI a ca tb _ x1 (0 : Int32) ((st 5 0) - (1 : Int32)) st _ h) (cw_X7_within ⟨Nat.le_of_ble_eq_true rfl, Nat.le_of_ble_eq_true rfl⟩) kw_9 kw_8 rfl hl.1 rfl (Nat.le_of_ble_eq_true rfl) dX4_byteAt_8) (fun r2 st1 H locs h hP hS => ?_)
  refine lv_if_eq (pc := 11) (tgt := 23) S.1 S.2.1 dX4_byteAt_11 (by decide) (fun c1 => ?_) (fun c1 => ?_)
  · have h := h.1 c1
    refine lv_iconst (pc := 23) S.1 S.2.1 (v := (-1)) dX4_byteAt_23 (by decide) ?_
    exact tRi S hr hlk hP hS h dX4_byteAt_24
  · have h := h.2 c1
    refine lv_aload_n (pc := 14) S.1 S.2.1 dX4_byteAt_14 rfl (lv_at hl 0 rfl) ?_
    refine tp_get (pc := 15) S E.1 hP iwX4 1 (cC_tape a ca st1) rfl 0 (by decide) kw_4 (v := .ref (a 2)) rfl dX4_byteAt_15 ?_
    refine lv_iload_n (pc := 18) S.1 S.2.1 dX4_byteAt_18 rfl (lv_at hl 1 rfl) ?_
    obtain ⟨hn2, h⟩ := h
    refine tp_iald (pc := 19) S E.1 hP 2 0 (cC_bytes a ca st1) rfl (j := x1.toNatClampNeg) rfl hn2 dX4_byteAt_19 ?_
    refine lv_goto (pc := 20) S.1 S.2.1 (tgt := 24) dX4_byteAt_20 (by decide) ?_
    exact tRi S hr hlk hP hS h dX4_byteAt_24

abbrev rmX4_empty : Room := { frames := 0, cells := 0, slots := 0, locals := 0 }
theorem cw_X4_empty {R : Room} {own : String} {index : Nat} (h : rmX4_empty.frames + 1 ≤ R.frames ∧ 8 + (1 + 11) + rmX4_empty.locals ≤ R.locals) : tCw R own index yX4_empty cX4_empty 1 none rmX4_empty 0 := ⟨kw_11, kw_1, ⟨rfl, rfl, h.1, h.2⟩, by decide +kernel, by decide +kernel, by decide +kernel⟩

set_option maxHeartbeats 4000000 in
set_option maxRecDepth 100000 in
theorem mt_X4_empty (l : Launch) (dC : Nat → ClassId) (dI : Nat → Nat → Nat) (a : Nat → Nat) (ca : Nat → ClassId) (tb : Nat → Nat) (sz : Nat) (st : tSt) (post : tSt → Prop) (h : wp_Tape_empty  st post) : Met l yX4_empty (.code yX4_empty cX4_empty 1 none :: tWALL) rmX4_empty (va_Pc [.ref (a 1)] (tPre 47 (cwC a ca) dC dI a ca tb sz st)) (va_Qv post (tB (cwC a ca) dC dI) (tA 47 a sz)) 0 0 (tA 47 a sz) := by
  refine tp_met (by decide) (Nat.le_of_ble_eq_true rfl) ?_
  intro p e s m below meth c ls S hr hlk hsz E hP hl
  subst hsz
  have S : CallFix p m c cX4_empty 1 s _ (.code yX4_empty cX4_empty 1 none :: tWALL) RX4 := S
  have hl : lv_has ls 1 [(0, .ref (a 1))] := hl
  have hS : va_S (tA 47 a s.heap.size) s.heap s.heap [] := va_S.rf
  show W p l e _ s m _ below meth c s.heap [] 0 0 (tQv (cwC a ca) 47 dC dI a ([.ref (a 1)] : List Value).toArray below s post) (F0 m 0 ls [])
  refine lv_aload_n (pc := 0) S.1 S.2.1 dX4_empty_0 rfl (lv_at hl 0 rfl) ?_
  refine lv_iconst (pc := 1) S.1 S.2.1 (v := 0) dX4_empty_1 (by decide) ?_
  refine tp_put (pc := 2) S E.1 hP (cC_D E st) hS iwX4 tyX4 tyX4_ok nmX4 1 (cC_tape a ca st) rfl 1 (by decide) kw_0 rfl (v := .int (0 : Int32)) (tyX4_ok 1 (by decide)) rfl rfl (Nat.le_of_ble_eq_true rfl) (sC_tape_length a ca st _) dX4_empty_2 (fun st1 H locs e1 hP hS => ?_)
  have h := h st1 e1
  exact tRv S hr hlk hP hS h dX4_empty_5

abbrev rmX5_number : Room := { frames := 1, cells := 0, slots := 0, locals := 22 }
theorem cw_X5_number {R : Room} {own : String} {index : Nat} (h : rmX5_number.frames + 1 ≤ R.frames ∧ 8 + (2 + 11) + rmX5_number.locals ≤ R.locals) : tCw R own index yX5_number cX5_number 2 (some .int) rmX5_number 1 := ⟨kw_15, kw_14, ⟨rfl, rfl, h.1, h.2⟩, by decide +kernel, by decide +kernel, by decide +kernel⟩

set_option maxHeartbeats 4000000 in
set_option maxRecDepth 100000 in
theorem mt_X5_number (l : Launch) (dC : Nat → ClassId) (dI : Nat → Nat → Nat) (a : Nat → Nat) (ca : Nat → ClassId) (tb : Nat → Nat) (sz : Nat) (x1 : Int32) (st : tSt) (post : Int32 → tSt → Prop) (h : wp_TownWord_number x1 st post) : Met l yX5_number (.code yX5_number cX5_number 2 (some .int) :: tWALL) rmX5_number (va_Pc [.ref (a 3), .int x1] (tPre 47 (cwC a ca) dC dI a ca tb sz st)) (va_Qi post (tB (cwC a ca) dC dI) (tA 47 a sz)) 0 0 (tA 47 a sz) := by
  refine tp_met (by decide) (Nat.le_of_ble_eq_true rfl) ?_
  intro p e s m below meth c ls S hr hlk hsz E hP hl
  subst hsz
  have S : CallFix p m c cX5_number 2 s _ (.code yX5_number cX5_number 2 (some .int) :: tWALL) RX5 := S
  have hl : lv_has ls 2 [(0, .ref (a 3)), (1, .int x1)] := hl
  have hS : va_S (tA 47 a s.heap.size) s.heap s.heap [] := va_S.rf
  show W p l e _ s m _ below meth c s.heap [] 0 0 (tQi (cwC a ca) 47 dC dI a ([.ref (a 3), .int x1] : List Value).toArray below s post) (F0 m 0 ls [])
  refine lv_iload_n (pc := 0) S.1 S.2.1 dX5_number_0 rfl (lv_at hl 1 rfl) ?_
  refine lv_iconst (pc := 1) S.1 S.2.1 (v := 0) dX5_number_1 (by decide) ?_
  refine lv_iconst (pc := 2) S.1 S.2.1 (v := 3) dX5_number_2 (by decide) ?_
  refine tGi hS (tRunSN (pc := 3) (As := [.int x1, .int (0 : Int32), .int (3 : Int32)]) (rest := []) S E hP hS (mt_X7_within l dC dI a ca tb _ x1 (0 : Int32) (3 : Int32) st _ h) (cw_X7_within ⟨Nat.le_of_ble_eq_true rfl, Nat.le_of_ble_eq_true rfl⟩) kw_12 kw_8 rfl hl.1 rfl (Nat.le_of_ble_eq_true rfl) dX5_number_3) (fun r2 st1 H locs h hP hS => ?_)
  refine lv_if_eq (pc := 6) (tgt := 18) S.1 S.2.1 dX5_number_6 (by decide) (fun c1 => ?_) (fun c1 => ?_)
  · have h := h.1 c1
    refine lv_iconst (pc := 18) S.1 S.2.1 (v := (-1)) dX5_number_18 (by decide) ?_
    exact tRi S hr hlk hP hS h dX5_number_19
  · have h := h.2 c1
    refine lv_aload_n (pc := 9) S.1 S.2.1 dX5_number_9 rfl (lv_at hl 0 rfl) ?_
    refine tp_get (pc := 10) S E.1 hP iwX5 3 (cC_tw a ca st1) rfl 0 (by decide) kw_13 (v := .ref (a 4)) rfl dX5_number_10 ?_
    refine lv_iload_n (pc := 13) S.1 S.2.1 dX5_number_13 rfl (lv_at hl 1 rfl) ?_
    obtain ⟨hn2, h⟩ := h
    refine tp_iald (pc := 14) S E.1 hP 4 0 (cC_numbers a ca st1) rfl (j := x1.toNatClampNeg) rfl hn2 dX5_number_14 ?_
    refine lv_goto (pc := 15) S.1 S.2.1 (tgt := 19) dX5_number_15 (by decide) ?_
    exact tRi S hr hlk hP hS h dX5_number_19

abbrev rmX5_kindAt : Room := { frames := 2, cells := 0, slots := 0, locals := 43 }
theorem cw_X5_kindAt {R : Room} {own : String} {index : Nat} (h : rmX5_kindAt.frames + 1 ≤ R.frames ∧ 8 + (4 + 11) + rmX5_kindAt.locals ≤ R.locals) : tCw R own index yX5_kindAt cX5_kindAt 4 (some .int) rmX5_kindAt 3 := ⟨kw_20, kw_14, ⟨rfl, rfl, h.1, h.2⟩, by decide +kernel, by decide +kernel, by decide +kernel⟩
set_option maxHeartbeats 4000000 in
set_option maxRecDepth 100000 in
theorem wk_X5_kindAt_2 {p : Program} {l : Launch} {e : Env} {s : State} {m : MethodId} {args : Array Value} {below : List Frame} {meth : Method} {c : Code} {dC : Nat → ClassId} {dI : Nat → Nat → Nat} {a : Nat → Nat} {ca : Nat → ClassId} {tb : Nat → Nat} {w0 : Cond} (S : CallFix p m c cX5_kindAt 4 s args (w0 :: tWALL) RX5) (hr : meth.sig.returnType = (some .int)) (hlk : meth.locks = false) (E : tEnv 47 dC dI a ca tb s) (post : Int32 → tSt → Prop) : ∀ (n : Nat) (x1 : Int32) (x2 : Int32) (x3 : Int32) (st : tSt), wp_TownWord_kindAt_2 post n x1 x2 x3 st → tAt p l e rmX5_kindAt s m args below meth c (dC, dI) (cwC a ca) (tA 47 a s.heap.size) (tQi (cwC a ca) 47 dC dI a args below s post) 4 2 [(0, .ref (a 1)), (1, .int x1), (2, .int x2), (3, .int x3)] [] st := by
  intro n
  induction n with
  | zero => intro x1 x2 x3 st h; exact absurd h id
  | succ n ih =>
    intro x1 x2 x3 st h H locs ls hP hS hl
    refine lv_iload_n (pc := 2) S.1 S.2.1 dX5_kindAt_2 rfl (lv_at hl 3 rfl) ?_
    refine lv_iconst (pc := 3) S.1 S.2.1 (v := 4) dX5_kindAt_3 (by decide) ?_
    refine lv_icmp_ge (pc := 4) (tgt := 33) S.1 S.2.1 dX5_kindAt_4 (by decide) (fun c1 => ?_) (fun c1 => ?_)
    · have h := h.1 c1
      refine lv_iconst (pc := 33) S.1 S.2.1 (v := (-1)) dX5_kindAt_33 (by decide) ?_
      exact tRi S hr hlk hP hS h dX5_kindAt_34
    · have h := h.2 c1
      refine lv_iload_n (pc := 7) S.1 S.2.1 dX5_kindAt_7 rfl (lv_at hl 1 rfl) ?_
      refine lv_iload_n (pc := 8) S.1 S.2.1 dX5_kindAt_8 rfl (lv_at hl 2 rfl) ?_
      refine lv_icmp_ge (pc := 9) (tgt := 33) S.1 S.2.1 dX5_kindAt_9 (by decide) (fun c2 => ?_) (fun c2 => ?_)
      · have h := h.1 c2
        refine lv_iconst (pc := 33) S.1 S.2.1 (v := (-1)) dX5_kindAt_33 (by decide) ?_
        exact tRi S hr hlk hP hS h dX5_kindAt_34
      · have h := h.2 c2
        refine lv_aload_n (pc := 12) S.1 S.2.1 dX5_kindAt_12 rfl (lv_at hl 0 rfl) ?_
        refine lv_iload_n (pc := 13) S.1 S.2.1 dX5_kindAt_13 rfl (lv_at hl 1 rfl) ?_
        refine tGi hS (tRunV (pc := 14) (As := [.int x1]) (rest := []) S E hP hS (mt_X4_byteAt l dC dI a ca tb _ x1 st _ h) (cw_X4_byteAt ⟨Nat.le_of_ble_eq_true rfl, Nat.le_of_ble_eq_true rfl⟩) kw_16 kw_17 kw_18 1 4 rfl rfl (cC_tape a ca st) rfl hl.1 rfl (Nat.le_of_ble_eq_true rfl) dX5_kindAt_14) (fun r2 st1 H locs h hP hS => ?_)
        refine va_gets (pc := 17) S.1 S.2.1 (E.2.2.1.1).1 hS S.2.2.2.1 (S.2.2.2.2 _ (List.mem_cons_of_mem _ kw_19)) (fun _ h => h) dX5_kindAt_17 ?_
        refine lv_iload_n (pc := 20) S.1 S.2.1 dX5_kindAt_20 rfl (lv_at hl 3 rfl) ?_
        obtain ⟨hn3, h⟩ := h
        refine va_tc (pc := 21) S.1 S.2.1 (E.2.2.1.1).2 hS hn3 (v := .int (tab_LETTERS x3.toNatClampNeg)) rfl dX5_kindAt_21 ?_
        refine lv_icmp_ne (pc := 22) (tgt := 27) S.1 S.2.1 dX5_kindAt_22 (by decide) (fun c4 => ?_) (fun c4 => ?_)
        · have h := h.2 c4
          obtain ⟨y3_3, e5⟩ : ∃ y : Int32, y = x3 + 1 := ⟨_, rfl⟩
          have h := h y3_3 e5
          refine lv_iinc (pc := 27) S.1 S.2.1 (v := y3_3) (lv' := [(3, .int y3_3), (0, .ref (a 1)), (1, .int x1), (2, .int x2)]) dX5_kindAt_27 hl (k := 3) rfl (by rw [e5]; rfl) (by decide) rfl (fun ls hl => ?_)
          refine lv_goto (pc := 30) S.1 S.2.1 (tgt := 2) dX5_kindAt_30 (by decide) ?_
          exact ih x1 x2 y3_3 st1 h _ _ _ hP hS (lv_sub hl [1, 2, 3, 0] rfl)
        · have h := h.1 c4
          refine lv_iload_n (pc := 25) S.1 S.2.1 dX5_kindAt_25 rfl (lv_at hl 3 rfl) ?_
          exact tRi S hr hlk hP hS h dX5_kindAt_26
set_option maxHeartbeats 4000000 in
set_option maxRecDepth 100000 in
theorem mt_X5_kindAt (l : Launch) (dC : Nat → ClassId) (dI : Nat → Nat → Nat) (a : Nat → Nat) (ca : Nat → ClassId) (tb : Nat → Nat) (sz : Nat) (x1 : Int32) (x2 : Int32) (st : tSt) (post : Int32 → tSt → Prop) (h : wp_TownWord_kindAt x1 x2 st post) : Met l yX5_kindAt (.code yX5_kindAt cX5_kindAt 4 (some .int) :: tWALL) rmX5_kindAt (va_Pc [.ref (a 1), .int x1, .int x2] (tPre 47 (cwC a ca) dC dI a ca tb sz st)) (va_Qi post (tB (cwC a ca) dC dI) (tA 47 a sz)) 0 0 (tA 47 a sz) := by
  refine tp_met (by decide) (Nat.le_of_ble_eq_true rfl) ?_
  intro p e s m below meth c ls S hr hlk hsz E hP hl
  subst hsz
  have S : CallFix p m c cX5_kindAt 4 s _ (.code yX5_kindAt cX5_kindAt 4 (some .int) :: tWALL) RX5 := S
  have hl : lv_has ls 4 [(0, .ref (a 1)), (1, .int x1), (2, .int x2)] := hl
  have hS : va_S (tA 47 a s.heap.size) s.heap s.heap [] := va_S.rf
  show W p l e _ s m _ below meth c s.heap [] 0 0 (tQi (cwC a ca) 47 dC dI a ([.ref (a 1), .int x1, .int x2] : List Value).toArray below s post) (F0 m 0 ls [])
  refine lv_iconst (pc := 0) S.1 S.2.1 (v := 0) dX5_kindAt_0 (by decide) ?_
  refine lv_istore_n (pc := 1) S.1 S.2.1 (lv' := [(3, .int (0 : Int32)), (0, .ref (a 1)), (1, .int x1), (2, .int x2)]) dX5_kindAt_1 rfl hl (by decide) rfl (fun ls hl => ?_)
  exact (fun x1 x2 x3 st h => Exists.elim h (fun q h => wk_X5_kindAt_2 S hr hlk E post  q x1 x2 x3 st h)) x1 x2 (0 : Int32) st h _ _ _ hP hS (lv_sub hl [1, 2, 3, 0] rfl)

abbrev rmX5_isDigit : Room := { frames := 2, cells := 0, slots := 0, locals := 43 }
theorem cw_X5_isDigit {R : Room} {own : String} {index : Nat} (h : rmX5_isDigit.frames + 1 ≤ R.frames ∧ 8 + (3 + 11) + rmX5_isDigit.locals ≤ R.locals) : tCw R own index yX5_isDigit cX5_isDigit 3 (some .boolean) rmX5_isDigit 3 := ⟨kw_21, kw_14, ⟨rfl, rfl, h.1, h.2⟩, by decide +kernel, by decide +kernel, by decide +kernel⟩

set_option maxHeartbeats 4000000 in
set_option maxRecDepth 100000 in
theorem mt_X5_isDigit (l : Launch) (dC : Nat → ClassId) (dI : Nat → Nat → Nat) (a : Nat → Nat) (ca : Nat → ClassId) (tb : Nat → Nat) (sz : Nat) (x1 : Int32) (x2 : Int32) (st : tSt) (post : Int32 → tSt → Prop) (h : wp_TownWord_isDigit x1 x2 st post) : Met l yX5_isDigit (.code yX5_isDigit cX5_isDigit 3 (some .boolean) :: tWALL) rmX5_isDigit (va_Pc [.ref (a 1), .int x1, .int x2] (tPre 47 (cwC a ca) dC dI a ca tb sz st)) (va_Qi post (tB (cwC a ca) dC dI) (tA 47 a sz)) 0 0 (tA 47 a sz) := by
  refine tp_met (by decide) (Nat.le_of_ble_eq_true rfl) ?_
  intro p e s m below meth c ls S hr hlk hsz E hP hl
  subst hsz
  have S : CallFix p m c cX5_isDigit 3 s _ (.code yX5_isDigit cX5_isDigit 3 (some .boolean) :: tWALL) RX5 := S
  have hl : lv_has ls 3 [(0, .ref (a 1)), (1, .int x1), (2, .int x2)] := hl
  have hS : va_S (tA 47 a s.heap.size) s.heap s.heap [] := va_S.rf
  show W p l e _ s m _ below meth c s.heap [] 0 0 (tQi (cwC a ca) 47 dC dI a ([.ref (a 1), .int x1, .int x2] : List Value).toArray below s post) (F0 m 0 ls [])
  refine lv_iload_n (pc := 0) S.1 S.2.1 dX5_isDigit_0 rfl (lv_at hl 1 rfl) ?_
  refine lv_iload_n (pc := 1) S.1 S.2.1 dX5_isDigit_1 rfl (lv_at hl 2 rfl) ?_
  refine lv_icmp_ge (pc := 2) (tgt := 24) S.1 S.2.1 dX5_isDigit_2 (by decide) (fun c1 => ?_) (fun c1 => ?_)
  · have h := h.1 c1
    refine lv_iconst (pc := 24) S.1 S.2.1 (v := 0) dX5_isDigit_24 (by decide) ?_
    exact tRz S hr hlk hP hS (Or.inl rfl) h dX5_isDigit_25
  · have h := h.2 c1
    refine lv_aload_n (pc := 5) S.1 S.2.1 dX5_isDigit_5 rfl (lv_at hl 0 rfl) ?_
    refine lv_iload_n (pc := 6) S.1 S.2.1 dX5_isDigit_6 rfl (lv_at hl 1 rfl) ?_
    refine tGi hS (tRunV (pc := 7) (As := [.int x1]) (rest := []) S E hP hS (mt_X4_byteAt l dC dI a ca tb _ x1 st _ h) (cw_X4_byteAt ⟨Nat.le_of_ble_eq_true rfl, Nat.le_of_ble_eq_true rfl⟩) kw_16 kw_17 kw_18 1 4 rfl rfl (cC_tape a ca st) rfl hl.1 rfl (Nat.le_of_ble_eq_true rfl) dX5_isDigit_7) (fun r2 st1 H locs h hP hS => ?_)
    refine lv_bipush (pc := 10) S.1 S.2.1 (v := 48) dX5_isDigit_10 (by decide) ?_
    refine lv_bipush (pc := 12) S.1 S.2.1 (v := 57) dX5_isDigit_12 (by decide) ?_
    refine tGi hS (tRunSN (pc := 14) (As := [.int r2, .int (48 : Int32), .int (57 : Int32)]) (rest := []) S E hP hS (mt_X7_within l dC dI a ca tb _ r2 (48 : Int32) (57 : Int32) st1 _ h) (cw_X7_within ⟨Nat.le_of_ble_eq_true rfl, Nat.le_of_ble_eq_true rfl⟩) kw_12 kw_8 rfl hl.1 rfl (Nat.le_of_ble_eq_true rfl) dX5_isDigit_14) (fun r4 st3 H locs h hP hS => ?_)
    refine lv_if_eq (pc := 17) (tgt := 24) S.1 S.2.1 dX5_isDigit_17 (by decide) (fun c2 => ?_) (fun c2 => ?_)
    · have h := h.1 c2
      refine lv_iconst (pc := 24) S.1 S.2.1 (v := 0) dX5_isDigit_24 (by decide) ?_
      exact tRz S hr hlk hP hS (Or.inl rfl) h dX5_isDigit_25
    · have h := h.2 c2
      refine lv_iconst (pc := 20) S.1 S.2.1 (v := 1) dX5_isDigit_20 (by decide) ?_
      refine lv_goto (pc := 21) S.1 S.2.1 (tgt := 25) dX5_isDigit_21 (by decide) ?_
      exact tRz S hr hlk hP hS (Or.inr rfl) h dX5_isDigit_25

abbrev rmX5_endOfDigits : Room := { frames := 3, cells := 0, slots := 0, locals := 65 }
theorem cw_X5_endOfDigits {R : Room} {own : String} {index : Nat} (h : rmX5_endOfDigits.frames + 1 ≤ R.frames ∧ 8 + (4 + 11) + rmX5_endOfDigits.locals ≤ R.locals) : tCw R own index yX5_endOfDigits cX5_endOfDigits 4 (some .int) rmX5_endOfDigits 3 := ⟨kw_24, kw_14, ⟨rfl, rfl, h.1, h.2⟩, by decide +kernel, by decide +kernel, by decide +kernel⟩
set_option maxHeartbeats 4000000 in
set_option maxRecDepth 100000 in
theorem wk_X5_endOfDigits_2 {p : Program} {l : Launch} {e : Env} {s : State} {m : MethodId} {args : Array Value} {below : List Frame} {meth : Method} {c : Code} {dC : Nat → ClassId} {dI : Nat → Nat → Nat} {a : Nat → Nat} {ca : Nat → ClassId} {tb : Nat → Nat} {w0 : Cond} (S : CallFix p m c cX5_endOfDigits 4 s args (w0 :: tWALL) RX5) (hr : meth.sig.returnType = (some .int)) (hlk : meth.locks = false) (E : tEnv 47 dC dI a ca tb s) (post : Int32 → tSt → Prop) : ∀ (n : Nat) (x1 : Int32) (x2 : Int32) (x3 : Int32) (st : tSt), wp_TownWord_endOfDigits_2 post n x1 x2 x3 st → tAt p l e rmX5_endOfDigits s m args below meth c (dC, dI) (cwC a ca) (tA 47 a s.heap.size) (tQi (cwC a ca) 47 dC dI a args below s post) 4 2 [(0, .ref (a 1)), (1, .int x1), (2, .int x2), (3, .int x3)] [] st := by
  intro n
  induction n with
  | zero => intro x1 x2 x3 st h; exact absurd h id
  | succ n ih =>
    intro x1 x2 x3 st h H locs ls hP hS hl
    refine lv_iload_n (pc := 2) S.1 S.2.1 dX5_endOfDigits_2 rfl (lv_at hl 3 rfl) ?_
    refine lv_iload_n (pc := 3) S.1 S.2.1 dX5_endOfDigits_3 rfl (lv_at hl 1 rfl) ?_
    refine lv_iconst (pc := 4) S.1 S.2.1 (v := 4) dX5_endOfDigits_4 (by decide) ?_
    refine lv_iadd (pc := 5) S.1 S.2.1 dX5_endOfDigits_5 ?_
    refine lv_icmp_ge (pc := 6) (tgt := 24) S.1 S.2.1 dX5_endOfDigits_6 (by decide) (fun c1 => ?_) (fun c1 => ?_)
    · have h := h.1 c1
      refine lv_iload_n (pc := 24) S.1 S.2.1 dX5_endOfDigits_24 rfl (lv_at hl 3 rfl) ?_
      exact tRi S hr hlk hP hS h dX5_endOfDigits_25
    · have h := h.2 c1
      refine lv_aload_n (pc := 9) S.1 S.2.1 dX5_endOfDigits_9 rfl (lv_at hl 0 rfl) ?_
      refine lv_iload_n (pc := 10) S.1 S.2.1 dX5_endOfDigits_10 rfl (lv_at hl 3 rfl) ?_
      refine lv_iload_n (pc := 11) S.1 S.2.1 dX5_endOfDigits_11 rfl (lv_at hl 2 rfl) ?_
      refine tGi hS (tRunS (pc := 12) (As := [.ref (a 1), .int x3, .int x2]) (rest := []) S E hP hS (mt_X5_isDigit l dC dI a ca tb _ x3 x2 st _ h) (cw_X5_isDigit ⟨Nat.le_of_ble_eq_true rfl, Nat.le_of_ble_eq_true rfl⟩) kw_23 kw_22 rfl hl.1 rfl (Nat.le_of_ble_eq_true rfl) dX5_endOfDigits_12) (fun r2 st1 H locs h hP hS => ?_)
      refine lv_if_eq (pc := 15) (tgt := 24) S.1 S.2.1 dX5_endOfDigits_15 (by decide) (fun c2 => ?_) (fun c2 => ?_)
      · have h := h.1 c2
        refine lv_iload_n (pc := 24) S.1 S.2.1 dX5_endOfDigits_24 rfl (lv_at hl 3 rfl) ?_
        exact tRi S hr hlk hP hS h dX5_endOfDigits_25
      · have h := h.2 c2
        obtain ⟨y3_3, e3⟩ : ∃ y : Int32, y = x3 + 1 := ⟨_, rfl⟩
        have h := h y3_3 e3
        refine lv_iinc (pc := 18) S.1 S.2.1 (v := y3_3) (lv' := [(3, .int y3_3), (0, .ref (a 1)), (1, .int x1), (2, .int x2)]) dX5_endOfDigits_18 hl (k := 3) rfl (by rw [e3]; rfl) (by decide) rfl (fun ls hl => ?_)
        refine lv_goto (pc := 21) S.1 S.2.1 (tgt := 2) dX5_endOfDigits_21 (by decide) ?_
        exact ih x1 x2 y3_3 st1 h _ _ _ hP hS (lv_sub hl [1, 2, 3, 0] rfl)
set_option maxHeartbeats 4000000 in
set_option maxRecDepth 100000 in
theorem mt_X5_endOfDigits (l : Launch) (dC : Nat → ClassId) (dI : Nat → Nat → Nat) (a : Nat → Nat) (ca : Nat → ClassId) (tb : Nat → Nat) (sz : Nat) (x1 : Int32) (x2 : Int32) (st : tSt) (post : Int32 → tSt → Prop) (h : wp_TownWord_endOfDigits x1 x2 st post) : Met l yX5_endOfDigits (.code yX5_endOfDigits cX5_endOfDigits 4 (some .int) :: tWALL) rmX5_endOfDigits (va_Pc [.ref (a 1), .int x1, .int x2] (tPre 47 (cwC a ca) dC dI a ca tb sz st)) (va_Qi post (tB (cwC a ca) dC dI) (tA 47 a sz)) 0 0 (tA 47 a sz) := by
  refine tp_met (by decide) (Nat.le_of_ble_eq_true rfl) ?_
  intro p e s m below meth c ls S hr hlk hsz E hP hl
  subst hsz
  have S : CallFix p m c cX5_endOfDigits 4 s _ (.code yX5_endOfDigits cX5_endOfDigits 4 (some .int) :: tWALL) RX5 := S
  have hl : lv_has ls 4 [(0, .ref (a 1)), (1, .int x1), (2, .int x2)] := hl
  have hS : va_S (tA 47 a s.heap.size) s.heap s.heap [] := va_S.rf
  show W p l e _ s m _ below meth c s.heap [] 0 0 (tQi (cwC a ca) 47 dC dI a ([.ref (a 1), .int x1, .int x2] : List Value).toArray below s post) (F0 m 0 ls [])
  refine lv_iload_n (pc := 0) S.1 S.2.1 dX5_endOfDigits_0 rfl (lv_at hl 1 rfl) ?_
  refine lv_istore_n (pc := 1) S.1 S.2.1 (lv' := [(3, .int x1), (0, .ref (a 1)), (1, .int x1), (2, .int x2)]) dX5_endOfDigits_1 rfl hl (by decide) rfl (fun ls hl => ?_)
  exact (fun x1 x2 x3 st h => Exists.elim h (fun q h => wk_X5_endOfDigits_2 S hr hlk E post  q x1 x2 x3 st h)) x1 x2 x1 st h _ _ _ hP hS (lv_sub hl [1, 2, 3, 0] rfl)

abbrev rmX5_numberBetween : Room := { frames := 2, cells := 0, slots := 0, locals := 43 }
theorem cw_X5_numberBetween {R : Room} {own : String} {index : Nat} (h : rmX5_numberBetween.frames + 1 ≤ R.frames ∧ 8 + (5 + 11) + rmX5_numberBetween.locals ≤ R.locals) : tCw R own index yX5_numberBetween cX5_numberBetween 5 (some .int) rmX5_numberBetween 3 := ⟨kw_25, kw_14, ⟨rfl, rfl, h.1, h.2⟩, by decide +kernel, by decide +kernel, by decide +kernel⟩
set_option maxHeartbeats 4000000 in
set_option maxRecDepth 100000 in
theorem wk_X5_numberBetween_5 {p : Program} {l : Launch} {e : Env} {s : State} {m : MethodId} {args : Array Value} {below : List Frame} {meth : Method} {c : Code} {dC : Nat → ClassId} {dI : Nat → Nat → Nat} {a : Nat → Nat} {ca : Nat → ClassId} {tb : Nat → Nat} {w0 : Cond} (S : CallFix p m c cX5_numberBetween 5 s args (w0 :: tWALL) RX5) (hr : meth.sig.returnType = (some .int)) (hlk : meth.locks = false) (E : tEnv 47 dC dI a ca tb s) (post : Int32 → tSt → Prop) : ∀ (n : Nat) (x2 : Int32) (x3 : Int32) (x4 : Int32) (st : tSt), wp_TownWord_numberBetween_5 post n x2 x3 x4 st → tAt p l e rmX5_numberBetween s m args below meth c (dC, dI) (cwC a ca) (tA 47 a s.heap.size) (tQi (cwC a ca) 47 dC dI a args below s post) 5 5 [(0, .ref (a 1)), (2, .int x2), (3, .int x3), (4, .int x4)] [] st := by
  intro n
  induction n with
  | zero => intro x2 x3 x4 st h; exact absurd h id
  | succ n ih =>
    intro x2 x3 x4 st h H locs ls hP hS hl
    refine lv_iload (pc := 5) S.1 S.2.1 dX5_numberBetween_5 (lv_at hl 3 rfl) ?_
    refine lv_iload_n (pc := 7) S.1 S.2.1 dX5_numberBetween_7 rfl (lv_at hl 1 rfl) ?_
    refine lv_icmp_ge (pc := 8) (tgt := 32) S.1 S.2.1 dX5_numberBetween_8 (by decide) (fun c1 => ?_) (fun c1 => ?_)
    · have h := h.1 c1
      refine lv_iload_n (pc := 32) S.1 S.2.1 dX5_numberBetween_32 rfl (lv_at hl 2 rfl) ?_
      exact tRi S hr hlk hP hS h dX5_numberBetween_33
    · have h := h.2 c1
      refine lv_iload_n (pc := 11) S.1 S.2.1 dX5_numberBetween_11 rfl (lv_at hl 2 rfl) ?_
      refine lv_bipush (pc := 12) S.1 S.2.1 (v := 10) dX5_numberBetween_12 (by decide) ?_
      refine lv_imul (pc := 14) S.1 S.2.1 dX5_numberBetween_14 ?_
      refine lv_aload_n (pc := 15) S.1 S.2.1 dX5_numberBetween_15 rfl (lv_at hl 0 rfl) ?_
      refine lv_iload (pc := 16) S.1 S.2.1 dX5_numberBetween_16 (lv_at hl 3 rfl) ?_
      refine tGi hS (tRunV (pc := 18) (As := [.int x4]) (rest := [.int (x3 * (10 : Int32))]) S E hP hS (mt_X4_byteAt l dC dI a ca tb _ x4 st _ h) (cw_X4_byteAt ⟨Nat.le_of_ble_eq_true rfl, Nat.le_of_ble_eq_true rfl⟩) kw_16 kw_17 kw_18 1 4 rfl rfl (cC_tape a ca st) rfl hl.1 rfl (Nat.le_of_ble_eq_true rfl) dX5_numberBetween_18) (fun r2 st1 H locs h hP hS => ?_)
      refine lv_iadd (pc := 21) S.1 S.2.1 dX5_numberBetween_21 ?_
      refine lv_bipush (pc := 22) S.1 S.2.1 (v := 48) dX5_numberBetween_22 (by decide) ?_
      refine lv_isub (pc := 24) S.1 S.2.1 dX5_numberBetween_24 ?_
      refine lv_topi (fun y3_3 e2 => ?_)
      have h := h y3_3 e2
      refine lv_istore_n (pc := 25) S.1 S.2.1 (lv' := [(3, .int y3_3), (0, .ref (a 1)), (2, .int x2), (4, .int x4)]) dX5_numberBetween_25 rfl hl (by decide) rfl (fun ls hl => ?_)
      obtain ⟨y4_4, e3⟩ : ∃ y : Int32, y = x4 + 1 := ⟨_, rfl⟩
      have h := h y4_4 e3
      refine lv_iinc (pc := 26) S.1 S.2.1 (v := y4_4) (lv' := [(4, .int y4_4), (3, .int y3_3), (0, .ref (a 1)), (2, .int x2)]) dX5_numberBetween_26 hl (k := 3) rfl (by rw [e3]; rfl) (by decide) rfl (fun ls hl => ?_)
      refine lv_goto (pc := 29) S.1 S.2.1 (tgt := 5) dX5_numberBetween_29 (by decide) ?_
      exact ih x2 y3_3 y4_4 st1 h _ _ _ hP hS (lv_sub hl [2, 3, 1, 0] rfl)
set_option maxHeartbeats 4000000 in
set_option maxRecDepth 100000 in
theorem mt_X5_numberBetween (l : Launch) (dC : Nat → ClassId) (dI : Nat → Nat → Nat) (a : Nat → Nat) (ca : Nat → ClassId) (tb : Nat → Nat) (sz : Nat) (x1 : Int32) (x2 : Int32) (st : tSt) (post : Int32 → tSt → Prop) (h : wp_TownWord_numberBetween x1 x2 st post) : Met l yX5_numberBetween (.code yX5_numberBetween cX5_numberBetween 5 (some .int) :: tWALL) rmX5_numberBetween (va_Pc [.ref (a 1), .int x1, .int x2] (tPre 47 (cwC a ca) dC dI a ca tb sz st)) (va_Qi post (tB (cwC a ca) dC dI) (tA 47 a sz)) 0 0 (tA 47 a sz) := by
  refine tp_met (by decide) (Nat.le_of_ble_eq_true rfl) ?_
  intro p e s m below meth c ls S hr hlk hsz E hP hl
  subst hsz
  have S : CallFix p m c cX5_numberBetween 5 s _ (.code yX5_numberBetween cX5_numberBetween 5 (some .int) :: tWALL) RX5 := S
  have hl : lv_has ls 5 [(0, .ref (a 1)), (1, .int x1), (2, .int x2)] := hl
  have hS : va_S (tA 47 a s.heap.size) s.heap s.heap [] := va_S.rf
  show W p l e _ s m _ below meth c s.heap [] 0 0 (tQi (cwC a ca) 47 dC dI a ([.ref (a 1), .int x1, .int x2] : List Value).toArray below s post) (F0 m 0 ls [])
  refine lv_iconst (pc := 0) S.1 S.2.1 (v := 0) dX5_numberBetween_0 (by decide) ?_
  refine lv_istore_n (pc := 1) S.1 S.2.1 (lv' := [(3, .int (0 : Int32)), (0, .ref (a 1)), (1, .int x1), (2, .int x2)]) dX5_numberBetween_1 rfl hl (by decide) rfl (fun ls hl => ?_)
  refine lv_iload_n (pc := 2) S.1 S.2.1 dX5_numberBetween_2 rfl (lv_at hl 2 rfl) ?_
  refine lv_istore (pc := 3) S.1 S.2.1 (lv' := [(4, .int x1), (3, .int (0 : Int32)), (0, .ref (a 1)), (1, .int x1), (2, .int x2)]) dX5_numberBetween_3 hl (by decide) rfl (fun ls hl => ?_)
  exact (fun x2 x3 x4 st h => Exists.elim h (fun q h => wk_X5_numberBetween_5 S hr hlk E post  q x2 x3 x4 st h)) x2 (0 : Int32) x1 st h _ _ _ hP hS (lv_sub hl [2, 4, 1, 0] rfl)

abbrev rmX5_faultOfNumber : Room := { frames := 3, cells := 0, slots := 0, locals := 65 }
theorem cw_X5_faultOfNumber {R : Room} {own : String} {index : Nat} (h : rmX5_faultOfNumber.frames + 1 ≤ R.frames ∧ 8 + (5 + 11) + rmX5_faultOfNumber.locals ≤ R.locals) : tCw R own index yX5_faultOfNumber cX5_faultOfNumber 5 (some .int) rmX5_faultOfNumber 5 := ⟨kw_26, kw_14, ⟨rfl, rfl, h.1, h.2⟩, by decide +kernel, by decide +kernel, by decide +kernel⟩

set_option maxHeartbeats 4000000 in
set_option maxRecDepth 100000 in
theorem mt_X5_faultOfNumber (l : Launch) (dC : Nat → ClassId) (dI : Nat → Nat → Nat) (a : Nat → Nat) (ca : Nat → ClassId) (tb : Nat → Nat) (sz : Nat) (x1 : Int32) (x2 : Int32) (x3 : Int32) (x4 : Int32) (st : tSt) (post : Int32 → tSt → Prop) (h : wp_TownWord_faultOfNumber x1 x2 x3 x4 st post) : Met l yX5_faultOfNumber (.code yX5_faultOfNumber cX5_faultOfNumber 5 (some .int) :: tWALL) rmX5_faultOfNumber (va_Pc [.ref (a 1), .int x1, .int x2, .int x3, .int x4] (tPre 47 (cwC a ca) dC dI a ca tb sz st)) (va_Qi post (tB (cwC a ca) dC dI) (tA 47 a sz)) 0 0 (tA 47 a sz) := by
  refine tp_met (by decide) (Nat.le_of_ble_eq_true rfl) ?_
  intro p e s m below meth c ls S hr hlk hsz E hP hl
  subst hsz
  have S : CallFix p m c cX5_faultOfNumber 5 s _ (.code yX5_faultOfNumber cX5_faultOfNumber 5 (some .int) :: tWALL) RX5 := S
  have hl : lv_has ls 5 [(0, .ref (a 1)), (1, .int x1), (2, .int x2), (3, .int x3), (4, .int x4)] := hl
  have hS : va_S (tA 47 a s.heap.size) s.heap s.heap [] := va_S.rf
  show W p l e _ s m _ below meth c s.heap [] 0 0 (tQi (cwC a ca) 47 dC dI a ([.ref (a 1), .int x1, .int x2, .int x3, .int x4] : List Value).toArray below s post) (F0 m 0 ls [])
  refine lv_iload_n (pc := 0) S.1 S.2.1 dX5_faultOfNumber_0 rfl (lv_at hl 2 rfl) ?_
  refine lv_iload_n (pc := 1) S.1 S.2.1 dX5_faultOfNumber_1 rfl (lv_at hl 1 rfl) ?_
  refine lv_icmp_ne (pc := 2) (tgt := 11) S.1 S.2.1 dX5_faultOfNumber_2 (by decide) (fun c1 => ?_) (fun c1 => ?_)
  · have h := h.2 c1
    refine lv_aload_n (pc := 11) S.1 S.2.1 dX5_faultOfNumber_11 rfl (lv_at hl 0 rfl) ?_
    refine lv_iload_n (pc := 12) S.1 S.2.1 dX5_faultOfNumber_12 rfl (lv_at hl 2 rfl) ?_
    refine lv_iload_n (pc := 13) S.1 S.2.1 dX5_faultOfNumber_13 rfl (lv_at hl 3 rfl) ?_
    refine tGi hS (tRunS (pc := 14) (As := [.ref (a 1), .int x2, .int x3]) (rest := []) S E hP hS (mt_X5_isDigit l dC dI a ca tb _ x2 x3 st _ h) (cw_X5_isDigit ⟨Nat.le_of_ble_eq_true rfl, Nat.le_of_ble_eq_true rfl⟩) kw_23 kw_22 rfl hl.1 rfl (Nat.le_of_ble_eq_true rfl) dX5_faultOfNumber_14) (fun r2 st1 H locs h hP hS => ?_)
    refine lv_if_eq (pc := 17) (tgt := 26) S.1 S.2.1 dX5_faultOfNumber_17 (by decide) (fun c2 => ?_) (fun c2 => ?_)
    · have h := h.1 c2
      refine lv_iload (pc := 26) S.1 S.2.1 dX5_faultOfNumber_26 (lv_at hl 4 rfl) ?_
      refine lv_if_eq (pc := 28) (tgt := 37) S.1 S.2.1 dX5_faultOfNumber_28 (by decide) (fun c3 => ?_) (fun c3 => ?_)
      · have h := h.1 c3
        refine lv_iload_n (pc := 37) S.1 S.2.1 dX5_faultOfNumber_37 rfl (lv_at hl 2 rfl) ?_
        refine lv_iload_n (pc := 38) S.1 S.2.1 dX5_faultOfNumber_38 rfl (lv_at hl 3 rfl) ?_
        refine lv_icmp_ge (pc := 39) (tgt := 60) S.1 S.2.1 dX5_faultOfNumber_39 (by decide) (fun c4 => ?_) (fun c4 => ?_)
        · have h := h.1 c4
          refine lv_iconst (pc := 60) S.1 S.2.1 (v := 0) dX5_faultOfNumber_60 (by decide) ?_
          exact tRi S hr hlk hP hS h dX5_faultOfNumber_61
        · have h := h.2 c4
          refine lv_aload_n (pc := 42) S.1 S.2.1 dX5_faultOfNumber_42 rfl (lv_at hl 0 rfl) ?_
          refine lv_iload_n (pc := 43) S.1 S.2.1 dX5_faultOfNumber_43 rfl (lv_at hl 2 rfl) ?_
          refine tGi hS (tRunV (pc := 44) (As := [.int x2]) (rest := []) S E hP hS (mt_X4_byteAt l dC dI a ca tb _ x2 st1 _ h) (cw_X4_byteAt ⟨Nat.le_of_ble_eq_true rfl, Nat.le_of_ble_eq_true rfl⟩) kw_16 kw_17 kw_18 1 4 rfl rfl (cC_tape a ca st1) rfl hl.1 rfl (Nat.le_of_ble_eq_true rfl) dX5_faultOfNumber_44) (fun r4 st3 H locs h hP hS => ?_)
          refine lv_bipush (pc := 47) S.1 S.2.1 (v := 59) dX5_faultOfNumber_47 (by decide) ?_
          refine lv_icmp_eq (pc := 49) (tgt := 60) S.1 S.2.1 dX5_faultOfNumber_49 (by decide) (fun c5 => ?_) (fun c5 => ?_)
          · have h := h.1 c5
            refine lv_iconst (pc := 60) S.1 S.2.1 (v := 0) dX5_faultOfNumber_60 (by decide) ?_
            exact tRi S hr hlk hP hS h dX5_faultOfNumber_61
          · have h := h.2 c5
            refine lv_sipush (pc := 52) S.1 S.2.1 (v := 500) dX5_faultOfNumber_52 (by decide) ?_
            refine lv_iload_n (pc := 55) S.1 S.2.1 dX5_faultOfNumber_55 rfl (lv_at hl 2 rfl) ?_
            refine lv_iadd (pc := 56) S.1 S.2.1 dX5_faultOfNumber_56 ?_
            refine lv_goto (pc := 57) S.1 S.2.1 (tgt := 61) dX5_faultOfNumber_57 (by decide) ?_
            exact tRi S hr hlk hP hS h dX5_faultOfNumber_61
      · have h := h.2 c3
        refine lv_sipush (pc := 31) S.1 S.2.1 (v := 400) dX5_faultOfNumber_31 (by decide) ?_
        refine lv_iload_n (pc := 34) S.1 S.2.1 dX5_faultOfNumber_34 rfl (lv_at hl 1 rfl) ?_
        refine lv_iadd (pc := 35) S.1 S.2.1 dX5_faultOfNumber_35 ?_
        exact tRi S hr hlk hP hS h dX5_faultOfNumber_36
    · have h := h.2 c2
      refine lv_sipush (pc := 20) S.1 S.2.1 (v := 300) dX5_faultOfNumber_20 (by decide) ?_
      refine lv_iload_n (pc := 23) S.1 S.2.1 dX5_faultOfNumber_23 rfl (lv_at hl 2 rfl) ?_
      refine lv_iadd (pc := 24) S.1 S.2.1 dX5_faultOfNumber_24 ?_
      exact tRi S hr hlk hP hS h dX5_faultOfNumber_25
  · have h := h.1 c1
    refine lv_sipush (pc := 5) S.1 S.2.1 (v := 200) dX5_faultOfNumber_5 (by decide) ?_
    refine lv_iload_n (pc := 8) S.1 S.2.1 dX5_faultOfNumber_8 rfl (lv_at hl 1 rfl) ?_
    refine lv_iadd (pc := 9) S.1 S.2.1 dX5_faultOfNumber_9 ?_
    exact tRi S hr hlk hP hS h dX5_faultOfNumber_10

abbrev rmX5_read : Room := { frames := 4, cells := 0, slots := 0, locals := 89 }
theorem cw_X5_read {R : Room} {own : String} {index : Nat} (h : rmX5_read.frames + 1 ≤ R.frames ∧ 8 + (10 + 11) + rmX5_read.locals ≤ R.locals) : tCw R own index yX5_read cX5_read 10 (some .int) rmX5_read 2 := ⟨kw_42, kw_14, ⟨rfl, rfl, h.1, h.2⟩, by decide +kernel, by decide +kernel, by decide +kernel⟩
set_option maxHeartbeats 4000000 in
set_option maxRecDepth 100000 in
theorem wk_X5_read_94 {p : Program} {l : Launch} {e : Env} {s : State} {m : MethodId} {args : Array Value} {below : List Frame} {meth : Method} {c : Code} {dC : Nat → ClassId} {dI : Nat → Nat → Nat} {a : Nat → Nat} {ca : Nat → ClassId} {tb : Nat → Nat} {w0 : Cond} (S : CallFix p m c cX5_read 10 s args (w0 :: tWALL) RX5) (hr : meth.sig.returnType = (some .int)) (hlk : meth.locks = false) (E : tEnv 47 dC dI a ca tb s) (post : Int32 → tSt → Prop) (k18 : Int32 → Int32 → Int32 → tSt → Prop) (hk18 : ∀ (x2 : Int32) (x3 : Int32) (x4 : Int32) (st : tSt), k18 x2 x3 x4 st → tAt p l e rmX5_read s m args below meth c (dC, dI) (cwC a ca) (tA 47 a s.heap.size) (tQi (cwC a ca) 47 dC dI a args below s post) 10 18 [(0, .ref (a 3)), (1, .ref (a 1)), (2, .int x2), (3, .int x3), (4, .int x4)] [] st) (k127 : tSt → Prop) (hk127 : ∀  (st : tSt), k127  st → tAt p l e rmX5_read s m args below meth c (dC, dI) (cwC a ca) (tA 47 a s.heap.size) (tQi (cwC a ca) 47 dC dI a args below s post) 10 127 [(0, .ref (a 3))] [] st) : ∀ (x2 : Int32) (x4 : Int32) (x5 : Int32) (x7 : Int32) (x8 : Int32) (s1 : Int32) (s2 : Int32) (s3 : Int32) (s4 : Int32) (st : tSt), wp_TownWord_read_94 post k18 k127 x2 x4 x5 x7 x8 s1 s2 s3 s4 st → tAt p l e rmX5_read s m args below meth c (dC, dI) (cwC a ca) (tA 47 a s.heap.size) (tQi (cwC a ca) 47 dC dI a args below s post) 10 94 [(0, .ref (a 3)), (1, .ref (a 1)), (2, .int x2), (4, .int x4), (5, .int x5), (7, .int x7), (8, .int x8)] [.int s4, .int s3, .int s2, .int s1, .ref (a 1)] st := by
  intro x2 x4 x5 x7 x8 s1 s2 s3 s4 st h H locs ls hP hS hl
  refine tGi hS (tRunS (pc := 94) (As := [.ref (a 1), .int s1, .int s2, .int s3, .int s4]) (rest := []) S E hP hS (mt_X5_faultOfNumber l dC dI a ca tb _ s1 s2 s3 s4 st _ h) (cw_X5_faultOfNumber ⟨Nat.le_of_ble_eq_true rfl, Nat.le_of_ble_eq_true rfl⟩) kw_28 kw_27 rfl hl.1 rfl (Nat.le_of_ble_eq_true rfl) dX5_read_94) (fun r2 st1 H locs h hP hS => ?_)
  refine lv_istore (pc := 97) S.1 S.2.1 (lv' := [(9, .int r2), (0, .ref (a 3)), (1, .ref (a 1)), (2, .int x2), (4, .int x4), (5, .int x5), (7, .int x7), (8, .int x8)]) dX5_read_97 hl (by decide) rfl (fun ls hl => ?_)
  refine lv_iload (pc := 99) S.1 S.2.1 dX5_read_99 (lv_at hl 0 rfl) ?_
  refine lv_if_eq (pc := 101) (tgt := 107) S.1 S.2.1 dX5_read_101 (by decide) (fun c1 => ?_) (fun c1 => ?_)
  · have h := h.1 c1
    refine lv_aload_n (pc := 107) S.1 S.2.1 dX5_read_107 rfl (lv_at hl 1 rfl) ?_
    refine tp_get (pc := 108) S E.1 hP iwX5 3 (cC_tw a ca st1) rfl 1 (by decide) kw_29 (v := .ref (a 5)) rfl dX5_read_108 ?_
    refine lv_iload (pc := 111) S.1 S.2.1 dX5_read_111 (lv_at hl 5 rfl) ?_
    refine lv_iload (pc := 113) S.1 S.2.1 dX5_read_113 (lv_at hl 7 rfl) ?_
    obtain ⟨hn2, h⟩ := h
    refine tp_iast (pc := 115) S E.1 hP (cC_D E st1) hS 5 0 (cC_coming a ca st1) rfl (j := x5.toNatClampNeg) rfl hn2 (sC_coming a ca st1 _ _) dX5_read_115 (fun st3 H locs e3 hP hS => ?_)
    have h := h st3 e3
    refine lv_iload (pc := 116) S.1 S.2.1 dX5_read_116 (lv_at hl 6 rfl) ?_
    refine lv_iconst (pc := 118) S.1 S.2.1 (v := 1) dX5_read_118 (by decide) ?_
    refine lv_iadd (pc := 119) S.1 S.2.1 dX5_read_119 ?_
    refine lv_topi (fun y3_4 e4 => ?_)
    have h := h y3_4 e4
    refine lv_istore_n (pc := 120) S.1 S.2.1 (lv' := [(3, .int y3_4), (9, .int r2), (0, .ref (a 3)), (1, .ref (a 1)), (2, .int x2), (4, .int x4), (5, .int x5), (7, .int x7), (8, .int x8)]) dX5_read_120 rfl hl (by decide) rfl (fun ls hl => ?_)
    obtain ⟨y4_5, e5⟩ : ∃ y : Int32, y = x4 + 1 := ⟨_, rfl⟩
    have h := h y4_5 e5
    refine lv_iinc (pc := 121) S.1 S.2.1 (v := y4_5) (lv' := [(4, .int y4_5), (3, .int y3_4), (9, .int r2), (0, .ref (a 3)), (1, .ref (a 1)), (2, .int x2), (5, .int x5), (7, .int x7), (8, .int x8)]) dX5_read_121 hl (k := 5) rfl (by rw [e5]; rfl) (by decide) rfl (fun ls hl => ?_)
    refine lv_goto (pc := 124) S.1 S.2.1 (tgt := 18) dX5_read_124 (by decide) ?_
    exact hk18 x2 y3_4 y4_5 st3 h _ _ _ hP hS (lv_sub hl [3, 4, 5, 1, 0] rfl)
  · have h := h.2 c1
    refine lv_iload (pc := 104) S.1 S.2.1 dX5_read_104 (lv_at hl 0 rfl) ?_
    exact tRi S hr hlk hP hS h dX5_read_106
set_option maxHeartbeats 4000000 in
set_option maxRecDepth 100000 in
theorem wk_X5_read_127 {p : Program} {l : Launch} {e : Env} {s : State} {m : MethodId} {args : Array Value} {below : List Frame} {meth : Method} {c : Code} {dC : Nat → ClassId} {dI : Nat → Nat → Nat} {a : Nat → Nat} {ca : Nat → ClassId} {tb : Nat → Nat} {w0 : Cond} (S : CallFix p m c cX5_read 10 s args (w0 :: tWALL) RX5) (hr : meth.sig.returnType = (some .int)) (hlk : meth.locks = false) (E : tEnv 47 dC dI a ca tb s) (post : Int32 → tSt → Prop) : ∀  (st : tSt), wp_TownWord_read_127 post  st → tAt p l e rmX5_read s m args below meth c (dC, dI) (cwC a ca) (tA 47 a s.heap.size) (tQi (cwC a ca) 47 dC dI a args below s post) 10 127 [(0, .ref (a 3))] [] st := by
  intro  st h H locs ls hP hS hl
  refine lv_aload_n (pc := 127) S.1 S.2.1 dX5_read_127 rfl (lv_at hl 0 rfl) ?_
  refine tp_get (pc := 128) S E.1 hP iwX5 3 (cC_tw a ca st) rfl 1 (by decide) kw_29 (v := .ref (a 5)) rfl dX5_read_128 ?_
  refine lv_iconst (pc := 131) S.1 S.2.1 (v := 0) dX5_read_131 (by decide) ?_
  refine lv_aload_n (pc := 132) S.1 S.2.1 dX5_read_132 rfl (lv_at hl 0 rfl) ?_
  refine tp_get (pc := 133) S E.1 hP iwX5 3 (cC_tw a ca st) rfl 0 (by decide) kw_13 (v := .ref (a 4)) rfl dX5_read_133 ?_
  refine lv_iconst (pc := 136) S.1 S.2.1 (v := 0) dX5_read_136 (by decide) ?_
  refine lv_iconst (pc := 137) S.1 S.2.1 (v := 4) dX5_read_137 (by decide) ?_
  refine tp_copyi (pc := 138) S E.1 hP (cC_D E st) hS hl.1 (S.2.2.2.2 _ (List.mem_cons_of_mem _ kw_30)) (S.2.2.2.2 _ (List.mem_cons_of_mem _ kw_31)) (S.2.2.2.2 _ (List.mem_cons_of_mem _ kw_32)) (S.2.2.2.2 _ (List.mem_cons_of_mem _ kw_33)) 5 4 (cC_coming a ca st) (cC_numbers a ca st) (by decide) (by decide) (by decide) (by decide +kernel) (by decide +kernel) (Nat.le_of_ble_eq_true rfl) (Nat.le_of_ble_eq_true rfl) (rC_numbers a ca st _) dX5_read_138 (fun st1 H locs e1 hP hS => ?_)
  have h := h st1 e1
  refine lv_iconst (pc := 141) S.1 S.2.1 (v := 0) dX5_read_141 (by decide) ?_
  exact tRi S hr hlk hP hS h dX5_read_142
set_option maxHeartbeats 4000000 in
set_option maxRecDepth 100000 in
theorem wk_X5_read_18 {p : Program} {l : Launch} {e : Env} {s : State} {m : MethodId} {args : Array Value} {below : List Frame} {meth : Method} {c : Code} {dC : Nat → ClassId} {dI : Nat → Nat → Nat} {a : Nat → Nat} {ca : Nat → ClassId} {tb : Nat → Nat} {w0 : Cond} (S : CallFix p m c cX5_read 10 s args (w0 :: tWALL) RX5) (hr : meth.sig.returnType = (some .int)) (hlk : meth.locks = false) (E : tEnv 47 dC dI a ca tb s) (post : Int32 → tSt → Prop) (k127 : tSt → Prop) (hk127 : ∀  (st : tSt), k127  st → tAt p l e rmX5_read s m args below meth c (dC, dI) (cwC a ca) (tA 47 a s.heap.size) (tQi (cwC a ca) 47 dC dI a args below s post) 10 127 [(0, .ref (a 3))] [] st) : ∀ (n : Nat) (x2 : Int32) (x3 : Int32) (x4 : Int32) (st : tSt), wp_TownWord_read_18 post k127 n x2 x3 x4 st → tAt p l e rmX5_read s m args below meth c (dC, dI) (cwC a ca) (tA 47 a s.heap.size) (tQi (cwC a ca) 47 dC dI a args below s post) 10 18 [(0, .ref (a 3)), (1, .ref (a 1)), (2, .int x2), (3, .int x3), (4, .int x4)] [] st := by
  intro n
  induction n with
  | zero => intro x2 x3 x4 st h; exact absurd h id
  | succ n ih =>
    intro x2 x3 x4 st h H locs ls hP hS hl
    refine lv_iload (pc := 18) S.1 S.2.1 dX5_read_18 (lv_at hl 4 rfl) ?_
    refine lv_iload_n (pc := 20) S.1 S.2.1 dX5_read_20 rfl (lv_at hl 2 rfl) ?_
    refine lv_icmp_gt (pc := 21) (tgt := 127) S.1 S.2.1 dX5_read_21 (by decide) (fun c1 => ?_) (fun c1 => ?_)
    · have h := h.1 c1
      exact hk127  st h _ _ _ hP hS (lv_sub hl [0] rfl)
    · have h := h.2 c1
      refine lv_iload_n (pc := 24) S.1 S.2.1 dX5_read_24 rfl (lv_at hl 3 rfl) ?_
      refine lv_iload_n (pc := 25) S.1 S.2.1 dX5_read_25 rfl (lv_at hl 2 rfl) ?_
      refine lv_icmp_gt (pc := 26) (tgt := 127) S.1 S.2.1 dX5_read_26 (by decide) (fun c2 => ?_) (fun c2 => ?_)
      · have h := h.1 c2
        exact hk127  st h _ _ _ hP hS (lv_sub hl [0] rfl)
      · have h := h.2 c2
        refine lv_aload_n (pc := 29) S.1 S.2.1 dX5_read_29 rfl (lv_at hl 1 rfl) ?_
        refine lv_iload_n (pc := 30) S.1 S.2.1 dX5_read_30 rfl (lv_at hl 3 rfl) ?_
        refine lv_iload_n (pc := 31) S.1 S.2.1 dX5_read_31 rfl (lv_at hl 2 rfl) ?_
        refine tGi hS (tRunS (pc := 32) (As := [.ref (a 1), .int x3, .int x2]) (rest := []) S E hP hS (mt_X5_kindAt l dC dI a ca tb _ x3 x2 st _ h) (cw_X5_kindAt ⟨Nat.le_of_ble_eq_true rfl, Nat.le_of_ble_eq_true rfl⟩) kw_35 kw_34 rfl hl.1 rfl (Nat.le_of_ble_eq_true rfl) dX5_read_32) (fun r2 st1 H locs h hP hS => ?_)
        refine lv_istore (pc := 35) S.1 S.2.1 (lv' := [(5, .int r2), (0, .ref (a 3)), (1, .ref (a 1)), (2, .int x2), (3, .int x3), (4, .int x4)]) dX5_read_35 hl (by decide) rfl (fun ls hl => ?_)
        refine lv_iload (pc := 37) S.1 S.2.1 dX5_read_37 (lv_at hl 0 rfl) ?_
        refine lv_iconst (pc := 39) S.1 S.2.1 (v := (-1)) dX5_read_39 (by decide) ?_
        refine lv_icmp_ne (pc := 40) (tgt := 48) S.1 S.2.1 dX5_read_40 (by decide) (fun c3 => ?_) (fun c3 => ?_)
        · have h := h.2 c3
          refine lv_iload_n (pc := 48) S.1 S.2.1 dX5_read_48 rfl (lv_at hl 4 rfl) ?_
          refine lv_iconst (pc := 49) S.1 S.2.1 (v := 1) dX5_read_49 (by decide) ?_
          refine lv_iadd (pc := 50) S.1 S.2.1 dX5_read_50 ?_
          refine lv_topi (fun y6_3 e4 => ?_)
          have h := h y6_3 e4
          refine lv_istore (pc := 51) S.1 S.2.1 (lv' := [(6, .int y6_3), (5, .int r2), (0, .ref (a 3)), (1, .ref (a 1)), (2, .int x2), (3, .int x3), (4, .int x4)]) dX5_read_51 hl (by decide) rfl (fun ls hl => ?_)
          refine lv_aload_n (pc := 53) S.1 S.2.1 dX5_read_53 rfl (lv_at hl 3 rfl) ?_
          refine lv_iload (pc := 54) S.1 S.2.1 dX5_read_54 (lv_at hl 0 rfl) ?_
          refine lv_iload_n (pc := 56) S.1 S.2.1 dX5_read_56 rfl (lv_at hl 4 rfl) ?_
          refine tGi hS (tRunS (pc := 57) (As := [.ref (a 1), .int y6_3, .int x2]) (rest := []) S E hP hS (mt_X5_endOfDigits l dC dI a ca tb _ y6_3 x2 st1 _ h) (cw_X5_endOfDigits ⟨Nat.le_of_ble_eq_true rfl, Nat.le_of_ble_eq_true rfl⟩) kw_37 kw_36 rfl hl.1 rfl (Nat.le_of_ble_eq_true rfl) dX5_read_57) (fun r5 st4 H locs h hP hS => ?_)
          refine lv_istore (pc := 60) S.1 S.2.1 (lv' := [(7, .int r5), (6, .int y6_3), (5, .int r2), (0, .ref (a 3)), (1, .ref (a 1)), (2, .int x2), (3, .int x3), (4, .int x4)]) dX5_read_60 hl (by decide) rfl (fun ls hl => ?_)
          refine lv_aload_n (pc := 62) S.1 S.2.1 dX5_read_62 rfl (lv_at hl 4 rfl) ?_
          refine lv_iload (pc := 63) S.1 S.2.1 dX5_read_63 (lv_at hl 1 rfl) ?_
          refine lv_iload (pc := 65) S.1 S.2.1 dX5_read_65 (lv_at hl 0 rfl) ?_
          refine tGi hS (tRunS (pc := 67) (As := [.ref (a 1), .int y6_3, .int r5]) (rest := []) S E hP hS (mt_X5_numberBetween l dC dI a ca tb _ y6_3 r5 st4 _ h) (cw_X5_numberBetween ⟨Nat.le_of_ble_eq_true rfl, Nat.le_of_ble_eq_true rfl⟩) kw_39 kw_38 rfl hl.1 rfl (Nat.le_of_ble_eq_true rfl) dX5_read_67) (fun r7 st6 H locs h hP hS => ?_)
          refine lv_istore (pc := 70) S.1 S.2.1 (lv' := [(8, .int r7), (7, .int r5), (6, .int y6_3), (5, .int r2), (0, .ref (a 3)), (1, .ref (a 1)), (2, .int x2), (3, .int x3), (4, .int x4)]) dX5_read_70 hl (by decide) rfl (fun ls hl => ?_)
          refine lv_aload_n (pc := 72) S.1 S.2.1 dX5_read_72 rfl (lv_at hl 5 rfl) ?_
          refine lv_iload (pc := 73) S.1 S.2.1 dX5_read_73 (lv_at hl 2 rfl) ?_
          refine lv_iload (pc := 75) S.1 S.2.1 dX5_read_75 (lv_at hl 1 rfl) ?_
          refine lv_iload_n (pc := 77) S.1 S.2.1 dX5_read_77 rfl (lv_at hl 6 rfl) ?_
          refine lv_iload (pc := 78) S.1 S.2.1 dX5_read_78 (lv_at hl 0 rfl) ?_
          refine va_gets (pc := 80) S.1 S.2.1 (E.2.2.1.2.2.1).1 hS S.2.2.2.1 (S.2.2.2.2 _ (List.mem_cons_of_mem _ kw_40)) (fun _ h => h) dX5_read_80 ?_
          refine lv_iload (pc := 83) S.1 S.2.1 dX5_read_83 (lv_at hl 3 rfl) ?_
          obtain ⟨hn5, h⟩ := h
          refine va_ti (pc := 85) S.1 S.2.1 (E.2.2.1.2.2.1).2 hS hn5 (v := .int (tab_HIGHEST r2.toNatClampNeg)) rfl dX5_read_85 ?_
          refine lv_icmp_le (pc := 86) (tgt := 93) S.1 S.2.1 dX5_read_86 (by decide) (fun c6 => ?_) (fun c6 => ?_)
          · have h := h.1 c6
            refine lv_iconst (pc := 93) S.1 S.2.1 (v := 0) dX5_read_93 (by decide) ?_
            exact (fun x2 x4 x5 x7 x8 s1 s2 s3 s4 st h => wk_X5_read_94 S hr hlk E post (wp_TownWord_read_18 post k127 n) ih k127 hk127 x2 x4 x5 x7 x8 s1 s2 s3 s4 st h) x2 x4 r2 r5 r7 y6_3 r5 x2 (0 : Int32) st6 h _ _ _ hP hS (lv_sub hl [4, 5, 6, 8, 3, 1, 0] rfl)
          · have h := h.2 c6
            refine lv_iconst (pc := 89) S.1 S.2.1 (v := 1) dX5_read_89 (by decide) ?_
            refine lv_goto (pc := 90) S.1 S.2.1 (tgt := 94) dX5_read_90 (by decide) ?_
            exact (fun x2 x4 x5 x7 x8 s1 s2 s3 s4 st h => wk_X5_read_94 S hr hlk E post (wp_TownWord_read_18 post k127 n) ih k127 hk127 x2 x4 x5 x7 x8 s1 s2 s3 s4 st h) x2 x4 r2 r5 r7 y6_3 r5 x2 (1 : Int32) st6 h _ _ _ hP hS (lv_sub hl [4, 5, 6, 8, 3, 1, 0] rfl)
        · have h := h.1 c3
          refine lv_bipush (pc := 43) S.1 S.2.1 (v := 100) dX5_read_43 (by decide) ?_
          refine lv_iload_n (pc := 45) S.1 S.2.1 dX5_read_45 rfl (lv_at hl 4 rfl) ?_
          refine lv_iadd (pc := 46) S.1 S.2.1 dX5_read_46 ?_
          exact tRi S hr hlk hP hS h dX5_read_47
set_option maxHeartbeats 4000000 in
set_option maxRecDepth 100000 in
theorem mt_X5_read (l : Launch) (dC : Nat → ClassId) (dI : Nat → Nat → Nat) (a : Nat → Nat) (ca : Nat → ClassId) (tb : Nat → Nat) (sz : Nat) (x2 : Int32) (st : tSt) (post : Int32 → tSt → Prop) (h : wp_TownWord_read x2 st post) : Met l yX5_read (.code yX5_read cX5_read 10 (some .int) :: tWALL) rmX5_read (va_Pc [.ref (a 3), .ref (a 1), .int x2] (tPre 47 (cwC a ca) dC dI a ca tb sz st)) (va_Qi post (tB (cwC a ca) dC dI) (tA 47 a sz)) 0 0 (tA 47 a sz) := by
  refine tp_met (by decide) (Nat.le_of_ble_eq_true rfl) ?_
  intro p e s m below meth c ls S hr hlk hsz E hP hl
  subst hsz
  have S : CallFix p m c cX5_read 10 s _ (.code yX5_read cX5_read 10 (some .int) :: tWALL) RX5 := S
  have hl : lv_has ls 10 [(0, .ref (a 3)), (1, .ref (a 1)), (2, .int x2)] := hl
  have hS : va_S (tA 47 a s.heap.size) s.heap s.heap [] := va_S.rf
  show W p l e _ s m _ below meth c s.heap [] 0 0 (tQi (cwC a ca) 47 dC dI a ([.ref (a 3), .ref (a 1), .int x2] : List Value).toArray below s post) (F0 m 0 ls [])
  refine va_gets (pc := 0) S.1 S.2.1 (E.2.2.1.2.1).1 hS S.2.2.2.1 (S.2.2.2.2 _ (List.mem_cons_of_mem _ kw_41)) (fun _ h => h) dX5_read_0 ?_
  refine lv_iconst (pc := 3) S.1 S.2.1 (v := 0) dX5_read_3 (by decide) ?_
  refine lv_aload_n (pc := 4) S.1 S.2.1 dX5_read_4 rfl (lv_at hl 0 rfl) ?_
  refine tp_get (pc := 5) S E.1 hP iwX5 3 (cC_tw a ca st) rfl 1 (by decide) kw_29 (v := .ref (a 5)) rfl dX5_read_5 ?_
  refine lv_iconst (pc := 8) S.1 S.2.1 (v := 0) dX5_read_8 (by decide) ?_
  refine lv_iconst (pc := 9) S.1 S.2.1 (v := 4) dX5_read_9 (by decide) ?_
  refine tp_copyx (pc := 10) S E.1 hP (cC_D E st) hS hl.1 (S.2.2.2.2 _ (List.mem_cons_of_mem _ kw_30)) (S.2.2.2.2 _ (List.mem_cons_of_mem _ kw_31)) (S.2.2.2.2 _ (List.mem_cons_of_mem _ kw_32)) (S.2.2.2.2 _ (List.mem_cons_of_mem _ kw_33)) E.2.2.1.2.1.2 5 (cC_coming a ca st) (by decide) (by decide) (by decide) (by decide +kernel) (by decide +kernel) (Nat.le_of_ble_eq_true rfl) (Nat.le_of_ble_eq_true rfl) (rC_coming a ca st _) dX5_read_10 (fun st1 H locs e1 hP hS => ?_)
  have h := h st1 e1
  refine lv_iconst (pc := 13) S.1 S.2.1 (v := 0) dX5_read_13 (by decide) ?_
  refine lv_istore_n (pc := 14) S.1 S.2.1 (lv' := [(3, .int (0 : Int32)), (0, .ref (a 3)), (1, .ref (a 1)), (2, .int x2)]) dX5_read_14 rfl hl (by decide) rfl (fun ls hl => ?_)
  refine lv_iconst (pc := 15) S.1 S.2.1 (v := 0) dX5_read_15 (by decide) ?_
  refine lv_istore (pc := 16) S.1 S.2.1 (lv' := [(4, .int (0 : Int32)), (3, .int (0 : Int32)), (0, .ref (a 3)), (1, .ref (a 1)), (2, .int x2)]) dX5_read_16 hl (by decide) rfl (fun ls hl => ?_)
  exact (fun x2 x3 x4 st h => Exists.elim h (fun q h => wk_X5_read_18 S hr hlk E post (wp_TownWord_read_127 post) (fun  st h => wk_X5_read_127 S hr hlk E post   st h) q x2 x3 x4 st h)) x2 (0 : Int32) (0 : Int32) st1 h _ _ _ hP hS (lv_sub hl [2, 3, 4, 1, 0] rfl)

abbrev rmX2_join : Room := { frames := 0, cells := 0, slots := 0, locals := 0 }
theorem cw_X2_join {R : Room} {own : String} {index : Nat} (h : rmX2_join.frames + 1 ≤ R.frames ∧ 8 + (3 + 11) + rmX2_join.locals ≤ R.locals) : tCw R own index yX2_join cX2_join 3 none rmX2_join 2 := ⟨kw_46, kw_45, ⟨rfl, rfl, h.1, h.2⟩, by decide +kernel, by decide +kernel, by decide +kernel⟩

set_option maxHeartbeats 4000000 in
set_option maxRecDepth 100000 in
theorem mt_X2_join (l : Launch) (dC : Nat → ClassId) (dI : Nat → Nat → Nat) (a : Nat → Nat) (ca : Nat → ClassId) (tb : Nat → Nat) (sz : Nat) {j : Nat} (hj : j < 6) (x1 : Int32) (x2 : Int32) (st : tSt) (post : tSt → Prop) (h : wp_Piper_join j x1 x2 st post) : Met l yX2_join (.code yX2_join cX2_join 3 none :: tWALL) rmX2_join (va_Pc [.ref (a (7 + j)), .int x1, .int x2] (tPre 47 (cwC a ca) dC dI a ca tb sz st)) (va_Qv post (tB (cwC a ca) dC dI) (tA 47 a sz)) 0 0 (tA 47 a sz) := by
  refine tp_met (by decide) (Nat.le_of_ble_eq_true rfl) ?_
  intro p e s m below meth c ls S hr hlk hsz E hP hl
  subst hsz
  have S : CallFix p m c cX2_join 3 s _ (.code yX2_join cX2_join 3 none :: tWALL) RX2 := S
  have hl : lv_has ls 3 [(0, .ref (a (7 + j))), (1, .int x1), (2, .int x2)] := hl
  have hS : va_S (tA 47 a s.heap.size) s.heap s.heap [] := va_S.rf
  show W p l e _ s m _ below meth c s.heap [] 0 0 (tQv (cwC a ca) 47 dC dI a ([.ref (a (7 + j)), .int x1, .int x2] : List Value).toArray below s post) (F0 m 0 ls [])
  refine lv_aload_n (pc := 0) S.1 S.2.1 dX2_join_0 rfl (lv_at hl 0 rfl) ?_
  refine lv_iload_n (pc := 1) S.1 S.2.1 dX2_join_1 rfl (lv_at hl 1 rfl) ?_
  refine tp_put (pc := 2) S E.1 hP (cC_D E st) hS iwX2 tyX2 tyX2_ok nmX2 (7 + j) (cC_piper a ca st hj) rfl 0 (by decide) kw_43 rfl (v := .int x1) (tyX2_ok 0 (by decide)) rfl rfl (Nat.le_of_ble_eq_true rfl) (sC_piper_rank a ca st hj _) dX2_join_2 (fun st1 H locs e1 hP hS => ?_)
  have h := h st1 e1
  refine lv_aload_n (pc := 5) S.1 S.2.1 dX2_join_5 rfl (lv_at hl 0 rfl) ?_
  refine lv_iload_n (pc := 6) S.1 S.2.1 dX2_join_6 rfl (lv_at hl 2 rfl) ?_
  refine tp_put (pc := 7) S E.1 hP (cC_D E st1) hS iwX2 tyX2 tyX2_ok nmX2 (7 + j) (cC_piper a ca st1 hj) rfl 1 (by decide) kw_44 rfl (v := .int x2) (tyX2_ok 1 (by decide)) rfl rfl (Nat.le_of_ble_eq_true rfl) (sC_piper_plays a ca st1 hj _) dX2_join_7 (fun st2 H locs e2 hP hS => ?_)
  have h := h st2 e2
  exact tRv S hr hlk hP hS h dX2_join_10

abbrev rmX7_hasBit : Room := { frames := 0, cells := 0, slots := 0, locals := 0 }
theorem cw_X7_hasBit {R : Room} {own : String} {index : Nat} (h : rmX7_hasBit.frames + 1 ≤ R.frames ∧ 8 + (2 + 11) + rmX7_hasBit.locals ≤ R.locals) : tCw R own index yX7_hasBit cX7_hasBit 2 (some .boolean) rmX7_hasBit 2 := ⟨kw_47, kw_6, ⟨rfl, rfl, h.1, h.2⟩, by decide +kernel, by decide +kernel, by decide +kernel⟩

set_option maxHeartbeats 4000000 in
set_option maxRecDepth 100000 in
theorem mt_X7_hasBit (l : Launch) (dC : Nat → ClassId) (dI : Nat → Nat → Nat) (a : Nat → Nat) (ca : Nat → ClassId) (tb : Nat → Nat) (sz : Nat) (x0 : Int32) (x1 : Int32) (st : tSt) (post : Int32 → tSt → Prop) (h : wp_T_hasBit x0 x1 st post) : Met l yX7_hasBit (.code yX7_hasBit cX7_hasBit 2 (some .boolean) :: tWALL) rmX7_hasBit (va_Pc [.int x0, .int x1] (tPre 47 (cwC a ca) dC dI a ca tb sz st)) (va_Qi post (tB (cwC a ca) dC dI) (tA 47 a sz)) 0 0 (tA 47 a sz) := by
  refine tp_met (by decide) (Nat.le_of_ble_eq_true rfl) ?_
  intro p e s m below meth c ls S hr hlk hsz E hP hl
  subst hsz
  have S : CallFix p m c cX7_hasBit 2 s _ (.code yX7_hasBit cX7_hasBit 2 (some .boolean) :: tWALL) RX7 := S
  have hl : lv_has ls 2 [(0, .int x0), (1, .int x1)] := hl
  have hS : va_S (tA 47 a s.heap.size) s.heap s.heap [] := va_S.rf
  show W p l e _ s m _ below meth c s.heap [] 0 0 (tQi (cwC a ca) 47 dC dI a ([.int x0, .int x1] : List Value).toArray below s post) (F0 m 0 ls [])
  refine lv_iload_n (pc := 0) S.1 S.2.1 dX7_hasBit_0 rfl (lv_at hl 0 rfl) ?_
  refine lv_iload_n (pc := 1) S.1 S.2.1 dX7_hasBit_1 rfl (lv_at hl 1 rfl) ?_
  refine lv_ishr (pc := 2) S.1 S.2.1 dX7_hasBit_2 ?_
  refine lv_iconst (pc := 3) S.1 S.2.1 (v := 1) dX7_hasBit_3 (by decide) ?_
  refine lv_iand (pc := 4) S.1 S.2.1 dX7_hasBit_4 ?_
  refine lv_iconst (pc := 5) S.1 S.2.1 (v := 1) dX7_hasBit_5 (by decide) ?_
  refine lv_icmp_ne (pc := 6) (tgt := 13) S.1 S.2.1 dX7_hasBit_6 (by decide) (fun c1 => ?_) (fun c1 => ?_)
  · have h := h.2 c1
    refine lv_iconst (pc := 13) S.1 S.2.1 (v := 0) dX7_hasBit_13 (by decide) ?_
    exact tRz S hr hlk hP hS (Or.inl rfl) h dX7_hasBit_14
  · have h := h.1 c1
    refine lv_iconst (pc := 9) S.1 S.2.1 (v := 1) dX7_hasBit_9 (by decide) ?_
    refine lv_goto (pc := 10) S.1 S.2.1 (tgt := 14) dX7_hasBit_10 (by decide) ?_
    exact tRz S hr hlk hP hS (Or.inr rfl) h dX7_hasBit_14
