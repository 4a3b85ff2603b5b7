abbrev rmX7_word : Room := { frames := 5, cells := 0, slots := 0, locals := 118 }
theorem cw_X7_word {R : Room} {own : String} {index : Nat} (h : rmX7_word.frames + 1 ≤ R.frames ∧ 8 + (3 + 11) + rmX7_word.locals ≤ R.locals) : tCw R own index yX7_word cX7_word 3 (some .int) rmX7_word 1 := ⟨kw_241, kw_6, ⟨rfl, rfl, h.1, h.2⟩, by decide +kernel, by decide +kernel, by decide +kernel⟩

set_option maxHeartbeats 4000000 in
set_option maxRecDepth 100000 in
theorem mt_X7_word (l : Launch) (dC : Nat → ClassId) (dI : Nat → Nat → Nat) (a : Nat → Nat) (ca : Nat → ClassId) (tb : Nat → Nat) (sz : Nat) (x1 : Int32) (st : tSt) (post : Int32 → tSt → Prop) (h : wp_T_word x1 st post) : Met l yX7_word (.code yX7_word cX7_word 3 (some .int) :: tWALL) rmX7_word (va_Pc [.ref (a 0), .int x1] (tPre 47 (cwC a ca) dC dI a ca tb sz st)) (va_Qi post (tB (cwC a ca) dC dI) (tA 47 a sz)) 0 0 (tA 47 a sz) := by
  refine tp_met (by decide) (Nat.le_of_ble_eq_true rfl) ?_
  intro p e s m below meth c ls S hr hlk hsz E hP hl
  subst hsz
  have S : CallFix p m c cX7_word 3 s _ (.code yX7_word cX7_word 3 (some .int) :: tWALL) RX7 := S
  have hl : lv_has ls 3 [(0, .ref (a 0)), (1, .int x1)] := hl
  have hS : va_S (tA 47 a s.heap.size) s.heap s.heap [] := va_S.rf
  show W p l e _ s m _ below meth c s.heap [] 0 0 (tQi (cwC a ca) 47 dC dI a ([.ref (a 0), .int x1] : List Value).toArray below s post) (F0 m 0 ls [])
  refine lv_iload_n (pc := 0) S.1 S.2.1 dX7_word_0 rfl (lv_at hl 1 rfl) ?_
  refine lv_if_lt (pc := 1) (tgt := 15) S.1 S.2.1 dX7_word_1 (by decide) (fun c1 => ?_) (fun c1 => ?_)
  · have h := h.1 c1
    refine lv_iconst (pc := 15) S.1 S.2.1 (v := (-1)) dX7_word_15 (by decide) ?_
    exact tRi S hr hlk hP hS h dX7_word_16
  · have h := h.2 c1
    refine lv_iload_n (pc := 4) S.1 S.2.1 dX7_word_4 rfl (lv_at hl 1 rfl) ?_
    refine lv_aload_n (pc := 5) S.1 S.2.1 dX7_word_5 rfl (lv_at hl 0 rfl) ?_
    refine tp_get (pc := 6) S E.1 hP iwX7 0 (cC_tp a ca st) rfl 0 (by decide) kw_222 (v := .ref (a 1)) rfl dX7_word_6 ?_
    refine tGi hS (tRunV (pc := 9) (As := []) (rest := [.int x1]) S E hP hS (mt_X4_size l dC dI a ca tb _  st _ h) (cw_X4_size ⟨Nat.le_of_ble_eq_true rfl, Nat.le_of_ble_eq_true rfl⟩) kw_229 kw_230 kw_231 1 4 rfl rfl (cC_tape a ca st) rfl hl.1 rfl (Nat.le_of_ble_eq_true rfl) dX7_word_9) (fun r2 st1 H locs h hP hS => ?_)
    refine lv_icmp_le (pc := 12) (tgt := 17) S.1 S.2.1 dX7_word_12 (by decide) (fun c2 => ?_) (fun c2 => ?_)
    · have h := h.1 c2
      refine lv_aload_n (pc := 17) S.1 S.2.1 dX7_word_17 rfl (lv_at hl 0 rfl) ?_
      refine tp_get (pc := 18) S E.1 hP iwX7 0 (cC_tp a ca st1) rfl 1 (by decide) kw_233 (v := .ref (a 3)) rfl dX7_word_18 ?_
      refine lv_aload_n (pc := 21) S.1 S.2.1 dX7_word_21 rfl (lv_at hl 0 rfl) ?_
      refine tp_get (pc := 22) S E.1 hP iwX7 0 (cC_tp a ca st1) rfl 0 (by decide) kw_222 (v := .ref (a 1)) rfl dX7_word_22 ?_
      refine lv_iload_n (pc := 25) S.1 S.2.1 dX7_word_25 rfl (lv_at hl 1 rfl) ?_
      refine tGi hS (tRunV (pc := 26) (As := [.ref (a 1), .int x1]) (rest := []) S E hP hS (mt_X5_read l dC dI a ca tb _ x1 st1 _ h) (cw_X5_read ⟨Nat.le_of_ble_eq_true rfl, Nat.le_of_ble_eq_true rfl⟩) kw_234 kw_235 kw_236 3 5 rfl rfl (cC_tw a ca st1) rfl hl.1 rfl (Nat.le_of_ble_eq_true rfl) dX7_word_26) (fun r4 st3 H locs h hP hS => ?_)
      refine lv_istore_n (pc := 29) S.1 S.2.1 (lv' := [(2, .int r4), (0, .ref (a 0)), (1, .int x1)]) dX7_word_29 rfl hl (by decide) rfl (fun ls hl => ?_)
      refine lv_aload_n (pc := 30) S.1 S.2.1 dX7_word_30 rfl (lv_at hl 1 rfl) ?_
      refine tp_get (pc := 31) S E.1 hP iwX7 0 (cC_tp a ca st3) rfl 0 (by decide) kw_222 (v := .ref (a 1)) rfl dX7_word_31 ?_
      refine tGv hS (tRunV (pc := 34) (As := []) (rest := []) S E hP hS (mt_X4_empty l dC dI a ca tb _  st3 _ h) (cw_X4_empty ⟨Nat.le_of_ble_eq_true rfl, Nat.le_of_ble_eq_true rfl⟩) kw_237 kw_238 kw_239 1 4 rfl rfl (cC_tape a ca st3) rfl hl.1 rfl (Nat.le_of_ble_eq_true rfl) dX7_word_34) (fun st5 H locs h hP hS => ?_)
      refine lv_aload_n (pc := 37) S.1 S.2.1 dX7_word_37 rfl (lv_at hl 1 rfl) ?_
      refine lv_iconst (pc := 38) S.1 S.2.1 (v := 0) dX7_word_38 (by decide) ?_
      refine tp_put (pc := 39) S E.1 hP (cC_D E st5) hS iwX7 tyX7 tyX7_ok nmX7 0 (cC_tp a ca st5) rfl 12 (by decide) kw_240 rfl (v := .int (0 : Int32)) (tyX7_ok 12 (by decide)) (by decide +kernel) rfl (Nat.le_of_ble_eq_true rfl) (sC_tp_planned a ca st5 _) dX7_word_39 (fun st6 H locs e3 hP hS => ?_)
      have h := h st6 e3
      refine lv_iload_n (pc := 42) S.1 S.2.1 dX7_word_42 rfl (lv_at hl 0 rfl) ?_
      exact tRi S hr hlk hP hS h dX7_word_43
    · have h := h.2 c2
      refine lv_iconst (pc := 15) S.1 S.2.1 (v := (-1)) dX7_word_15 (by decide) ?_
      exact tRi S hr hlk hP hS h dX7_word_16

abbrev rmX7_piper : Room := { frames := 1, cells := 0, slots := 0, locals := 22 }
theorem cw_X7_piper {R : Room} {own : String} {index : Nat} (h : rmX7_piper.frames + 1 ≤ R.frames ∧ 8 + (4 + 11) + rmX7_piper.locals ≤ R.locals) : tCw R own index yX7_piper cX7_piper 4 (some .int) rmX7_piper 2 := ⟨kw_248, kw_6, ⟨rfl, rfl, h.1, h.2⟩, by decide +kernel, by decide +kernel, by decide +kernel⟩

set_option maxHeartbeats 4000000 in
set_option maxRecDepth 100000 in
theorem mt_X7_piper (l : Launch) (dC : Nat → ClassId) (dI : Nat → Nat → Nat) (a : Nat → Nat) (ca : Nat → ClassId) (tb : Nat → Nat) (sz : Nat) (x1 : Int32) (x2 : Int32) (st : tSt) (post : Int32 → tSt → Prop) (h : wp_T_piper x1 x2 st post) : Met l yX7_piper (.code yX7_piper cX7_piper 4 (some .int) :: tWALL) rmX7_piper (va_Pc [.ref (a 0), .int x1, .int x2] (tPre 47 (cwC a ca) dC dI a ca tb sz st)) (va_Qi post (tB (cwC a ca) dC dI) (tA 47 a sz)) 0 0 (tA 47 a sz) := by
  refine tp_met (by decide) (Nat.le_of_ble_eq_true rfl) ?_
  intro p e s m below meth c ls S hr hlk hsz E hP hl
  subst hsz
  have S : CallFix p m c cX7_piper 4 s _ (.code yX7_piper cX7_piper 4 (some .int) :: tWALL) RX7 := S
  have hl : lv_has ls 4 [(0, .ref (a 0)), (1, .int x1), (2, .int x2)] := hl
  have hS : va_S (tA 47 a s.heap.size) s.heap s.heap [] := va_S.rf
  show W p l e _ s m _ below meth c s.heap [] 0 0 (tQi (cwC a ca) 47 dC dI a ([.ref (a 0), .int x1, .int x2] : List Value).toArray below s post) (F0 m 0 ls [])
  refine lv_aload_n (pc := 0) S.1 S.2.1 dX7_piper_0 rfl (lv_at hl 0 rfl) ?_
  refine tp_get (pc := 1) S E.1 hP iwX7 0 (cC_tp a ca st) rfl 8 (by decide) kw_242 (v := .int (st 0 0)) rfl dX7_piper_1 ?_
  refine lv_bipush (pc := 4) S.1 S.2.1 (v := 6) dX7_piper_4 (by decide) ?_
  refine lv_icmp_ge (pc := 6) (tgt := 29) S.1 S.2.1 dX7_piper_6 (by decide) (fun c1 => ?_) (fun c1 => ?_)
  · have h := h.1 c1
    refine lv_iconst (pc := 29) S.1 S.2.1 (v := (-1)) dX7_piper_29 (by decide) ?_
    exact tRi S hr hlk hP hS h dX7_piper_30
  · have h := h.2 c1
    refine lv_iload_n (pc := 9) S.1 S.2.1 dX7_piper_9 rfl (lv_at hl 1 rfl) ?_
    refine lv_iconst (pc := 10) S.1 S.2.1 (v := 1) dX7_piper_10 (by decide) ?_
    refine lv_bipush (pc := 11) S.1 S.2.1 (v := 9) dX7_piper_11 (by decide) ?_
    refine tGi hS (tRunS (pc := 13) (As := [.int x1, .int (1 : Int32), .int (9 : Int32)]) (rest := []) S E hP hS (mt_X7_within l dC dI a ca tb _ x1 (1 : Int32) (9 : Int32) st _ h) (cw_X7_within ⟨Nat.le_of_ble_eq_true rfl, Nat.le_of_ble_eq_true rfl⟩) kw_243 kw_8 rfl hl.1 rfl (Nat.le_of_ble_eq_true rfl) dX7_piper_13) (fun r2 st1 H locs h hP hS => ?_)
    refine lv_if_eq (pc := 16) (tgt := 29) S.1 S.2.1 dX7_piper_16 (by decide) (fun c2 => ?_) (fun c2 => ?_)
    · have h := h.1 c2
      refine lv_iconst (pc := 29) S.1 S.2.1 (v := (-1)) dX7_piper_29 (by decide) ?_
      exact tRi S hr hlk hP hS h dX7_piper_30
    · have h := h.2 c2
      refine lv_iload_n (pc := 19) S.1 S.2.1 dX7_piper_19 rfl (lv_at hl 2 rfl) ?_
      refine lv_iconst (pc := 20) S.1 S.2.1 (v := 1) dX7_piper_20 (by decide) ?_
      refine lv_bipush (pc := 21) S.1 S.2.1 (v := 31) dX7_piper_21 (by decide) ?_
      refine tGi hS (tRunS (pc := 23) (As := [.int x2, .int (1 : Int32), .int (31 : Int32)]) (rest := []) S E hP hS (mt_X7_within l dC dI a ca tb _ x2 (1 : Int32) (31 : Int32) st1 _ h) (cw_X7_within ⟨Nat.le_of_ble_eq_true rfl, Nat.le_of_ble_eq_true rfl⟩) kw_243 kw_8 rfl hl.1 rfl (Nat.le_of_ble_eq_true rfl) dX7_piper_23) (fun r4 st3 H locs h hP hS => ?_)
      refine lv_if_ne (pc := 26) (tgt := 31) S.1 S.2.1 dX7_piper_26 (by decide) (fun c3 => ?_) (fun c3 => ?_)
      · have h := h.2 c3
        refine lv_aload_n (pc := 31) S.1 S.2.1 dX7_piper_31 rfl (lv_at hl 0 rfl) ?_
        refine tp_get (pc := 32) S E.1 hP iwX7 0 (cC_tp a ca st3) rfl 8 (by decide) kw_242 (v := .int (st3 0 0)) rfl dX7_piper_32 ?_
        refine lv_topi (fun y3_5 e4 => ?_)
        have h := h y3_5 e4
        refine lv_istore_n (pc := 35) S.1 S.2.1 (lv' := [(3, .int y3_5), (0, .ref (a 0)), (1, .int x1), (2, .int x2)]) dX7_piper_35 rfl hl (by decide) rfl (fun ls hl => ?_)
        refine lv_aload_n (pc := 36) S.1 S.2.1 dX7_piper_36 rfl (lv_at hl 1 rfl) ?_
        refine tp_get (pc := 37) S E.1 hP iwX7 0 (cC_tp a ca st3) rfl 2 (by decide) kw_244 (v := .ref (a 6)) rfl dX7_piper_37 ?_
        refine lv_iload_n (pc := 40) S.1 S.2.1 dX7_piper_40 rfl (lv_at hl 0 rfl) ?_
        obtain ⟨hn5, h⟩ := h
        refine tp_aald (pc := 41) S E.1 hP 6 1 (cC_pipersA a ca st3) rfl (j := y3_5.toNatClampNeg) (d := a (7 + y3_5.toNatClampNeg)) rfl rfl hn5 dX7_piper_41 ?_
        have hj6 := t_lt hn5
        refine lv_iload_n (pc := 42) S.1 S.2.1 dX7_piper_42 rfl (lv_at hl 2 rfl) ?_
        refine lv_iload_n (pc := 43) S.1 S.2.1 dX7_piper_43 rfl (lv_at hl 3 rfl) ?_
        refine tGv hS (tRunV (pc := 44) (As := [.int x1, .int x2]) (rest := []) S E hP hS (mt_X2_join l dC dI a ca tb _ hj6 x1 x2 st3 _ h) (cw_X2_join ⟨Nat.le_of_ble_eq_true rfl, Nat.le_of_ble_eq_true rfl⟩) kw_245 kw_246 kw_247 (7 + y3_5.toNatClampNeg) 2 rfl rfl (cC_piper a ca st3 hj6) rfl hl.1 rfl (Nat.le_of_ble_eq_true rfl) dX7_piper_44) (fun st6 H locs h hP hS => ?_)
        refine lv_aload_n (pc := 47) S.1 S.2.1 dX7_piper_47 rfl (lv_at hl 1 rfl) ?_
        refine lv_dup (pc := 48) S.1 S.2.1 dX7_piper_48 rfl ?_
        refine tp_get (pc := 49) S E.1 hP iwX7 0 (cC_tp a ca st6) rfl 8 (by decide) kw_242 (v := .int (st6 0 0)) rfl dX7_piper_49 ?_
        refine lv_iconst (pc := 52) S.1 S.2.1 (v := 1) dX7_piper_52 (by decide) ?_
        refine lv_iadd (pc := 53) S.1 S.2.1 dX7_piper_53 ?_
        refine tp_put (pc := 54) S E.1 hP (cC_D E st6) hS iwX7 tyX7 tyX7_ok nmX7 0 (cC_tp a ca st6) rfl 8 (by decide) kw_242 rfl (v := .int ((st6 0 0) + (1 : Int32))) (tyX7_ok 8 (by decide)) rfl rfl (Nat.le_of_ble_eq_true rfl) (sC_tp_piperCount a ca st6 _) dX7_piper_54 (fun st7 H locs e7 hP hS => ?_)
        have h := h st7 e7
        refine lv_aload_n (pc := 57) S.1 S.2.1 dX7_piper_57 rfl (lv_at hl 1 rfl) ?_
        refine lv_iconst (pc := 58) S.1 S.2.1 (v := 0) dX7_piper_58 (by decide) ?_
        refine tp_put (pc := 59) S E.1 hP (cC_D E st7) hS iwX7 tyX7 tyX7_ok nmX7 0 (cC_tp a ca st7) rfl 12 (by decide) kw_240 rfl (v := .int (0 : Int32)) (tyX7_ok 12 (by decide)) (by decide +kernel) rfl (Nat.le_of_ble_eq_true rfl) (sC_tp_planned a ca st7 _) dX7_piper_59 (fun st8 H locs e8 hP hS => ?_)
        have h := h st8 e8
        refine lv_iload_n (pc := 62) S.1 S.2.1 dX7_piper_62 rfl (lv_at hl 0 rfl) ?_
        exact tRi S hr hlk hP hS h dX7_piper_63
      · have h := h.1 c3
        refine lv_iconst (pc := 29) S.1 S.2.1 (v := (-1)) dX7_piper_29 (by decide) ?_
        exact tRi S hr hlk hP hS h dX7_piper_30

abbrev rmX7_isPiper : Room := { frames := 1, cells := 0, slots := 0, locals := 22 }
theorem cw_X7_isPiper {R : Room} {own : String} {index : Nat} (h : rmX7_isPiper.frames + 1 ≤ R.frames ∧ 8 + (2 + 11) + rmX7_isPiper.locals ≤ R.locals) : tCw R own index yX7_isPiper cX7_isPiper 2 (some .boolean) rmX7_isPiper 1 := ⟨kw_249, kw_6, ⟨rfl, rfl, h.1, h.2⟩, by decide +kernel, by decide +kernel, by decide +kernel⟩

set_option maxHeartbeats 4000000 in
set_option maxRecDepth 100000 in
theorem mt_X7_isPiper (l : Launch) (dC : Nat → ClassId) (dI : Nat → Nat → Nat) (a : Nat → Nat) (ca : Nat → ClassId) (tb : Nat → Nat) (sz : Nat) (x1 : Int32) (st : tSt) (post : Int32 → tSt → Prop) (h : wp_T_isPiper x1 st post) : Met l yX7_isPiper (.code yX7_isPiper cX7_isPiper 2 (some .boolean) :: tWALL) rmX7_isPiper (va_Pc [.ref (a 0), .int x1] (tPre 47 (cwC a ca) dC dI a ca tb sz st)) (va_Qi post (tB (cwC a ca) dC dI) (tA 47 a sz)) 0 0 (tA 47 a sz) := by
  refine tp_met (by decide) (Nat.le_of_ble_eq_true rfl) ?_
  intro p e s m below meth c ls S hr hlk hsz E hP hl
  subst hsz
  have S : CallFix p m c cX7_isPiper 2 s _ (.code yX7_isPiper cX7_isPiper 2 (some .boolean) :: tWALL) RX7 := S
  have hl : lv_has ls 2 [(0, .ref (a 0)), (1, .int x1)] := hl
  have hS : va_S (tA 47 a s.heap.size) s.heap s.heap [] := va_S.rf
  show W p l e _ s m _ below meth c s.heap [] 0 0 (tQi (cwC a ca) 47 dC dI a ([.ref (a 0), .int x1] : List Value).toArray below s post) (F0 m 0 ls [])
  refine lv_iload_n (pc := 0) S.1 S.2.1 dX7_isPiper_0 rfl (lv_at hl 1 rfl) ?_
  refine lv_iconst (pc := 1) S.1 S.2.1 (v := 0) dX7_isPiper_1 (by decide) ?_
  refine lv_aload_n (pc := 2) S.1 S.2.1 dX7_isPiper_2 rfl (lv_at hl 0 rfl) ?_
  refine tp_get (pc := 3) S E.1 hP iwX7 0 (cC_tp a ca st) rfl 8 (by decide) kw_242 (v := .int (st 0 0)) rfl dX7_isPiper_3 ?_
  refine lv_iconst (pc := 6) S.1 S.2.1 (v := 1) dX7_isPiper_6 (by decide) ?_
  refine lv_isub (pc := 7) S.1 S.2.1 dX7_isPiper_7 ?_
  refine tGi hS (tRunS (pc := 8) (As := [.int x1, .int (0 : Int32), .int ((st 0 0) - (1 : Int32))]) (rest := []) S E hP hS (mt_X7_within l dC dI a ca tb _ x1 (0 : Int32) ((st 0 0) - (1 : Int32)) st _ h) (cw_X7_within ⟨Nat.le_of_ble_eq_true rfl, Nat.le_of_ble_eq_true rfl⟩) kw_243 kw_8 rfl hl.1 rfl (Nat.le_of_ble_eq_true rfl) dX7_isPiper_8) (fun r2 st1 H locs h hP hS => ?_)
  obtain ⟨hn1, h⟩ := h
  exact tRz S hr hlk hP hS hn1 h dX7_isPiper_11

abbrev rmX7_ill : Room := { frames := 2, cells := 0, slots := 0, locals := 43 }
theorem cw_X7_ill {R : Room} {own : String} {index : Nat} (h : rmX7_ill.frames + 1 ≤ R.frames ∧ 8 + (4 + 11) + rmX7_ill.locals ≤ R.locals) : tCw R own index yX7_ill cX7_ill 4 (some .boolean) rmX7_ill 2 := ⟨kw_254, kw_6, ⟨rfl, rfl, h.1, h.2⟩, by decide +kernel, by decide +kernel, by decide +kernel⟩
set_option maxHeartbeats 4000000 in
set_option maxRecDepth 100000 in
theorem wk_X7_ill_9 {p : Program} {l : Launch} {e : Env} {s : State} {m : MethodId} {args : Array Value} {below : List Frame} {meth : Method} {c : Code} {dC : Nat → ClassId} {dI : Nat → Nat → Nat} {a : Nat → Nat} {ca : Nat → ClassId} {tb : Nat → Nat} {w0 : Cond} (S : CallFix p m c cX7_ill 4 s args (w0 :: tWALL) RX7) (hr : meth.sig.returnType = (some .boolean)) (hlk : meth.locks = false) (E : tEnv 47 dC dI a ca tb s) (post : Int32 → tSt → Prop) : ∀ (x1 : Int32) (s0 : Int32) (st : tSt), wp_T_ill_9 post x1 s0 st → tAt p l e rmX7_ill s m args below meth c (dC, dI) (cwC a ca) (tA 47 a s.heap.size) (tQi (cwC a ca) 47 dC dI a args below s post) 4 9 [(0, .ref (a 0)), (1, .int x1)] [.int s0] st := by
  intro x1 s0 st h H locs ls hP hS hl
  refine lv_istore_n (pc := 9) S.1 S.2.1 (lv' := [(3, .int s0), (0, .ref (a 0)), (1, .int x1)]) dX7_ill_9 rfl hl (by decide) rfl (fun ls hl => ?_)
  refine lv_aload_n (pc := 10) S.1 S.2.1 dX7_ill_10 rfl (lv_at hl 1 rfl) ?_
  refine lv_iload_n (pc := 11) S.1 S.2.1 dX7_ill_11 rfl (lv_at hl 2 rfl) ?_
  refine tGi hS (tRunV (pc := 12) (As := [.int x1]) (rest := []) S E hP hS (mt_X7_isPiper l dC dI a ca tb _ x1 st _ h) (cw_X7_isPiper ⟨Nat.le_of_ble_eq_true rfl, Nat.le_of_ble_eq_true rfl⟩) kw_250 kw_251 kw_252 0 7 rfl rfl (cC_tp a ca st) rfl hl.1 rfl (Nat.le_of_ble_eq_true rfl) dX7_ill_12) (fun r2 st1 H locs h hP hS => ?_)
  refine lv_if_eq (pc := 15) (tgt := 44) S.1 S.2.1 dX7_ill_15 (by decide) (fun c1 => ?_) (fun c1 => ?_)
  · have h := h.1 c1
    refine lv_iconst (pc := 44) S.1 S.2.1 (v := 0) dX7_ill_44 (by decide) ?_
    exact tRz S hr hlk hP hS (Or.inl rfl) h dX7_ill_45
  · have h := h.2 c1
    refine lv_aload_n (pc := 18) S.1 S.2.1 dX7_ill_18 rfl (lv_at hl 1 rfl) ?_
    refine tp_get (pc := 19) S E.1 hP iwX7 0 (cC_tp a ca st1) rfl 2 (by decide) kw_244 (v := .ref (a 6)) rfl dX7_ill_19 ?_
    refine lv_iload_n (pc := 22) S.1 S.2.1 dX7_ill_22 rfl (lv_at hl 2 rfl) ?_
    obtain ⟨hn2, h⟩ := h
    refine tp_aald (pc := 23) S E.1 hP 6 1 (cC_pipersA a ca st1) rfl (j := x1.toNatClampNeg) (d := a (7 + x1.toNatClampNeg)) rfl rfl hn2 dX7_ill_23 ?_
    have hj3 := t_lt hn2
    refine tp_getN (pc := 24) S E.2.1 E.1 hP iwX2 (7 + x1.toNatClampNeg) (cC_piper a ca st1 hj3) rfl 2 (by decide) kw_253 (v := .int (st1 11 x1.toNatClampNeg)) rfl dX7_ill_24 ?_
    refine lv_iconst (pc := 27) S.1 S.2.1 (v := 2) dX7_ill_27 (by decide) ?_
    refine lv_icmp_eq (pc := 28) (tgt := 44) S.1 S.2.1 dX7_ill_28 (by decide) (fun c4 => ?_) (fun c4 => ?_)
    · have h := h.1 c4
      refine lv_iconst (pc := 44) S.1 S.2.1 (v := 0) dX7_ill_44 (by decide) ?_
      exact tRz S hr hlk hP hS (Or.inl rfl) h dX7_ill_45
    · have h := h.2 c4
      refine lv_aload_n (pc := 31) S.1 S.2.1 dX7_ill_31 rfl (lv_at hl 1 rfl) ?_
      refine tp_get (pc := 32) S E.1 hP iwX7 0 (cC_tp a ca st1) rfl 2 (by decide) kw_244 (v := .ref (a 6)) rfl dX7_ill_32 ?_
      refine lv_iload_n (pc := 35) S.1 S.2.1 dX7_ill_35 rfl (lv_at hl 2 rfl) ?_
      obtain ⟨hn5, h⟩ := h
      refine tp_aald (pc := 36) S E.1 hP 6 1 (cC_pipersA a ca st1) rfl (j := x1.toNatClampNeg) (d := a (7 + x1.toNatClampNeg)) rfl rfl hn5 dX7_ill_36 ?_
      refine tp_getN (pc := 37) S E.2.1 E.1 hP iwX2 (7 + x1.toNatClampNeg) (cC_piper a ca st1 hj3) rfl 2 (by decide) kw_253 (v := .int (st1 11 x1.toNatClampNeg)) rfl dX7_ill_37 ?_
      refine lv_iload_n (pc := 40) S.1 S.2.1 dX7_ill_40 rfl (lv_at hl 0 rfl) ?_
      refine lv_icmp_ne (pc := 41) (tgt := 46) S.1 S.2.1 dX7_ill_41 (by decide) (fun c6 => ?_) (fun c6 => ?_)
      · have h := h.2 c6
        refine lv_aload_n (pc := 46) S.1 S.2.1 dX7_ill_46 rfl (lv_at hl 1 rfl) ?_
        refine tp_get (pc := 47) S E.1 hP iwX7 0 (cC_tp a ca st1) rfl 2 (by decide) kw_244 (v := .ref (a 6)) rfl dX7_ill_47 ?_
        refine lv_iload_n (pc := 50) S.1 S.2.1 dX7_ill_50 rfl (lv_at hl 2 rfl) ?_
        obtain ⟨hn7, h⟩ := h
        refine tp_aald (pc := 51) S E.1 hP 6 1 (cC_pipersA a ca st1) rfl (j := x1.toNatClampNeg) (d := a (7 + x1.toNatClampNeg)) rfl rfl hn7 dX7_ill_51 ?_
        refine lv_iload_n (pc := 52) S.1 S.2.1 dX7_ill_52 rfl (lv_at hl 0 rfl) ?_
        refine tp_putN (pc := 53) S E.2.1 E.1 hP (cC_D E st1) hS iwX2 tyX2 tyX2_ok nmX2 (7 + x1.toNatClampNeg) (cC_piper a ca st1 hj3) rfl 2 (by decide) kw_253 rfl (v := .int s0) (tyX2_ok 2 (by decide)) rfl rfl (Nat.le_of_ble_eq_true rfl) (sC_piper_state a ca st1 hj3 _) dX7_ill_53 (fun st3 H locs e8 hP hS => ?_)
        have h := h st3 e8
        refine lv_aload_n (pc := 56) S.1 S.2.1 dX7_ill_56 rfl (lv_at hl 1 rfl) ?_
        refine lv_iconst (pc := 57) S.1 S.2.1 (v := 0) dX7_ill_57 (by decide) ?_
        refine tp_put (pc := 58) S E.1 hP (cC_D E st3) hS iwX7 tyX7 tyX7_ok nmX7 0 (cC_tp a ca st3) rfl 12 (by decide) kw_240 rfl (v := .int (0 : Int32)) (tyX7_ok 12 (by decide)) (by decide +kernel) rfl (Nat.le_of_ble_eq_true rfl) (sC_tp_planned a ca st3 _) dX7_ill_58 (fun st4 H locs e9 hP hS => ?_)
        have h := h st4 e9
        refine lv_iconst (pc := 61) S.1 S.2.1 (v := 1) dX7_ill_61 (by decide) ?_
        exact tRz S hr hlk hP hS (Or.inr rfl) h dX7_ill_62
      · have h := h.1 c6
        refine lv_iconst (pc := 44) S.1 S.2.1 (v := 0) dX7_ill_44 (by decide) ?_
        exact tRz S hr hlk hP hS (Or.inl rfl) h dX7_ill_45
set_option maxHeartbeats 4000000 in
set_option maxRecDepth 100000 in
theorem mt_X7_ill (l : Launch) (dC : Nat → ClassId) (dI : Nat → Nat → Nat) (a : Nat → Nat) (ca : Nat → ClassId) (tb : Nat → Nat) (sz : Nat) (x1 : Int32) (x2 : Int32) (st : tSt) (post : Int32 → tSt → Prop) (h : wp_T_ill x1 x2 st post) : Met l yX7_ill (.code yX7_ill cX7_ill 4 (some .boolean) :: tWALL) rmX7_ill (va_Pc [.ref (a 0), .int x1, .int x2] (tPre 47 (cwC a ca) dC dI a ca tb sz st)) (va_Qi post (tB (cwC a ca) dC dI) (tA 47 a sz)) 0 0 (tA 47 a sz) := by
  refine tp_met (by decide) (Nat.le_of_ble_eq_true rfl) ?_
  intro p e s m below meth c ls S hr hlk hsz E hP hl
  subst hsz
  have S : CallFix p m c cX7_ill 4 s _ (.code yX7_ill cX7_ill 4 (some .boolean) :: tWALL) RX7 := S
  have hl : lv_has ls 4 [(0, .ref (a 0)), (1, .int x1), (2, .int x2)] := hl
  have hS : va_S (tA 47 a s.heap.size) s.heap s.heap [] := va_S.rf
  show W p l e _ s m _ below meth c s.heap [] 0 0 (tQi (cwC a ca) 47 dC dI a ([.ref (a 0), .int x1, .int x2] : List Value).toArray below s post) (F0 m 0 ls [])
  refine lv_iload_n (pc := 0) S.1 S.2.1 dX7_ill_0 rfl (lv_at hl 2 rfl) ?_
  refine lv_if_eq (pc := 1) (tgt := 8) S.1 S.2.1 dX7_ill_1 (by decide) (fun c1 => ?_) (fun c1 => ?_)
  · have h := h.1 c1
    refine lv_iconst (pc := 8) S.1 S.2.1 (v := 0) dX7_ill_8 (by decide) ?_
    exact (fun x1 s0 st h => wk_X7_ill_9 S hr hlk E post  x1 s0 st h) x1 (0 : Int32) st h _ _ _ hP hS (lv_sub hl [0, 1] rfl)
  · have h := h.2 c1
    refine lv_iconst (pc := 4) S.1 S.2.1 (v := 1) dX7_ill_4 (by decide) ?_
    refine lv_goto (pc := 5) S.1 S.2.1 (tgt := 9) dX7_ill_5 (by decide) ?_
    exact (fun x1 s0 st h => wk_X7_ill_9 S hr hlk E post  x1 s0 st h) x1 (1 : Int32) st h _ _ _ hP hS (lv_sub hl [0, 1] rfl)

abbrev rmX7_old : Room := { frames := 2, cells := 0, slots := 0, locals := 43 }
theorem cw_X7_old {R : Room} {own : String} {index : Nat} (h : rmX7_old.frames + 1 ≤ R.frames ∧ 8 + (2 + 11) + rmX7_old.locals ≤ R.locals) : tCw R own index yX7_old cX7_old 2 (some .boolean) rmX7_old 1 := ⟨kw_255, kw_6, ⟨rfl, rfl, h.1, h.2⟩, by decide +kernel, by decide +kernel, by decide +kernel⟩

set_option maxHeartbeats 4000000 in
set_option maxRecDepth 100000 in
theorem mt_X7_old (l : Launch) (dC : Nat → ClassId) (dI : Nat → Nat → Nat) (a : Nat → Nat) (ca : Nat → ClassId) (tb : Nat → Nat) (sz : Nat) (x1 : Int32) (st : tSt) (post : Int32 → tSt → Prop) (h : wp_T_old x1 st post) : Met l yX7_old (.code yX7_old cX7_old 2 (some .boolean) :: tWALL) rmX7_old (va_Pc [.ref (a 0), .int x1] (tPre 47 (cwC a ca) dC dI a ca tb sz st)) (va_Qi post (tB (cwC a ca) dC dI) (tA 47 a sz)) 0 0 (tA 47 a sz) := by
  refine tp_met (by decide) (Nat.le_of_ble_eq_true rfl) ?_
  intro p e s m below meth c ls S hr hlk hsz E hP hl
  subst hsz
  have S : CallFix p m c cX7_old 2 s _ (.code yX7_old cX7_old 2 (some .boolean) :: tWALL) RX7 := S
  have hl : lv_has ls 2 [(0, .ref (a 0)), (1, .int x1)] := hl
  have hS : va_S (tA 47 a s.heap.size) s.heap s.heap [] := va_S.rf
  show W p l e _ s m _ below meth c s.heap [] 0 0 (tQi (cwC a ca) 47 dC dI a ([.ref (a 0), .int x1] : List Value).toArray below s post) (F0 m 0 ls [])
  refine lv_aload_n (pc := 0) S.1 S.2.1 dX7_old_0 rfl (lv_at hl 0 rfl) ?_
  refine lv_iload_n (pc := 1) S.1 S.2.1 dX7_old_1 rfl (lv_at hl 1 rfl) ?_
  refine tGi hS (tRunV (pc := 2) (As := [.int x1]) (rest := []) S E hP hS (mt_X7_isPiper l dC dI a ca tb _ x1 st _ h) (cw_X7_isPiper ⟨Nat.le_of_ble_eq_true rfl, Nat.le_of_ble_eq_true rfl⟩) kw_250 kw_251 kw_252 0 7 rfl rfl (cC_tp a ca st) rfl hl.1 rfl (Nat.le_of_ble_eq_true rfl) dX7_old_2) (fun r2 st1 H locs h hP hS => ?_)
  refine lv_if_eq (pc := 5) (tgt := 21) S.1 S.2.1 dX7_old_5 (by decide) (fun c1 => ?_) (fun c1 => ?_)
  · have h := h.1 c1
    refine lv_iconst (pc := 21) S.1 S.2.1 (v := 0) dX7_old_21 (by decide) ?_
    exact tRz S hr hlk hP hS (Or.inl rfl) h dX7_old_22
  · have h := h.2 c1
    refine lv_aload_n (pc := 8) S.1 S.2.1 dX7_old_8 rfl (lv_at hl 0 rfl) ?_
    refine tp_get (pc := 9) S E.1 hP iwX7 0 (cC_tp a ca st1) rfl 2 (by decide) kw_244 (v := .ref (a 6)) rfl dX7_old_9 ?_
    refine lv_iload_n (pc := 12) S.1 S.2.1 dX7_old_12 rfl (lv_at hl 1 rfl) ?_
    obtain ⟨hn2, h⟩ := h
    refine tp_aald (pc := 13) S E.1 hP 6 1 (cC_pipersA a ca st1) rfl (j := x1.toNatClampNeg) (d := a (7 + x1.toNatClampNeg)) rfl rfl hn2 dX7_old_13 ?_
    have hj3 := t_lt hn2
    refine tp_getN (pc := 14) S E.2.1 E.1 hP iwX2 (7 + x1.toNatClampNeg) (cC_piper a ca st1 hj3) rfl 2 (by decide) kw_253 (v := .int (st1 11 x1.toNatClampNeg)) rfl dX7_old_14 ?_
    refine lv_iconst (pc := 17) S.1 S.2.1 (v := 2) dX7_old_17 (by decide) ?_
    refine lv_icmp_ne (pc := 18) (tgt := 23) S.1 S.2.1 dX7_old_18 (by decide) (fun c4 => ?_) (fun c4 => ?_)
    · have h := h.2 c4
      refine lv_aload_n (pc := 23) S.1 S.2.1 dX7_old_23 rfl (lv_at hl 0 rfl) ?_
      refine tp_get (pc := 24) S E.1 hP iwX7 0 (cC_tp a ca st1) rfl 2 (by decide) kw_244 (v := .ref (a 6)) rfl dX7_old_24 ?_
      refine lv_iload_n (pc := 27) S.1 S.2.1 dX7_old_27 rfl (lv_at hl 1 rfl) ?_
      obtain ⟨hn5, h⟩ := h
      refine tp_aald (pc := 28) S E.1 hP 6 1 (cC_pipersA a ca st1) rfl (j := x1.toNatClampNeg) (d := a (7 + x1.toNatClampNeg)) rfl rfl hn5 dX7_old_28 ?_
      refine lv_iconst (pc := 29) S.1 S.2.1 (v := 2) dX7_old_29 (by decide) ?_
      refine tp_putN (pc := 30) S E.2.1 E.1 hP (cC_D E st1) hS iwX2 tyX2 tyX2_ok nmX2 (7 + x1.toNatClampNeg) (cC_piper a ca st1 hj3) rfl 2 (by decide) kw_253 rfl (v := .int (2 : Int32)) (tyX2_ok 2 (by decide)) rfl rfl (Nat.le_of_ble_eq_true rfl) (sC_piper_state a ca st1 hj3 _) dX7_old_30 (fun st3 H locs e6 hP hS => ?_)
      have h := h st3 e6
      refine lv_aload_n (pc := 33) S.1 S.2.1 dX7_old_33 rfl (lv_at hl 0 rfl) ?_
      refine lv_iconst (pc := 34) S.1 S.2.1 (v := 0) dX7_old_34 (by decide) ?_
      refine tp_put (pc := 35) S E.1 hP (cC_D E st3) hS iwX7 tyX7 tyX7_ok nmX7 0 (cC_tp a ca st3) rfl 12 (by decide) kw_240 rfl (v := .int (0 : Int32)) (tyX7_ok 12 (by decide)) (by decide +kernel) rfl (Nat.le_of_ble_eq_true rfl) (sC_tp_planned a ca st3 _) dX7_old_35 (fun st4 H locs e7 hP hS => ?_)
      have h := h st4 e7
      refine lv_iconst (pc := 38) S.1 S.2.1 (v := 1) dX7_old_38 (by decide) ?_
      exact tRz S hr hlk hP hS (Or.inr rfl) h dX7_old_39
    · have h := h.1 c4
      refine lv_iconst (pc := 21) S.1 S.2.1 (v := 0) dX7_old_21 (by decide) ?_
      exact tRz S hr hlk hP hS (Or.inl rfl) h dX7_old_22

abbrev rmX7_pieces : Room := { frames := 1, cells := 0, slots := 0, locals := 22 }
theorem cw_X7_pieces {R : Room} {own : String} {index : Nat} (h : rmX7_pieces.frames + 1 ≤ R.frames ∧ 8 + (3 + 11) + rmX7_pieces.locals ≤ R.locals) : tCw R own index yX7_pieces cX7_pieces 3 (some .boolean) rmX7_pieces 2 := ⟨kw_257, kw_6, ⟨rfl, rfl, h.1, h.2⟩, by decide +kernel, by decide +kernel, by decide +kernel⟩

set_option maxHeartbeats 4000000 in
set_option maxRecDepth 100000 in
theorem mt_X7_pieces (l : Launch) (dC : Nat → ClassId) (dI : Nat → Nat → Nat) (a : Nat → Nat) (ca : Nat → ClassId) (tb : Nat → Nat) (sz : Nat) (x1 : Int32) (x2 : Int32) (st : tSt) (post : Int32 → tSt → Prop) (h : wp_T_pieces x1 x2 st post) : Met l yX7_pieces (.code yX7_pieces cX7_pieces 3 (some .boolean) :: tWALL) rmX7_pieces (va_Pc [.ref (a 0), .int x1, .int x2] (tPre 47 (cwC a ca) dC dI a ca tb sz st)) (va_Qi post (tB (cwC a ca) dC dI) (tA 47 a sz)) 0 0 (tA 47 a sz) := by
  refine tp_met (by decide) (Nat.le_of_ble_eq_true rfl) ?_
  intro p e s m below meth c ls S hr hlk hsz E hP hl
  subst hsz
  have S : CallFix p m c cX7_pieces 3 s _ (.code yX7_pieces cX7_pieces 3 (some .boolean) :: tWALL) RX7 := S
  have hl : lv_has ls 3 [(0, .ref (a 0)), (1, .int x1), (2, .int x2)] := hl
  have hS : va_S (tA 47 a s.heap.size) s.heap s.heap [] := va_S.rf
  show W p l e _ s m _ below meth c s.heap [] 0 0 (tQi (cwC a ca) 47 dC dI a ([.ref (a 0), .int x1, .int x2] : List Value).toArray below s post) (F0 m 0 ls [])
  refine lv_iload_n (pc := 0) S.1 S.2.1 dX7_pieces_0 rfl (lv_at hl 1 rfl) ?_
  refine lv_iconst (pc := 1) S.1 S.2.1 (v := 0) dX7_pieces_1 (by decide) ?_
  refine lv_iconst (pc := 2) S.1 S.2.1 (v := 4) dX7_pieces_2 (by decide) ?_
  refine tGi hS (tRunS (pc := 3) (As := [.int x1, .int (0 : Int32), .int (4 : Int32)]) (rest := []) S E hP hS (mt_X7_within l dC dI a ca tb _ x1 (0 : Int32) (4 : Int32) st _ h) (cw_X7_within ⟨Nat.le_of_ble_eq_true rfl, Nat.le_of_ble_eq_true rfl⟩) kw_243 kw_8 rfl hl.1 rfl (Nat.le_of_ble_eq_true rfl) dX7_pieces_3) (fun r2 st1 H locs h hP hS => ?_)
  refine lv_if_eq (pc := 6) (tgt := 18) S.1 S.2.1 dX7_pieces_6 (by decide) (fun c1 => ?_) (fun c1 => ?_)
  · have h := h.1 c1
    refine lv_iconst (pc := 18) S.1 S.2.1 (v := 0) dX7_pieces_18 (by decide) ?_
    exact tRz S hr hlk hP hS (Or.inl rfl) h dX7_pieces_19
  · have h := h.2 c1
    refine lv_iload_n (pc := 9) S.1 S.2.1 dX7_pieces_9 rfl (lv_at hl 2 rfl) ?_
    refine lv_iconst (pc := 10) S.1 S.2.1 (v := 0) dX7_pieces_10 (by decide) ?_
    refine lv_iconst (pc := 11) S.1 S.2.1 (v := 3) dX7_pieces_11 (by decide) ?_
    refine tGi hS (tRunS (pc := 12) (As := [.int x2, .int (0 : Int32), .int (3 : Int32)]) (rest := []) S E hP hS (mt_X7_within l dC dI a ca tb _ x2 (0 : Int32) (3 : Int32) st1 _ h) (cw_X7_within ⟨Nat.le_of_ble_eq_true rfl, Nat.le_of_ble_eq_true rfl⟩) kw_243 kw_8 rfl hl.1 rfl (Nat.le_of_ble_eq_true rfl) dX7_pieces_12) (fun r4 st3 H locs h hP hS => ?_)
    refine lv_if_ne (pc := 15) (tgt := 20) S.1 S.2.1 dX7_pieces_15 (by decide) (fun c2 => ?_) (fun c2 => ?_)
    · have h := h.2 c2
      refine lv_aload_n (pc := 20) S.1 S.2.1 dX7_pieces_20 rfl (lv_at hl 0 rfl) ?_
      refine tp_get (pc := 21) S E.1 hP iwX7 0 (cC_tp a ca st3) rfl 5 (by decide) kw_256 (v := .ref (a 37)) rfl dX7_pieces_21 ?_
      refine lv_iload_n (pc := 24) S.1 S.2.1 dX7_pieces_24 rfl (lv_at hl 1 rfl) ?_
      refine lv_iload_n (pc := 25) S.1 S.2.1 dX7_pieces_25 rfl (lv_at hl 2 rfl) ?_
      obtain ⟨hn3, h⟩ := h
      refine tp_iast (pc := 26) S E.1 hP (cC_D E st3) hS 37 0 (cC_piecesOf a ca st3) rfl (j := x1.toNatClampNeg) rfl hn3 (sC_piecesOf a ca st3 _ _) dX7_pieces_26 (fun st5 H locs e4 hP hS => ?_)
      have h := h st5 e4
      refine lv_aload_n (pc := 27) S.1 S.2.1 dX7_pieces_27 rfl (lv_at hl 0 rfl) ?_
      refine lv_iconst (pc := 28) S.1 S.2.1 (v := 0) dX7_pieces_28 (by decide) ?_
      refine tp_put (pc := 29) S E.1 hP (cC_D E st5) hS iwX7 tyX7 tyX7_ok nmX7 0 (cC_tp a ca st5) rfl 12 (by decide) kw_240 rfl (v := .int (0 : Int32)) (tyX7_ok 12 (by decide)) (by decide +kernel) rfl (Nat.le_of_ble_eq_true rfl) (sC_tp_planned a ca st5 _) dX7_pieces_29 (fun st6 H locs e5 hP hS => ?_)
      have h := h st6 e5
      refine lv_iconst (pc := 32) S.1 S.2.1 (v := 1) dX7_pieces_32 (by decide) ?_
      exact tRz S hr hlk hP hS (Or.inr rfl) h dX7_pieces_33
    · have h := h.1 c2
      refine lv_iconst (pc := 18) S.1 S.2.1 (v := 0) dX7_pieces_18 (by decide) ?_
      exact tRz S hr hlk hP hS (Or.inl rfl) h dX7_pieces_19

abbrev rmX7_freeCall : Room := { frames := 0, cells := 0, slots := 0, locals := 0 }
theorem cw_X7_freeCall {R : Room} {own : String} {index : Nat} (h : rmX7_freeCall.frames + 1 ≤ R.frames ∧ 8 + (2 + 11) + rmX7_freeCall.locals ≤ R.locals) : tCw R own index yX7_freeCall cX7_freeCall 2 (some .int) rmX7_freeCall 0 := ⟨kw_260, kw_6, ⟨rfl, rfl, h.1, h.2⟩, by decide +kernel, by decide +kernel, by decide +kernel⟩
set_option maxHeartbeats 4000000 in
set_option maxRecDepth 100000 in
theorem wk_X7_freeCall_2 {p : Program} {l : Launch} {e : Env} {s : State} {m : MethodId} {args : Array Value} {below : List Frame} {meth : Method} {c : Code} {dC : Nat → ClassId} {dI : Nat → Nat → Nat} {a : Nat → Nat} {ca : Nat → ClassId} {tb : Nat → Nat} {w0 : Cond} (S : CallFix p m c cX7_freeCall 2 s args (w0 :: tWALL) RX7) (hr : meth.sig.returnType = (some .int)) (hlk : meth.locks = false) (E : tEnv 47 dC dI a ca tb s) (post : Int32 → tSt → Prop) : ∀ (n : Nat) (x1 : Int32) (st : tSt), wp_T_freeCall_2 post n x1 st → tAt p l e rmX7_freeCall s m args below meth c (dC, dI) (cwC a ca) (tA 47 a s.heap.size) (tQi (cwC a ca) 47 dC dI a args below s post) 2 2 [(0, .ref (a 0)), (1, .int x1)] [] st := by
  intro n
  induction n with
  | zero => intro x1 st h; exact absurd h id
  | succ n ih =>
    intro x1 st h H locs ls hP hS hl
    refine lv_iload_n (pc := 2) S.1 S.2.1 dX7_freeCall_2 rfl (lv_at hl 1 rfl) ?_
    refine lv_bipush (pc := 3) S.1 S.2.1 (v := 6) dX7_freeCall_3 (by decide) ?_
    refine lv_icmp_ge (pc := 5) (tgt := 28) S.1 S.2.1 dX7_freeCall_5 (by decide) (fun c1 => ?_) (fun c1 => ?_)
    · have h := h.1 c1
      refine lv_iconst (pc := 28) S.1 S.2.1 (v := (-1)) dX7_freeCall_28 (by decide) ?_
      exact tRi S hr hlk hP hS h dX7_freeCall_29
    · have h := h.2 c1
      refine lv_aload_n (pc := 8) S.1 S.2.1 dX7_freeCall_8 rfl (lv_at hl 0 rfl) ?_
      refine tp_get (pc := 9) S E.1 hP iwX7 0 (cC_tp a ca st) rfl 3 (by decide) kw_258 (v := .ref (a 13)) rfl dX7_freeCall_9 ?_
      refine lv_iload_n (pc := 12) S.1 S.2.1 dX7_freeCall_12 rfl (lv_at hl 1 rfl) ?_
      obtain ⟨hn2, h⟩ := h
      refine tp_aald (pc := 13) S E.1 hP 13 2 (cC_callsA a ca st) rfl (j := x1.toNatClampNeg) (d := a (14 + x1.toNatClampNeg)) rfl rfl hn2 dX7_freeCall_13 ?_
      have hj3 := t_lt hn2
      refine tp_getN (pc := 14) S E.2.1 E.1 hP iwX0 (14 + x1.toNatClampNeg) (cC_call a ca st hj3) rfl 1 (by decide) kw_259 (v := .int (st 13 x1.toNatClampNeg)) rfl dX7_freeCall_14 ?_
      refine lv_if_ne (pc := 17) (tgt := 22) S.1 S.2.1 dX7_freeCall_17 (by decide) (fun c4 => ?_) (fun c4 => ?_)
      · have h := h.2 c4
        obtain ⟨y1_1, e5⟩ : ∃ y : Int32, y = x1 + 1 := ⟨_, rfl⟩
        have h := h y1_1 e5
        refine lv_iinc (pc := 22) S.1 S.2.1 (v := y1_1) (lv' := [(1, .int y1_1), (0, .ref (a 0))]) dX7_freeCall_22 hl (k := 1) rfl (by rw [e5]; rfl) (by decide) rfl (fun ls hl => ?_)
        refine lv_goto (pc := 25) S.1 S.2.1 (tgt := 2) dX7_freeCall_25 (by decide) ?_
        exact ih y1_1 st h _ _ _ hP hS (lv_sub hl [1, 0] rfl)
      · have h := h.1 c4
        refine lv_iload_n (pc := 20) S.1 S.2.1 dX7_freeCall_20 rfl (lv_at hl 1 rfl) ?_
        exact tRi S hr hlk hP hS h dX7_freeCall_21
set_option maxHeartbeats 4000000 in
set_option maxRecDepth 100000 in
theorem mt_X7_freeCall (l : Launch) (dC : Nat → ClassId) (dI : Nat → Nat → Nat) (a : Nat → Nat) (ca : Nat → ClassId) (tb : Nat → Nat) (sz : Nat) (st : tSt) (post : Int32 → tSt → Prop) (h : wp_T_freeCall  st post) : Met l yX7_freeCall (.code yX7_freeCall cX7_freeCall 2 (some .int) :: tWALL) rmX7_freeCall (va_Pc [.ref (a 0)] (tPre 47 (cwC a ca) dC dI a ca tb sz st)) (va_Qi post (tB (cwC a ca) dC dI) (tA 47 a sz)) 0 0 (tA 47 a sz) := by
  refine tp_met (by decide) (Nat.le_of_ble_eq_true rfl) ?_
  intro p e s m below meth c ls S hr hlk hsz E hP hl
  subst hsz
  have S : CallFix p m c cX7_freeCall 2 s _ (.code yX7_freeCall cX7_freeCall 2 (some .int) :: tWALL) RX7 := S
  have hl : lv_has ls 2 [(0, .ref (a 0))] := hl
  have hS : va_S (tA 47 a s.heap.size) s.heap s.heap [] := va_S.rf
  show W p l e _ s m _ below meth c s.heap [] 0 0 (tQi (cwC a ca) 47 dC dI a ([.ref (a 0)] : List Value).toArray below s post) (F0 m 0 ls [])
  refine lv_iconst (pc := 0) S.1 S.2.1 (v := 0) dX7_freeCall_0 (by decide) ?_
  refine lv_istore_n (pc := 1) S.1 S.2.1 (lv' := [(1, .int (0 : Int32)), (0, .ref (a 0))]) dX7_freeCall_1 rfl hl (by decide) rfl (fun ls hl => ?_)
  exact (fun x1 st h => Exists.elim h (fun q h => wk_X7_freeCall_2 S hr hlk E post  q x1 st h)) (0 : Int32) st h _ _ _ hP hS (lv_sub hl [1, 0] rfl)

abbrev rmX7_call : Room := { frames := 2, cells := 0, slots := 0, locals := 85 }
theorem cw_X7_call {R : Room} {own : String} {index : Nat} (h : rmX7_call.frames + 1 ≤ R.frames ∧ 8 + (10 + 11) + rmX7_call.locals ≤ R.locals) : tCw R own index yX7_call cX7_call 10 (some .int) rmX7_call 8 := ⟨kw_270, kw_6, ⟨rfl, rfl, h.1, h.2⟩, by decide +kernel, by decide +kernel, by decide +kernel⟩

set_option maxHeartbeats 4000000 in
set_option maxRecDepth 100000 in
theorem mt_X7_call (l : Launch) (dC : Nat → ClassId) (dI : Nat → Nat → Nat) (a : Nat → Nat) (ca : Nat → ClassId) (tb : Nat → Nat) (sz : Nat) (x1 : Int32) (x2 : Int32) (x3 : Int32) (x4 : Int32) (x5 : Int32) (x6 : Int32) (x7 : Int32) (x8 : Int32) (st : tSt) (post : Int32 → tSt → Prop) (h : wp_T_call x1 x2 x3 x4 x5 x6 x7 x8 st post) : Met l yX7_call (.code yX7_call cX7_call 10 (some .int) :: tWALL) rmX7_call (va_Pc [.ref (a 0), .int x1, .int x2, .int x3, .int x4, .int x5, .int x6, .int x7, .int x8] (tPre 47 (cwC a ca) dC dI a ca tb sz st)) (va_Qi post (tB (cwC a ca) dC dI) (tA 47 a sz)) 0 0 (tA 47 a sz) := by
  refine tp_met (by decide) (Nat.le_of_ble_eq_true rfl) ?_
  intro p e s m below meth c ls S hr hlk hsz E hP hl
  subst hsz
  have S : CallFix p m c cX7_call 10 s _ (.code yX7_call cX7_call 10 (some .int) :: tWALL) RX7 := S
  have hl : lv_has ls 10 [(0, .ref (a 0)), (1, .int x1), (2, .int x2), (3, .int x3), (4, .int x4), (5, .int x5), (6, .int x6), (7, .int x7), (8, .int x8)] := hl
  have hS : va_S (tA 47 a s.heap.size) s.heap s.heap [] := va_S.rf
  show W p l e _ s m _ below meth c s.heap [] 0 0 (tQi (cwC a ca) 47 dC dI a ([.ref (a 0), .int x1, .int x2, .int x3, .int x4, .int x5, .int x6, .int x7, .int x8] : List Value).toArray below s post) (F0 m 0 ls [])
  refine lv_aload_n (pc := 0) S.1 S.2.1 dX7_call_0 rfl (lv_at hl 0 rfl) ?_
  refine tp_get (pc := 1) S E.1 hP iwX7 0 (cC_tp a ca st) rfl 6 (by decide) kw_261 (v := .ref (a 38)) rfl dX7_call_1 ?_
  refine lv_iconst (pc := 4) S.1 S.2.1 (v := 0) dX7_call_4 (by decide) ?_
  refine lv_iload_n (pc := 5) S.1 S.2.1 dX7_call_5 rfl (lv_at hl 1 rfl) ?_
  refine tp_iast (pc := 6) S E.1 hP (cC_D E st) hS 38 0 (cC_asked a ca st) rfl (j := 0) (by decide +kernel) (by decide +kernel : ¬ ((0 : Int32) < 0 ∨ 8 ≤ (0 : Int32).toNatClampNeg)) (sC_asked a ca st _ _) dX7_call_6 (fun st1 H locs e1 hP hS => ?_)
  have h := h st1 e1
  refine lv_aload_n (pc := 7) S.1 S.2.1 dX7_call_7 rfl (lv_at hl 0 rfl) ?_
  refine tp_get (pc := 8) S E.1 hP iwX7 0 (cC_tp a ca st1) rfl 6 (by decide) kw_261 (v := .ref (a 38)) rfl dX7_call_8 ?_
  refine lv_iconst (pc := 11) S.1 S.2.1 (v := 1) dX7_call_11 (by decide) ?_
  refine lv_iload_n (pc := 12) S.1 S.2.1 dX7_call_12 rfl (lv_at hl 2 rfl) ?_
  refine tp_iast (pc := 13) S E.1 hP (cC_D E st1) hS 38 0 (cC_asked a ca st1) rfl (j := 1) (by decide +kernel) (by decide +kernel : ¬ ((1 : Int32) < 0 ∨ 8 ≤ (1 : Int32).toNatClampNeg)) (sC_asked a ca st1 _ _) dX7_call_13 (fun st2 H locs e2 hP hS => ?_)
  have h := h st2 e2
  refine lv_aload_n (pc := 14) S.1 S.2.1 dX7_call_14 rfl (lv_at hl 0 rfl) ?_
  refine tp_get (pc := 15) S E.1 hP iwX7 0 (cC_tp a ca st2) rfl 6 (by decide) kw_261 (v := .ref (a 38)) rfl dX7_call_15 ?_
  refine lv_iconst (pc := 18) S.1 S.2.1 (v := 2) dX7_call_18 (by decide) ?_
  refine lv_iload_n (pc := 19) S.1 S.2.1 dX7_call_19 rfl (lv_at hl 3 rfl) ?_
  refine tp_iast (pc := 20) S E.1 hP (cC_D E st2) hS 38 0 (cC_asked a ca st2) rfl (j := 2) (by decide +kernel) (by decide +kernel : ¬ ((2 : Int32) < 0 ∨ 8 ≤ (2 : Int32).toNatClampNeg)) (sC_asked a ca st2 _ _) dX7_call_20 (fun st3 H locs e3 hP hS => ?_)
  have h := h st3 e3
  refine lv_aload_n (pc := 21) S.1 S.2.1 dX7_call_21 rfl (lv_at hl 0 rfl) ?_
  refine tp_get (pc := 22) S E.1 hP iwX7 0 (cC_tp a ca st3) rfl 6 (by decide) kw_261 (v := .ref (a 38)) rfl dX7_call_22 ?_
  refine lv_iconst (pc := 25) S.1 S.2.1 (v := 3) dX7_call_25 (by decide) ?_
  refine lv_iload (pc := 26) S.1 S.2.1 dX7_call_26 (lv_at hl 4 rfl) ?_
  refine tp_iast (pc := 28) S E.1 hP (cC_D E st3) hS 38 0 (cC_asked a ca st3) rfl (j := 3) (by decide +kernel) (by decide +kernel : ¬ ((3 : Int32) < 0 ∨ 8 ≤ (3 : Int32).toNatClampNeg)) (sC_asked a ca st3 _ _) dX7_call_28 (fun st4 H locs e4 hP hS => ?_)
  have h := h st4 e4
  refine lv_aload_n (pc := 29) S.1 S.2.1 dX7_call_29 rfl (lv_at hl 0 rfl) ?_
  refine tp_get (pc := 30) S E.1 hP iwX7 0 (cC_tp a ca st4) rfl 6 (by decide) kw_261 (v := .ref (a 38)) rfl dX7_call_30 ?_
  refine lv_iconst (pc := 33) S.1 S.2.1 (v := 4) dX7_call_33 (by decide) ?_
  refine lv_iload (pc := 34) S.1 S.2.1 dX7_call_34 (lv_at hl 5 rfl) ?_
  refine tp_iast (pc := 36) S E.1 hP (cC_D E st4) hS 38 0 (cC_asked a ca st4) rfl (j := 4) (by decide +kernel) (by decide +kernel : ¬ ((4 : Int32) < 0 ∨ 8 ≤ (4 : Int32).toNatClampNeg)) (sC_asked a ca st4 _ _) dX7_call_36 (fun st5 H locs e5 hP hS => ?_)
  have h := h st5 e5
  refine lv_aload_n (pc := 37) S.1 S.2.1 dX7_call_37 rfl (lv_at hl 0 rfl) ?_
  refine tp_get (pc := 38) S E.1 hP iwX7 0 (cC_tp a ca st5) rfl 6 (by decide) kw_261 (v := .ref (a 38)) rfl dX7_call_38 ?_
  refine lv_iconst (pc := 41) S.1 S.2.1 (v := 5) dX7_call_41 (by decide) ?_
  refine lv_iload (pc := 42) S.1 S.2.1 dX7_call_42 (lv_at hl 6 rfl) ?_
  refine tp_iast (pc := 44) S E.1 hP (cC_D E st5) hS 38 0 (cC_asked a ca st5) rfl (j := 5) (by decide +kernel) (by decide +kernel : ¬ ((5 : Int32) < 0 ∨ 8 ≤ (5 : Int32).toNatClampNeg)) (sC_asked a ca st5 _ _) dX7_call_44 (fun st6 H locs e6 hP hS => ?_)
  have h := h st6 e6
  refine lv_aload_n (pc := 45) S.1 S.2.1 dX7_call_45 rfl (lv_at hl 0 rfl) ?_
  refine tp_get (pc := 46) S E.1 hP iwX7 0 (cC_tp a ca st6) rfl 6 (by decide) kw_261 (v := .ref (a 38)) rfl dX7_call_46 ?_
  refine lv_bipush (pc := 49) S.1 S.2.1 (v := 6) dX7_call_49 (by decide) ?_
  refine lv_iload (pc := 51) S.1 S.2.1 dX7_call_51 (lv_at hl 7 rfl) ?_
  refine tp_iast (pc := 53) S E.1 hP (cC_D E st6) hS 38 0 (cC_asked a ca st6) rfl (j := 6) (by decide +kernel) (by decide +kernel : ¬ ((6 : Int32) < 0 ∨ 8 ≤ (6 : Int32).toNatClampNeg)) (sC_asked a ca st6 _ _) dX7_call_53 (fun st7 H locs e7 hP hS => ?_)
  have h := h st7 e7
  refine lv_aload_n (pc := 54) S.1 S.2.1 dX7_call_54 rfl (lv_at hl 0 rfl) ?_
  refine tp_get (pc := 55) S E.1 hP iwX7 0 (cC_tp a ca st7) rfl 6 (by decide) kw_261 (v := .ref (a 38)) rfl dX7_call_55 ?_
  refine lv_bipush (pc := 58) S.1 S.2.1 (v := 7) dX7_call_58 (by decide) ?_
  refine lv_iload (pc := 60) S.1 S.2.1 dX7_call_60 (lv_at hl 8 rfl) ?_
  refine tp_iast (pc := 62) S E.1 hP (cC_D E st7) hS 38 0 (cC_asked a ca st7) rfl (j := 7) (by decide +kernel) (by decide +kernel : ¬ ((7 : Int32) < 0 ∨ 8 ≤ (7 : Int32).toNatClampNeg)) (sC_asked a ca st7 _ _) dX7_call_62 (fun st8 H locs e8 hP hS => ?_)
  have h := h st8 e8
  refine lv_aload_n (pc := 63) S.1 S.2.1 dX7_call_63 rfl (lv_at hl 0 rfl) ?_
  refine tGi hS (tRunV (pc := 64) (As := []) (rest := []) S E hP hS (mt_X7_freeCall l dC dI a ca tb _  st8 _ h) (cw_X7_freeCall ⟨Nat.le_of_ble_eq_true rfl, Nat.le_of_ble_eq_true rfl⟩) kw_262 kw_263 kw_264 0 7 rfl rfl (cC_tp a ca st8) rfl hl.1 rfl (Nat.le_of_ble_eq_true rfl) dX7_call_64) (fun r10 st9 H locs h hP hS => ?_)
  refine lv_istore (pc := 67) S.1 S.2.1 (lv' := [(9, .int r10), (0, .ref (a 0)), (1, .int x1), (2, .int x2), (3, .int x3), (4, .int x4), (5, .int x5), (6, .int x6), (7, .int x7), (8, .int x8)]) dX7_call_67 hl (by decide) rfl (fun ls hl => ?_)
  refine lv_iload (pc := 69) S.1 S.2.1 dX7_call_69 (lv_at hl 0 rfl) ?_
  refine lv_iconst (pc := 71) S.1 S.2.1 (v := (-1)) dX7_call_71 (by decide) ?_
  refine lv_icmp_eq (pc := 72) (tgt := 85) S.1 S.2.1 dX7_call_72 (by decide) (fun c9 => ?_) (fun c9 => ?_)
  · have h := h.1 c9
    refine lv_iconst (pc := 85) S.1 S.2.1 (v := (-1)) dX7_call_85 (by decide) ?_
    exact tRi S hr hlk hP hS h dX7_call_86
  · have h := h.2 c9
    refine lv_aload_n (pc := 75) S.1 S.2.1 dX7_call_75 rfl (lv_at hl 1 rfl) ?_
    refine tp_get (pc := 76) S E.1 hP iwX7 0 (cC_tp a ca st9) rfl 6 (by decide) kw_261 (v := .ref (a 38)) rfl dX7_call_76 ?_
    refine tGi hS (tRunS (pc := 79) (As := [.ref (a 38)]) (rest := []) S E hP hS (mt_X0_canBe l dC dI a ca tb _  st9 _ h) (cw_X0_canBe ⟨Nat.le_of_ble_eq_true rfl, Nat.le_of_ble_eq_true rfl⟩) kw_266 kw_265 rfl hl.1 rfl (Nat.le_of_ble_eq_true rfl) dX7_call_79) (fun r12 st11 H locs h hP hS => ?_)
    refine lv_if_ne (pc := 82) (tgt := 87) S.1 S.2.1 dX7_call_82 (by decide) (fun c10 => ?_) (fun c10 => ?_)
    · have h := h.2 c10
      refine lv_aload_n (pc := 87) S.1 S.2.1 dX7_call_87 rfl (lv_at hl 1 rfl) ?_
      refine tp_get (pc := 88) S E.1 hP iwX7 0 (cC_tp a ca st11) rfl 3 (by decide) kw_258 (v := .ref (a 13)) rfl dX7_call_88 ?_
      refine lv_iload (pc := 91) S.1 S.2.1 dX7_call_91 (lv_at hl 0 rfl) ?_
      obtain ⟨hn11, h⟩ := h
      refine tp_aald (pc := 93) S E.1 hP 13 2 (cC_callsA a ca st11) rfl (j := r10.toNatClampNeg) (d := a (14 + r10.toNatClampNeg)) rfl rfl hn11 dX7_call_93 ?_
      have hj12 := t_lt hn11
      refine lv_aload_n (pc := 94) S.1 S.2.1 dX7_call_94 rfl (lv_at hl 1 rfl) ?_
      refine tp_get (pc := 95) S E.1 hP iwX7 0 (cC_tp a ca st11) rfl 6 (by decide) kw_261 (v := .ref (a 38)) rfl dX7_call_95 ?_
      refine tGv hS (tRunV (pc := 98) (As := [.ref (a 38)]) (rest := []) S E hP hS (mt_X0_come l dC dI a ca tb _ hj12 st11 _ h) (cw_X0_come ⟨Nat.le_of_ble_eq_true rfl, Nat.le_of_ble_eq_true rfl⟩) kw_267 kw_268 kw_269 (14 + r10.toNatClampNeg) 0 rfl rfl (cC_call a ca st11 hj12) rfl hl.1 rfl (Nat.le_of_ble_eq_true rfl) dX7_call_98) (fun st13 H locs h hP hS => ?_)
      refine lv_aload_n (pc := 101) S.1 S.2.1 dX7_call_101 rfl (lv_at hl 1 rfl) ?_
      refine lv_iconst (pc := 102) S.1 S.2.1 (v := 0) dX7_call_102 (by decide) ?_
      refine tp_put (pc := 103) S E.1 hP (cC_D E st13) hS iwX7 tyX7 tyX7_ok nmX7 0 (cC_tp a ca st13) rfl 12 (by decide) kw_240 rfl (v := .int (0 : Int32)) (tyX7_ok 12 (by decide)) (by decide +kernel) rfl (Nat.le_of_ble_eq_true rfl) (sC_tp_planned a ca st13 _) dX7_call_103 (fun st14 H locs e13 hP hS => ?_)
      have h := h st14 e13
      refine lv_iload (pc := 106) S.1 S.2.1 dX7_call_106 (lv_at hl 0 rfl) ?_
      exact tRi S hr hlk hP hS h dX7_call_108
    · have h := h.1 c10
      refine lv_iconst (pc := 85) S.1 S.2.1 (v := (-1)) dX7_call_85 (by decide) ?_
      exact tRi S hr hlk hP hS h dX7_call_86

abbrev rmX7_isCall : Room := { frames := 1, cells := 0, slots := 0, locals := 22 }
theorem cw_X7_isCall {R : Room} {own : String} {index : Nat} (h : rmX7_isCall.frames + 1 ≤ R.frames ∧ 8 + (2 + 11) + rmX7_isCall.locals ≤ R.locals) : tCw R own index yX7_isCall cX7_isCall 2 (some .boolean) rmX7_isCall 1 := ⟨kw_271, kw_6, ⟨rfl, rfl, h.1, h.2⟩, by decide +kernel, by decide +kernel, by decide +kernel⟩

set_option maxHeartbeats 4000000 in
set_option maxRecDepth 100000 in
theorem mt_X7_isCall (l : Launch) (dC : Nat → ClassId) (dI : Nat → Nat → Nat) (a : Nat → Nat) (ca : Nat → ClassId) (tb : Nat → Nat) (sz : Nat) (x1 : Int32) (st : tSt) (post : Int32 → tSt → Prop) (h : wp_T_isCall x1 st post) : Met l yX7_isCall (.code yX7_isCall cX7_isCall 2 (some .boolean) :: tWALL) rmX7_isCall (va_Pc [.ref (a 0), .int x1] (tPre 47 (cwC a ca) dC dI a ca tb sz st)) (va_Qi post (tB (cwC a ca) dC dI) (tA 47 a sz)) 0 0 (tA 47 a sz) := by
  refine tp_met (by decide) (Nat.le_of_ble_eq_true rfl) ?_
  intro p e s m below meth c ls S hr hlk hsz E hP hl
  subst hsz
  have S : CallFix p m c cX7_isCall 2 s _ (.code yX7_isCall cX7_isCall 2 (some .boolean) :: tWALL) RX7 := S
  have hl : lv_has ls 2 [(0, .ref (a 0)), (1, .int x1)] := hl
  have hS : va_S (tA 47 a s.heap.size) s.heap s.heap [] := va_S.rf
  show W p l e _ s m _ below meth c s.heap [] 0 0 (tQi (cwC a ca) 47 dC dI a ([.ref (a 0), .int x1] : List Value).toArray below s post) (F0 m 0 ls [])
  refine lv_iload_n (pc := 0) S.1 S.2.1 dX7_isCall_0 rfl (lv_at hl 1 rfl) ?_
  refine lv_iconst (pc := 1) S.1 S.2.1 (v := 0) dX7_isCall_1 (by decide) ?_
  refine lv_iconst (pc := 2) S.1 S.2.1 (v := 5) dX7_isCall_2 (by decide) ?_
  refine tGi hS (tRunS (pc := 3) (As := [.int x1, .int (0 : Int32), .int (5 : Int32)]) (rest := []) S E hP hS (mt_X7_within l dC dI a ca tb _ x1 (0 : Int32) (5 : Int32) st _ h) (cw_X7_within ⟨Nat.le_of_ble_eq_true rfl, Nat.le_of_ble_eq_true rfl⟩) kw_243 kw_8 rfl hl.1 rfl (Nat.le_of_ble_eq_true rfl) dX7_isCall_3) (fun r2 st1 H locs h hP hS => ?_)
  refine lv_if_eq (pc := 6) (tgt := 25) S.1 S.2.1 dX7_isCall_6 (by decide) (fun c1 => ?_) (fun c1 => ?_)
  · have h := h.1 c1
    refine lv_iconst (pc := 25) S.1 S.2.1 (v := 0) dX7_isCall_25 (by decide) ?_
    exact tRz S hr hlk hP hS (Or.inl rfl) h dX7_isCall_26
  · have h := h.2 c1
    refine lv_aload_n (pc := 9) S.1 S.2.1 dX7_isCall_9 rfl (lv_at hl 0 rfl) ?_
    refine tp_get (pc := 10) S E.1 hP iwX7 0 (cC_tp a ca st1) rfl 3 (by decide) kw_258 (v := .ref (a 13)) rfl dX7_isCall_10 ?_
    refine lv_iload_n (pc := 13) S.1 S.2.1 dX7_isCall_13 rfl (lv_at hl 1 rfl) ?_
    obtain ⟨hn2, h⟩ := h
    refine tp_aald (pc := 14) S E.1 hP 13 2 (cC_callsA a ca st1) rfl (j := x1.toNatClampNeg) (d := a (14 + x1.toNatClampNeg)) rfl rfl hn2 dX7_isCall_14 ?_
    have hj3 := t_lt hn2
    refine tp_getN (pc := 15) S E.2.1 E.1 hP iwX0 (14 + x1.toNatClampNeg) (cC_call a ca st1 hj3) rfl 1 (by decide) kw_259 (v := .int (st1 13 x1.toNatClampNeg)) rfl dX7_isCall_15 ?_
    refine lv_if_eq (pc := 18) (tgt := 25) S.1 S.2.1 dX7_isCall_18 (by decide) (fun c4 => ?_) (fun c4 => ?_)
    · have h := h.1 c4
      refine lv_iconst (pc := 25) S.1 S.2.1 (v := 0) dX7_isCall_25 (by decide) ?_
      exact tRz S hr hlk hP hS (Or.inl rfl) h dX7_isCall_26
    · have h := h.2 c4
      refine lv_iconst (pc := 21) S.1 S.2.1 (v := 1) dX7_isCall_21 (by decide) ?_
      refine lv_goto (pc := 22) S.1 S.2.1 (tgt := 26) dX7_isCall_22 (by decide) ?_
      exact tRz S hr hlk hP hS (Or.inr rfl) h dX7_isCall_26

abbrev rmX7_off : Room := { frames := 2, cells := 0, slots := 0, locals := 43 }
theorem cw_X7_off {R : Room} {own : String} {index : Nat} (h : rmX7_off.frames + 1 ≤ R.frames ∧ 8 + (2 + 11) + rmX7_off.locals ≤ R.locals) : tCw R own index yX7_off cX7_off 2 (some .boolean) rmX7_off 1 := ⟨kw_278, kw_6, ⟨rfl, rfl, h.1, h.2⟩, by decide +kernel, by decide +kernel, by decide +kernel⟩

set_option maxHeartbeats 4000000 in
set_option maxRecDepth 100000 in
theorem mt_X7_off (l : Launch) (dC : Nat → ClassId) (dI : Nat → Nat → Nat) (a : Nat → Nat) (ca : Nat → ClassId) (tb : Nat → Nat) (sz : Nat) (x1 : Int32) (st : tSt) (post : Int32 → tSt → Prop) (h : wp_T_off x1 st post) : Met l yX7_off (.code yX7_off cX7_off 2 (some .boolean) :: tWALL) rmX7_off (va_Pc [.ref (a 0), .int x1] (tPre 47 (cwC a ca) dC dI a ca tb sz st)) (va_Qi post (tB (cwC a ca) dC dI) (tA 47 a sz)) 0 0 (tA 47 a sz) := by
  refine tp_met (by decide) (Nat.le_of_ble_eq_true rfl) ?_
  intro p e s m below meth c ls S hr hlk hsz E hP hl
  subst hsz
  have S : CallFix p m c cX7_off 2 s _ (.code yX7_off cX7_off 2 (some .boolean) :: tWALL) RX7 := S
  have hl : lv_has ls 2 [(0, .ref (a 0)), (1, .int x1)] := hl
  have hS : va_S (tA 47 a s.heap.size) s.heap s.heap [] := va_S.rf
  show W p l e _ s m _ below meth c s.heap [] 0 0 (tQi (cwC a ca) 47 dC dI a ([.ref (a 0), .int x1] : List Value).toArray below s post) (F0 m 0 ls [])
  refine lv_aload_n (pc := 0) S.1 S.2.1 dX7_off_0 rfl (lv_at hl 0 rfl) ?_
  refine lv_iload_n (pc := 1) S.1 S.2.1 dX7_off_1 rfl (lv_at hl 1 rfl) ?_
  refine tGi hS (tRunV (pc := 2) (As := [.int x1]) (rest := []) S E hP hS (mt_X7_isCall l dC dI a ca tb _ x1 st _ h) (cw_X7_isCall ⟨Nat.le_of_ble_eq_true rfl, Nat.le_of_ble_eq_true rfl⟩) kw_272 kw_273 kw_274 0 7 rfl rfl (cC_tp a ca st) rfl hl.1 rfl (Nat.le_of_ble_eq_true rfl) dX7_off_2) (fun r2 st1 H locs h hP hS => ?_)
  refine lv_if_ne (pc := 5) (tgt := 10) S.1 S.2.1 dX7_off_5 (by decide) (fun c1 => ?_) (fun c1 => ?_)
  · have h := h.2 c1
    refine lv_aload_n (pc := 10) S.1 S.2.1 dX7_off_10 rfl (lv_at hl 0 rfl) ?_
    refine tp_get (pc := 11) S E.1 hP iwX7 0 (cC_tp a ca st1) rfl 3 (by decide) kw_258 (v := .ref (a 13)) rfl dX7_off_11 ?_
    refine lv_iload_n (pc := 14) S.1 S.2.1 dX7_off_14 rfl (lv_at hl 1 rfl) ?_
    obtain ⟨hn2, h⟩ := h
    refine tp_aald (pc := 15) S E.1 hP 13 2 (cC_callsA a ca st1) rfl (j := x1.toNatClampNeg) (d := a (14 + x1.toNatClampNeg)) rfl rfl hn2 dX7_off_15 ?_
    have hj3 := t_lt hn2
    refine tGv hS (tRunV (pc := 16) (As := []) (rest := []) S E hP hS (mt_X0_go l dC dI a ca tb _ hj3 st1 _ h) (cw_X0_go ⟨Nat.le_of_ble_eq_true rfl, Nat.le_of_ble_eq_true rfl⟩) kw_275 kw_276 kw_277 (14 + x1.toNatClampNeg) 0 rfl rfl (cC_call a ca st1 hj3) rfl hl.1 rfl (Nat.le_of_ble_eq_true rfl) dX7_off_16) (fun st3 H locs h hP hS => ?_)
    refine lv_aload_n (pc := 19) S.1 S.2.1 dX7_off_19 rfl (lv_at hl 0 rfl) ?_
    refine lv_iconst (pc := 20) S.1 S.2.1 (v := 0) dX7_off_20 (by decide) ?_
    refine tp_put (pc := 21) S E.1 hP (cC_D E st3) hS iwX7 tyX7 tyX7_ok nmX7 0 (cC_tp a ca st3) rfl 12 (by decide) kw_240 rfl (v := .int (0 : Int32)) (tyX7_ok 12 (by decide)) (by decide +kernel) rfl (Nat.le_of_ble_eq_true rfl) (sC_tp_planned a ca st3 _) dX7_off_21 (fun st4 H locs e4 hP hS => ?_)
    have h := h st4 e4
    refine lv_iconst (pc := 24) S.1 S.2.1 (v := 1) dX7_off_24 (by decide) ?_
    exact tRz S hr hlk hP hS (Or.inr rfl) h dX7_off_25
  · have h := h.1 c1
    refine lv_iconst (pc := 8) S.1 S.2.1 (v := 0) dX7_off_8 (by decide) ?_
    exact tRz S hr hlk hP hS (Or.inl rfl) h dX7_off_9

abbrev rmX7_monthOfToday : Room := { frames := 0, cells := 0, slots := 0, locals := 0 }
theorem cw_X7_monthOfToday {R : Room} {own : String} {index : Nat} (h : rmX7_monthOfToday.frames + 1 ≤ R.frames ∧ 8 + (1 + 11) + rmX7_monthOfToday.locals ≤ R.locals) : tCw R own index yX7_monthOfToday cX7_monthOfToday 1 (some .int) rmX7_monthOfToday 0 := ⟨kw_280, kw_6, ⟨rfl, rfl, h.1, h.2⟩, by decide +kernel, by decide +kernel, by decide +kernel⟩

set_option maxHeartbeats 4000000 in
set_option maxRecDepth 100000 in
theorem mt_X7_monthOfToday (l : Launch) (dC : Nat → ClassId) (dI : Nat → Nat → Nat) (a : Nat → Nat) (ca : Nat → ClassId) (tb : Nat → Nat) (sz : Nat) (st : tSt) (post : Int32 → tSt → Prop) (h : wp_T_monthOfToday  st post) : Met l yX7_monthOfToday (.code yX7_monthOfToday cX7_monthOfToday 1 (some .int) :: tWALL) rmX7_monthOfToday (va_Pc [.ref (a 0)] (tPre 47 (cwC a ca) dC dI a ca tb sz st)) (va_Qi post (tB (cwC a ca) dC dI) (tA 47 a sz)) 0 0 (tA 47 a sz) := by
  refine tp_met (by decide) (Nat.le_of_ble_eq_true rfl) ?_
  intro p e s m below meth c ls S hr hlk hsz E hP hl
  subst hsz
  have S : CallFix p m c cX7_monthOfToday 1 s _ (.code yX7_monthOfToday cX7_monthOfToday 1 (some .int) :: tWALL) RX7 := S
  have hl : lv_has ls 1 [(0, .ref (a 0))] := hl
  have hS : va_S (tA 47 a s.heap.size) s.heap s.heap [] := va_S.rf
  show W p l e _ s m _ below meth c s.heap [] 0 0 (tQi (cwC a ca) 47 dC dI a ([.ref (a 0)] : List Value).toArray below s post) (F0 m 0 ls [])
  refine lv_aload_n (pc := 0) S.1 S.2.1 dX7_monthOfToday_0 rfl (lv_at hl 0 rfl) ?_
  refine tp_get (pc := 1) S E.1 hP iwX7 0 (cC_tp a ca st) rfl 10 (by decide) kw_279 (v := .int (st 2 0)) rfl dX7_monthOfToday_1 ?_
  refine lv_bipush (pc := 4) S.1 S.2.1 (v := 30) dX7_monthOfToday_4 (by decide) ?_
  refine lv_idiv (pc := 6) S.1 S.2.1 dX7_monthOfToday_6 (by decide) ?_
  refine lv_bipush (pc := 7) S.1 S.2.1 (v := 12) dX7_monthOfToday_7 (by decide) ?_
  refine lv_irem (pc := 9) S.1 S.2.1 dX7_monthOfToday_9 (by decide) ?_
  exact tRi S hr hlk hP hS h dX7_monthOfToday_10
