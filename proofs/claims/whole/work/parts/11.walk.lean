abbrev rmX2_canPlay : Room := { frames := 1, cells := 0, slots := 0, locals := 21 }
theorem cw_X2_canPlay {R : Room} {own : String} {index : Nat} (h : rmX2_canPlay.frames + 1 ≤ R.frames ∧ 8 + (2 + 11) + rmX2_canPlay.locals ≤ R.locals) : tCw R own index yX2_canPlay cX2_canPlay 2 (some .boolean) rmX2_canPlay 1 := ⟨kw_51, kw_45, ⟨rfl, rfl, h.1, h.2⟩, by decide +kernel, by decide +kernel, by decide +kernel⟩

set_option maxHeartbeats 4000000 in
set_option maxRecDepth 100000 in
theorem mt_X2_canPlay (l : Launch) (dC : Nat → ClassId) (dI : Nat → Nat → Nat) (a : Nat → Nat) (ca : Nat → ClassId) (tb : Nat → Nat) (sz : Nat) {j : Nat} (hj : j < 6) (x1 : Int32) (st : tSt) (post : Int32 → tSt → Prop) (h : wp_Piper_canPlay j x1 st post) : Met l yX2_canPlay (.code yX2_canPlay cX2_canPlay 2 (some .boolean) :: tWALL) rmX2_canPlay (va_Pc [.ref (a (7 + j)), .int x1] (tPre 47 (cwC a ca) dC dI a ca tb sz st)) (va_Qi post (tB (cwC a ca) dC dI) (tA 47 a sz)) 0 0 (tA 47 a sz) := by
  refine tp_met (by decide) (Nat.le_of_ble_eq_true rfl) ?_
  intro p e s m below meth c ls S hr hlk hsz E hP hl
  subst hsz
  have S : CallFix p m c cX2_canPlay 2 s _ (.code yX2_canPlay cX2_canPlay 2 (some .boolean) :: tWALL) RX2 := S
  have hl : lv_has ls 2 [(0, .ref (a (7 + j))), (1, .int x1)] := hl
  have hS : va_S (tA 47 a s.heap.size) s.heap s.heap [] := va_S.rf
  show W p l e _ s m _ below meth c s.heap [] 0 0 (tQi (cwC a ca) 47 dC dI a ([.ref (a (7 + j)), .int x1] : List Value).toArray below s post) (F0 m 0 ls [])
  refine lv_aload_n (pc := 0) S.1 S.2.1 dX2_canPlay_0 rfl (lv_at hl 0 rfl) ?_
  refine tp_get (pc := 1) S E.1 hP iwX2 (7 + j) (cC_piper a ca st hj) rfl 2 (by decide) kw_48 (v := .int (st 11 j)) rfl dX2_canPlay_1 ?_
  refine lv_if_ne (pc := 4) (tgt := 22) S.1 S.2.1 dX2_canPlay_4 (by decide) (fun c1 => ?_) (fun c1 => ?_)
  · have h := h.2 c1
    refine lv_iconst (pc := 22) S.1 S.2.1 (v := 0) dX2_canPlay_22 (by decide) ?_
    exact tRz S hr hlk hP hS (Or.inl rfl) h dX2_canPlay_23
  · have h := h.1 c1
    refine lv_aload_n (pc := 7) S.1 S.2.1 dX2_canPlay_7 rfl (lv_at hl 0 rfl) ?_
    refine tp_get (pc := 8) S E.1 hP iwX2 (7 + j) (cC_piper a ca st hj) rfl 1 (by decide) kw_44 (v := .int (st 10 j)) rfl dX2_canPlay_8 ?_
    refine lv_iload_n (pc := 11) S.1 S.2.1 dX2_canPlay_11 rfl (lv_at hl 1 rfl) ?_
    refine tGi hS (tRunSN (pc := 12) (As := [.int (st 10 j), .int x1]) (rest := []) S E hP hS (mt_X7_hasBit l dC dI a ca tb _ (st 10 j) x1 st _ h) (cw_X7_hasBit ⟨Nat.le_of_ble_eq_true rfl, Nat.le_of_ble_eq_true rfl⟩) kw_50 kw_49 rfl hl.1 rfl (Nat.le_of_ble_eq_true rfl) dX2_canPlay_12) (fun r2 st1 H locs h hP hS => ?_)
    refine lv_if_eq (pc := 15) (tgt := 22) S.1 S.2.1 dX2_canPlay_15 (by decide) (fun c2 => ?_) (fun c2 => ?_)
    · have h := h.1 c2
      refine lv_iconst (pc := 22) S.1 S.2.1 (v := 0) dX2_canPlay_22 (by decide) ?_
      exact tRz S hr hlk hP hS (Or.inl rfl) h dX2_canPlay_23
    · have h := h.2 c2
      refine lv_iconst (pc := 18) S.1 S.2.1 (v := 1) dX2_canPlay_18 (by decide) ?_
      refine lv_goto (pc := 19) S.1 S.2.1 (tgt := 23) dX2_canPlay_19 (by decide) ?_
      exact tRz S hr hlk hP hS (Or.inr rfl) h dX2_canPlay_23

abbrev rmX6_learn : Room := { frames := 0, cells := 0, slots := 0, locals := 0 }
theorem cw_X6_learn {R : Room} {own : String} {index : Nat} (h : rmX6_learn.frames + 1 ≤ R.frames ∧ 8 + (3 + 11) + rmX6_learn.locals ≤ R.locals) : tCw R own index yX6_learn cX6_learn 3 none rmX6_learn 2 := ⟨kw_55, kw_54, ⟨rfl, rfl, h.1, h.2⟩, by decide +kernel, by decide +kernel, by decide +kernel⟩

set_option maxHeartbeats 4000000 in
set_option maxRecDepth 100000 in
theorem mt_X6_learn (l : Launch) (dC : Nat → ClassId) (dI : Nat → Nat → Nat) (a : Nat → Nat) (ca : Nat → ClassId) (tb : Nat → Nat) (sz : Nat) {j : Nat} (hj : j < 10) (x1 : Int32) (x2 : Int32) (st : tSt) (post : tSt → Prop) (h : wp_Tune_learn j x1 x2 st post) : Met l yX6_learn (.code yX6_learn cX6_learn 3 none :: tWALL) rmX6_learn (va_Pc [.ref (a (27 + j)), .int x1, .int x2] (tPre 47 (cwC a ca) dC dI a ca tb sz st)) (va_Qv post (tB (cwC a ca) dC dI) (tA 47 a sz)) 0 0 (tA 47 a sz) := by
  refine tp_met (by decide) (Nat.le_of_ble_eq_true rfl) ?_
  intro p e s m below meth c ls S hr hlk hsz E hP hl
  subst hsz
  have S : CallFix p m c cX6_learn 3 s _ (.code yX6_learn cX6_learn 3 none :: tWALL) RX6 := S
  have hl : lv_has ls 3 [(0, .ref (a (27 + j))), (1, .int x1), (2, .int x2)] := hl
  have hS : va_S (tA 47 a s.heap.size) s.heap s.heap [] := va_S.rf
  show W p l e _ s m _ below meth c s.heap [] 0 0 (tQv (cwC a ca) 47 dC dI a ([.ref (a (27 + j)), .int x1, .int x2] : List Value).toArray below s post) (F0 m 0 ls [])
  refine lv_aload_n (pc := 0) S.1 S.2.1 dX6_learn_0 rfl (lv_at hl 0 rfl) ?_
  refine lv_iload_n (pc := 1) S.1 S.2.1 dX6_learn_1 rfl (lv_at hl 1 rfl) ?_
  refine tp_put (pc := 2) S E.1 hP (cC_D E st) hS iwX6 tyX6 tyX6_ok nmX6 (27 + j) (cC_tune a ca st hj) rfl 0 (by decide) kw_52 rfl (v := .int x1) (tyX6_ok 0 (by decide)) rfl rfl (Nat.le_of_ble_eq_true rfl) (sC_tune_occasions a ca st hj _) dX6_learn_2 (fun st1 H locs e1 hP hS => ?_)
  have h := h st1 e1
  refine lv_aload_n (pc := 5) S.1 S.2.1 dX6_learn_5 rfl (lv_at hl 0 rfl) ?_
  refine lv_iload_n (pc := 6) S.1 S.2.1 dX6_learn_6 rfl (lv_at hl 2 rfl) ?_
  refine tp_put (pc := 7) S E.1 hP (cC_D E st1) hS iwX6 tyX6 tyX6_ok nmX6 (27 + j) (cC_tune a ca st1 hj) rfl 1 (by decide) kw_53 rfl (v := .int x2) (tyX6_ok 1 (by decide)) rfl rfl (Nat.le_of_ble_eq_true rfl) (sC_tune_months a ca st1 hj _) dX6_learn_7 (fun st2 H locs e2 hP hS => ?_)
  have h := h st2 e2
  exact tRv S hr hlk hP hS h dX6_learn_10

abbrev rmX6_fits : Room := { frames := 1, cells := 0, slots := 0, locals := 21 }
theorem cw_X6_fits {R : Room} {own : String} {index : Nat} (h : rmX6_fits.frames + 1 ≤ R.frames ∧ 8 + (3 + 11) + rmX6_fits.locals ≤ R.locals) : tCw R own index yX6_fits cX6_fits 3 (some .boolean) rmX6_fits 2 := ⟨kw_57, kw_54, ⟨rfl, rfl, h.1, h.2⟩, by decide +kernel, by decide +kernel, by decide +kernel⟩

set_option maxHeartbeats 4000000 in
set_option maxRecDepth 100000 in
theorem mt_X6_fits (l : Launch) (dC : Nat → ClassId) (dI : Nat → Nat → Nat) (a : Nat → Nat) (ca : Nat → ClassId) (tb : Nat → Nat) (sz : Nat) {j : Nat} (hj : j < 10) (x1 : Int32) (x2 : Int32) (st : tSt) (post : Int32 → tSt → Prop) (h : wp_Tune_fits j x1 x2 st post) : Met l yX6_fits (.code yX6_fits cX6_fits 3 (some .boolean) :: tWALL) rmX6_fits (va_Pc [.ref (a (27 + j)), .int x1, .int x2] (tPre 47 (cwC a ca) dC dI a ca tb sz st)) (va_Qi post (tB (cwC a ca) dC dI) (tA 47 a sz)) 0 0 (tA 47 a sz) := by
  refine tp_met (by decide) (Nat.le_of_ble_eq_true rfl) ?_
  intro p e s m below meth c ls S hr hlk hsz E hP hl
  subst hsz
  have S : CallFix p m c cX6_fits 3 s _ (.code yX6_fits cX6_fits 3 (some .boolean) :: tWALL) RX6 := S
  have hl : lv_has ls 3 [(0, .ref (a (27 + j))), (1, .int x1), (2, .int x2)] := hl
  have hS : va_S (tA 47 a s.heap.size) s.heap s.heap [] := va_S.rf
  show W p l e _ s m _ below meth c s.heap [] 0 0 (tQi (cwC a ca) 47 dC dI a ([.ref (a (27 + j)), .int x1, .int x2] : List Value).toArray below s post) (F0 m 0 ls [])
  refine lv_aload_n (pc := 0) S.1 S.2.1 dX6_fits_0 rfl (lv_at hl 0 rfl) ?_
  refine tp_get (pc := 1) S E.1 hP iwX6 (27 + j) (cC_tune a ca st hj) rfl 0 (by decide) kw_52 (v := .int (st 20 j)) rfl dX6_fits_1 ?_
  refine lv_iload_n (pc := 4) S.1 S.2.1 dX6_fits_4 rfl (lv_at hl 1 rfl) ?_
  refine tGi hS (tRunSN (pc := 5) (As := [.int (st 20 j), .int x1]) (rest := []) S E hP hS (mt_X7_hasBit l dC dI a ca tb _ (st 20 j) x1 st _ h) (cw_X7_hasBit ⟨Nat.le_of_ble_eq_true rfl, Nat.le_of_ble_eq_true rfl⟩) kw_56 kw_49 rfl hl.1 rfl (Nat.le_of_ble_eq_true rfl) dX6_fits_5) (fun r2 st1 H locs h hP hS => ?_)
  refine lv_if_eq (pc := 8) (tgt := 26) S.1 S.2.1 dX6_fits_8 (by decide) (fun c1 => ?_) (fun c1 => ?_)
  · have h := h.1 c1
    refine lv_iconst (pc := 26) S.1 S.2.1 (v := 0) dX6_fits_26 (by decide) ?_
    exact tRz S hr hlk hP hS (Or.inl rfl) h dX6_fits_27
  · have h := h.2 c1
    refine lv_aload_n (pc := 11) S.1 S.2.1 dX6_fits_11 rfl (lv_at hl 0 rfl) ?_
    refine tp_get (pc := 12) S E.1 hP iwX6 (27 + j) (cC_tune a ca st1 hj) rfl 1 (by decide) kw_53 (v := .int (st1 21 j)) rfl dX6_fits_12 ?_
    refine lv_iload_n (pc := 15) S.1 S.2.1 dX6_fits_15 rfl (lv_at hl 2 rfl) ?_
    refine tGi hS (tRunSN (pc := 16) (As := [.int (st1 21 j), .int x2]) (rest := []) S E hP hS (mt_X7_hasBit l dC dI a ca tb _ (st1 21 j) x2 st1 _ h) (cw_X7_hasBit ⟨Nat.le_of_ble_eq_true rfl, Nat.le_of_ble_eq_true rfl⟩) kw_56 kw_49 rfl hl.1 rfl (Nat.le_of_ble_eq_true rfl) dX6_fits_16) (fun r4 st3 H locs h hP hS => ?_)
    refine lv_if_eq (pc := 19) (tgt := 26) S.1 S.2.1 dX6_fits_19 (by decide) (fun c2 => ?_) (fun c2 => ?_)
    · have h := h.1 c2
      refine lv_iconst (pc := 26) S.1 S.2.1 (v := 0) dX6_fits_26 (by decide) ?_
      exact tRz S hr hlk hP hS (Or.inl rfl) h dX6_fits_27
    · have h := h.2 c2
      refine lv_iconst (pc := 22) S.1 S.2.1 (v := 1) dX6_fits_22 (by decide) ?_
      refine lv_goto (pc := 23) S.1 S.2.1 (tgt := 27) dX6_fits_23 (by decide) ?_
      exact tRz S hr hlk hP hS (Or.inr rfl) h dX6_fits_27

abbrev rmX6_dayHeard : Room := { frames := 0, cells := 0, slots := 0, locals := 0 }
theorem cw_X6_dayHeard {R : Room} {own : String} {index : Nat} (h : rmX6_dayHeard.frames + 1 ≤ R.frames ∧ 8 + (1 + 11) + rmX6_dayHeard.locals ≤ R.locals) : tCw R own index yX6_dayHeard cX6_dayHeard 1 (some .int) rmX6_dayHeard 0 := ⟨kw_59, kw_54, ⟨rfl, rfl, h.1, h.2⟩, by decide +kernel, by decide +kernel, by decide +kernel⟩

set_option maxHeartbeats 4000000 in
set_option maxRecDepth 100000 in
theorem mt_X6_dayHeard (l : Launch) (dC : Nat → ClassId) (dI : Nat → Nat → Nat) (a : Nat → Nat) (ca : Nat → ClassId) (tb : Nat → Nat) (sz : Nat) {j : Nat} (hj : j < 10) (st : tSt) (post : Int32 → tSt → Prop) (h : wp_Tune_dayHeard j  st post) : Met l yX6_dayHeard (.code yX6_dayHeard cX6_dayHeard 1 (some .int) :: tWALL) rmX6_dayHeard (va_Pc [.ref (a (27 + j))] (tPre 47 (cwC a ca) dC dI a ca tb sz st)) (va_Qi post (tB (cwC a ca) dC dI) (tA 47 a sz)) 0 0 (tA 47 a sz) := by
  refine tp_met (by decide) (Nat.le_of_ble_eq_true rfl) ?_
  intro p e s m below meth c ls S hr hlk hsz E hP hl
  subst hsz
  have S : CallFix p m c cX6_dayHeard 1 s _ (.code yX6_dayHeard cX6_dayHeard 1 (some .int) :: tWALL) RX6 := S
  have hl : lv_has ls 1 [(0, .ref (a (27 + j)))] := hl
  have hS : va_S (tA 47 a s.heap.size) s.heap s.heap [] := va_S.rf
  show W p l e _ s m _ below meth c s.heap [] 0 0 (tQi (cwC a ca) 47 dC dI a ([.ref (a (27 + j))] : List Value).toArray below s post) (F0 m 0 ls [])
  refine lv_aload_n (pc := 0) S.1 S.2.1 dX6_dayHeard_0 rfl (lv_at hl 0 rfl) ?_
  refine tp_get (pc := 1) S E.1 hP iwX6 (27 + j) (cC_tune a ca st hj) rfl 2 (by decide) kw_58 (v := .int (st 22 j)) rfl dX6_dayHeard_1 ?_
  refine lv_iconst (pc := 4) S.1 S.2.1 (v := (-1)) dX6_dayHeard_4 (by decide) ?_
  refine lv_icmp_ne (pc := 5) (tgt := 12) S.1 S.2.1 dX6_dayHeard_5 (by decide) (fun c1 => ?_) (fun c1 => ?_)
  · have h := h.2 c1
    refine lv_aload_n (pc := 12) S.1 S.2.1 dX6_dayHeard_12 rfl (lv_at hl 0 rfl) ?_
    refine tp_get (pc := 13) S E.1 hP iwX6 (27 + j) (cC_tune a ca st hj) rfl 2 (by decide) kw_58 (v := .int (st 22 j)) rfl dX6_dayHeard_13 ?_
    refine lv_bipush (pc := 16) S.1 S.2.1 (v := 6) dX6_dayHeard_16 (by decide) ?_
    refine lv_idiv (pc := 18) S.1 S.2.1 dX6_dayHeard_18 (by decide) ?_
    exact tRi S hr hlk hP hS h dX6_dayHeard_19
  · have h := h.1 c1
    refine lv_iconst (pc := 8) S.1 S.2.1 (v := (-1)) dX6_dayHeard_8 (by decide) ?_
    refine lv_goto (pc := 9) S.1 S.2.1 (tgt := 19) dX6_dayHeard_9 (by decide) ?_
    exact tRi S hr hlk hP hS h dX6_dayHeard_19

abbrev rmX0_canBe : Room := { frames := 1, cells := 0, slots := 0, locals := 22 }
theorem cw_X0_canBe {R : Room} {own : String} {index : Nat} (h : rmX0_canBe.frames + 1 ≤ R.frames ∧ 8 + (2 + 11) + rmX0_canBe.locals ≤ R.locals) : tCw R own index yX0_canBe cX0_canBe 2 (some .boolean) rmX0_canBe 1 := ⟨kw_64, kw_63, ⟨rfl, rfl, h.1, h.2⟩, by decide +kernel, by decide +kernel, by decide +kernel⟩
set_option maxHeartbeats 4000000 in
set_option maxRecDepth 100000 in
theorem wk_X0_canBe_35 {p : Program} {l : Launch} {e : Env} {s : State} {m : MethodId} {args : Array Value} {below : List Frame} {meth : Method} {c : Code} {dC : Nat → ClassId} {dI : Nat → Nat → Nat} {a : Nat → Nat} {ca : Nat → ClassId} {tb : Nat → Nat} {w0 : Cond} (S : CallFix p m c cX0_canBe 2 s args (w0 :: tWALL) RX0) (hr : meth.sig.returnType = (some .boolean)) (hlk : meth.locks = false) (E : tEnv 47 dC dI a ca tb s) (post : Int32 → tSt → Prop) : ∀  (st : tSt), wp_Call_canBe_35 post  st → tAt p l e rmX0_canBe s m args below meth c (dC, dI) (cwC a ca) (tA 47 a s.heap.size) (tQi (cwC a ca) 47 dC dI a args below s post) 2 35 [(0, .ref (a 38))] [] st := by
  intro  st h H locs ls hP hS hl
  refine lv_aload_n (pc := 35) S.1 S.2.1 dX0_canBe_35 rfl (lv_at hl 0 rfl) ?_
  refine lv_iconst (pc := 36) S.1 S.2.1 (v := 1) dX0_canBe_36 (by decide) ?_
  refine tp_iald (pc := 37) S E.1 hP 38 0 (cC_asked a ca st) rfl (j := 1) (by decide +kernel) (by decide +kernel : ¬ ((1 : Int32) < 0 ∨ 8 ≤ (1 : Int32).toNatClampNeg)) dX0_canBe_37 ?_
  refine lv_aload_n (pc := 38) S.1 S.2.1 dX0_canBe_38 rfl (lv_at hl 0 rfl) ?_
  refine lv_iconst (pc := 39) S.1 S.2.1 (v := 2) dX0_canBe_39 (by decide) ?_
  refine tp_iald (pc := 40) S E.1 hP 38 0 (cC_asked a ca st) rfl (j := 2) (by decide +kernel) (by decide +kernel : ¬ ((2 : Int32) < 0 ∨ 8 ≤ (2 : Int32).toNatClampNeg)) dX0_canBe_40 ?_
  refine lv_iadd (pc := 41) S.1 S.2.1 dX0_canBe_41 ?_
  refine lv_bipush (pc := 42) S.1 S.2.1 (v := 96) dX0_canBe_42 (by decide) ?_
  refine lv_icmp_gt (pc := 44) (tgt := 51) S.1 S.2.1 dX0_canBe_44 (by decide) (fun c1 => ?_) (fun c1 => ?_)
  · have h := h.1 c1
    refine lv_iconst (pc := 51) S.1 S.2.1 (v := 0) dX0_canBe_51 (by decide) ?_
    exact tRz S hr hlk hP hS (Or.inl rfl) h dX0_canBe_52
  · have h := h.2 c1
    refine lv_iconst (pc := 47) S.1 S.2.1 (v := 1) dX0_canBe_47 (by decide) ?_
    refine lv_goto (pc := 48) S.1 S.2.1 (tgt := 52) dX0_canBe_48 (by decide) ?_
    exact tRz S hr hlk hP hS (Or.inr rfl) h dX0_canBe_52
set_option maxHeartbeats 4000000 in
set_option maxRecDepth 100000 in
theorem wk_X0_canBe_2 {p : Program} {l : Launch} {e : Env} {s : State} {m : MethodId} {args : Array Value} {below : List Frame} {meth : Method} {c : Code} {dC : Nat → ClassId} {dI : Nat → Nat → Nat} {a : Nat → Nat} {ca : Nat → ClassId} {tb : Nat → Nat} {w0 : Cond} (S : CallFix p m c cX0_canBe 2 s args (w0 :: tWALL) RX0) (hr : meth.sig.returnType = (some .boolean)) (hlk : meth.locks = false) (E : tEnv 47 dC dI a ca tb s) (post : Int32 → tSt → Prop) (k35 : tSt → Prop) (hk35 : ∀  (st : tSt), k35  st → tAt p l e rmX0_canBe s m args below meth c (dC, dI) (cwC a ca) (tA 47 a s.heap.size) (tQi (cwC a ca) 47 dC dI a args below s post) 2 35 [(0, .ref (a 38))] [] st) : ∀ (n : Nat) (x1 : Int32) (st : tSt), wp_Call_canBe_2 post k35 n x1 st → tAt p l e rmX0_canBe s m args below meth c (dC, dI) (cwC a ca) (tA 47 a s.heap.size) (tQi (cwC a ca) 47 dC dI a args below s post) 2 2 [(0, .ref (a 38)), (1, .int x1)] [] st := by
  intro n
  induction n with
  | zero => intro x1 st h; exact absurd h id
  | succ n ih =>
    intro x1 st h H locs ls hP hS hl
    refine lv_iload_n (pc := 2) S.1 S.2.1 dX0_canBe_2 rfl (lv_at hl 1 rfl) ?_
    refine lv_bipush (pc := 3) S.1 S.2.1 (v := 8) dX0_canBe_3 (by decide) ?_
    refine lv_icmp_ge (pc := 5) (tgt := 35) S.1 S.2.1 dX0_canBe_5 (by decide) (fun c1 => ?_) (fun c1 => ?_)
    · have h := h.1 c1
      exact hk35  st h _ _ _ hP hS (lv_sub hl [0] rfl)
    · have h := h.2 c1
      refine lv_aload_n (pc := 8) S.1 S.2.1 dX0_canBe_8 rfl (lv_at hl 0 rfl) ?_
      refine lv_iload_n (pc := 9) S.1 S.2.1 dX0_canBe_9 rfl (lv_at hl 1 rfl) ?_
      obtain ⟨hn2, h⟩ := h
      refine tp_iald (pc := 10) S E.1 hP 38 0 (cC_asked a ca st) rfl (j := x1.toNatClampNeg) rfl hn2 dX0_canBe_10 ?_
      refine va_gets (pc := 11) S.1 S.2.1 (E.2.2.1.2.2.2.1).1 hS S.2.2.2.1 (S.2.2.2.2 _ (List.mem_cons_of_mem _ kw_60)) (fun _ h => h) dX0_canBe_11 ?_
      refine lv_iload_n (pc := 14) S.1 S.2.1 dX0_canBe_14 rfl (lv_at hl 1 rfl) ?_
      obtain ⟨hn3, h⟩ := h
      refine va_ti (pc := 15) S.1 S.2.1 (E.2.2.1.2.2.2.1).2 hS hn3 (v := .int (tab_LEAST x1.toNatClampNeg)) rfl dX0_canBe_15 ?_
      refine va_gets (pc := 16) S.1 S.2.1 (E.2.2.1.2.2.2.2).1 hS S.2.2.2.1 (S.2.2.2.2 _ (List.mem_cons_of_mem _ kw_61)) (fun _ h => h) dX0_canBe_16 ?_
      refine lv_iload_n (pc := 19) S.1 S.2.1 dX0_canBe_19 rfl (lv_at hl 1 rfl) ?_
      obtain ⟨hn4, h⟩ := h
      refine va_ti (pc := 20) S.1 S.2.1 (E.2.2.1.2.2.2.2).2 hS hn4 (v := .int (tab_MOST x1.toNatClampNeg)) rfl dX0_canBe_20 ?_
      refine tGi hS (tRunSN (pc := 21) (As := [.int (st 24 x1.toNatClampNeg), .int (tab_LEAST x1.toNatClampNeg), .int (tab_MOST x1.toNatClampNeg)]) (rest := []) S E hP hS (mt_X7_within l dC dI a ca tb _ (st 24 x1.toNatClampNeg) (tab_LEAST x1.toNatClampNeg) (tab_MOST x1.toNatClampNeg) st _ h) (cw_X7_within ⟨Nat.le_of_ble_eq_true rfl, Nat.le_of_ble_eq_true rfl⟩) kw_62 kw_8 rfl hl.1 rfl (Nat.le_of_ble_eq_true rfl) dX0_canBe_21) (fun r2 st1 H locs h hP hS => ?_)
      refine lv_if_ne (pc := 24) (tgt := 29) S.1 S.2.1 dX0_canBe_24 (by decide) (fun c5 => ?_) (fun c5 => ?_)
      · have h := h.2 c5
        obtain ⟨y1_3, e6⟩ : ∃ y : Int32, y = x1 + 1 := ⟨_, rfl⟩
        have h := h y1_3 e6
        refine lv_iinc (pc := 29) S.1 S.2.1 (v := y1_3) (lv' := [(1, .int y1_3), (0, .ref (a 38))]) dX0_canBe_29 hl (k := 1) rfl (by rw [e6]; rfl) (by decide) rfl (fun ls hl => ?_)
        refine lv_goto (pc := 32) S.1 S.2.1 (tgt := 2) dX0_canBe_32 (by decide) ?_
        exact ih y1_3 st1 h _ _ _ hP hS (lv_sub hl [1, 0] rfl)
      · have h := h.1 c5
        refine lv_iconst (pc := 27) S.1 S.2.1 (v := 0) dX0_canBe_27 (by decide) ?_
        exact tRz S hr hlk hP hS (Or.inl rfl) h dX0_canBe_28
set_option maxHeartbeats 4000000 in
set_option maxRecDepth 100000 in
theorem mt_X0_canBe (l : Launch) (dC : Nat → ClassId) (dI : Nat → Nat → Nat) (a : Nat → Nat) (ca : Nat → ClassId) (tb : Nat → Nat) (sz : Nat) (st : tSt) (post : Int32 → tSt → Prop) (h : wp_Call_canBe  st post) : Met l yX0_canBe (.code yX0_canBe cX0_canBe 2 (some .boolean) :: tWALL) rmX0_canBe (va_Pc [.ref (a 38)] (tPre 47 (cwC a ca) dC dI a ca tb sz st)) (va_Qi post (tB (cwC a ca) dC dI) (tA 47 a sz)) 0 0 (tA 47 a sz) := by
  refine tp_met (by decide) (Nat.le_of_ble_eq_true rfl) ?_
  intro p e s m below meth c ls S hr hlk hsz E hP hl
  subst hsz
  have S : CallFix p m c cX0_canBe 2 s _ (.code yX0_canBe cX0_canBe 2 (some .boolean) :: tWALL) RX0 := S
  have hl : lv_has ls 2 [(0, .ref (a 38))] := hl
  have hS : va_S (tA 47 a s.heap.size) s.heap s.heap [] := va_S.rf
  show W p l e _ s m _ below meth c s.heap [] 0 0 (tQi (cwC a ca) 47 dC dI a ([.ref (a 38)] : List Value).toArray below s post) (F0 m 0 ls [])
  refine lv_iconst (pc := 0) S.1 S.2.1 (v := 0) dX0_canBe_0 (by decide) ?_
  refine lv_istore_n (pc := 1) S.1 S.2.1 (lv' := [(1, .int (0 : Int32)), (0, .ref (a 38))]) dX0_canBe_1 rfl hl (by decide) rfl (fun ls hl => ?_)
  exact (fun x1 st h => Exists.elim h (fun q h => wk_X0_canBe_2 S hr hlk E post (wp_Call_canBe_35 post) (fun  st h => wk_X0_canBe_35 S hr hlk E post   st h) q x1 st h)) (0 : Int32) st h _ _ _ hP hS (lv_sub hl [1, 0] rfl)

abbrev rmX0_come : Room := { frames := 1, cells := 0, slots := 0, locals := 64 }
theorem cw_X0_come {R : Room} {own : String} {index : Nat} (h : rmX0_come.frames + 1 ≤ R.frames ∧ 8 + (2 + 11) + rmX0_come.locals ≤ R.locals) : tCw R own index yX0_come cX0_come 2 none rmX0_come 1 := ⟨kw_68, kw_63, ⟨rfl, rfl, h.1, h.2⟩, by decide +kernel, by decide +kernel, by decide +kernel⟩

set_option maxHeartbeats 4000000 in
set_option maxRecDepth 100000 in
theorem mt_X0_come (l : Launch) (dC : Nat → ClassId) (dI : Nat → Nat → Nat) (a : Nat → Nat) (ca : Nat → ClassId) (tb : Nat → Nat) (sz : Nat) {j : Nat} (hj : j < 6) (st : tSt) (post : tSt → Prop) (h : wp_Call_come j  st post) : Met l yX0_come (.code yX0_come cX0_come 2 none :: tWALL) rmX0_come (va_Pc [.ref (a (14 + j)), .ref (a 38)] (tPre 47 (cwC a ca) dC dI a ca tb sz st)) (va_Qv post (tB (cwC a ca) dC dI) (tA 47 a sz)) 0 0 (tA 47 a sz) := by
  refine tp_met (by decide) (Nat.le_of_ble_eq_true rfl) ?_
  intro p e s m below meth c ls S hr hlk hsz E hP hl
  subst hsz
  have S : CallFix p m c cX0_come 2 s _ (.code yX0_come cX0_come 2 none :: tWALL) RX0 := S
  have hl : lv_has ls 2 [(0, .ref (a (14 + j))), (1, .ref (a 38))] := hl
  have hS : va_S (tA 47 a s.heap.size) s.heap s.heap [] := va_S.rf
  show W p l e _ s m _ below meth c s.heap [] 0 0 (tQv (cwC a ca) 47 dC dI a ([.ref (a (14 + j)), .ref (a 38)] : List Value).toArray below s post) (F0 m 0 ls [])
  refine lv_aload_n (pc := 0) S.1 S.2.1 dX0_come_0 rfl (lv_at hl 1 rfl) ?_
  refine lv_iconst (pc := 1) S.1 S.2.1 (v := 0) dX0_come_1 (by decide) ?_
  refine lv_aload_n (pc := 2) S.1 S.2.1 dX0_come_2 rfl (lv_at hl 0 rfl) ?_
  refine tp_get (pc := 3) S E.1 hP iwX0 (14 + j) (cC_call a ca st hj) rfl 0 (by decide) kw_65 (v := .ref (a (20 + j))) rfl dX0_come_3 ?_
  refine lv_iconst (pc := 6) S.1 S.2.1 (v := 0) dX0_come_6 (by decide) ?_
  refine lv_bipush (pc := 7) S.1 S.2.1 (v := 8) dX0_come_7 (by decide) ?_
  refine tp_copyi (pc := 9) S E.1 hP (cC_D E st) hS hl.1 (S.2.2.2.2 _ (List.mem_cons_of_mem _ kw_66)) (S.2.2.2.2 _ (List.mem_cons_of_mem _ kw_31)) (S.2.2.2.2 _ (List.mem_cons_of_mem _ kw_32)) (S.2.2.2.2 _ (List.mem_cons_of_mem _ kw_33)) 38 (20 + j) (cC_asked a ca st) (cC_facts a ca st hj) (by decide) (by decide) (by decide) (by decide +kernel) (by decide +kernel) (Nat.le_of_ble_eq_true rfl) (Nat.le_of_ble_eq_true rfl) (rC_facts a ca st hj _) dX0_come_9 (fun st1 H locs e1 hP hS => ?_)
  have h := h st1 e1
  refine lv_aload_n (pc := 12) S.1 S.2.1 dX0_come_12 rfl (lv_at hl 0 rfl) ?_
  refine lv_iconst (pc := 13) S.1 S.2.1 (v := 1) dX0_come_13 (by decide) ?_
  refine tp_put (pc := 14) S E.1 hP (cC_D E st1) hS iwX0 tyX0 tyX0_ok nmX0 (14 + j) (cC_call a ca st1 hj) rfl 1 (by decide) kw_67 rfl (v := .int (1 : Int32)) (tyX0_ok 1 (by decide)) (by decide +kernel) rfl (Nat.le_of_ble_eq_true rfl) (sC_call_there a ca st1 hj _) dX0_come_14 (fun st2 H locs e2 hP hS => ?_)
  have h := h st2 e2
  exact tRv S hr hlk hP hS h dX0_come_17

abbrev rmX0_go : Room := { frames := 0, cells := 0, slots := 0, locals := 0 }
theorem cw_X0_go {R : Room} {own : String} {index : Nat} (h : rmX0_go.frames + 1 ≤ R.frames ∧ 8 + (1 + 11) + rmX0_go.locals ≤ R.locals) : tCw R own index yX0_go cX0_go 1 none rmX0_go 0 := ⟨kw_69, kw_63, ⟨rfl, rfl, h.1, h.2⟩, by decide +kernel, by decide +kernel, by decide +kernel⟩

set_option maxHeartbeats 4000000 in
set_option maxRecDepth 100000 in
theorem mt_X0_go (l : Launch) (dC : Nat → ClassId) (dI : Nat → Nat → Nat) (a : Nat → Nat) (ca : Nat → ClassId) (tb : Nat → Nat) (sz : Nat) {j : Nat} (hj : j < 6) (st : tSt) (post : tSt → Prop) (h : wp_Call_go j  st post) : Met l yX0_go (.code yX0_go cX0_go 1 none :: tWALL) rmX0_go (va_Pc [.ref (a (14 + j))] (tPre 47 (cwC a ca) dC dI a ca tb sz st)) (va_Qv post (tB (cwC a ca) dC dI) (tA 47 a sz)) 0 0 (tA 47 a sz) := by
  refine tp_met (by decide) (Nat.le_of_ble_eq_true rfl) ?_
  intro p e s m below meth c ls S hr hlk hsz E hP hl
  subst hsz
  have S : CallFix p m c cX0_go 1 s _ (.code yX0_go cX0_go 1 none :: tWALL) RX0 := S
  have hl : lv_has ls 1 [(0, .ref (a (14 + j)))] := hl
  have hS : va_S (tA 47 a s.heap.size) s.heap s.heap [] := va_S.rf
  show W p l e _ s m _ below meth c s.heap [] 0 0 (tQv (cwC a ca) 47 dC dI a ([.ref (a (14 + j))] : List Value).toArray below s post) (F0 m 0 ls [])
  refine lv_aload_n (pc := 0) S.1 S.2.1 dX0_go_0 rfl (lv_at hl 0 rfl) ?_
  refine lv_iconst (pc := 1) S.1 S.2.1 (v := 0) dX0_go_1 (by decide) ?_
  refine tp_put (pc := 2) S E.1 hP (cC_D E st) hS iwX0 tyX0 tyX0_ok nmX0 (14 + j) (cC_call a ca st hj) rfl 1 (by decide) kw_67 rfl (v := .int (0 : Int32)) (tyX0_ok 1 (by decide)) (by decide +kernel) rfl (Nat.le_of_ble_eq_true rfl) (sC_call_there a ca st hj _) dX0_go_2 (fun st1 H locs e1 hP hS => ?_)
  have h := h st1 e1
  exact tRv S hr hlk hP hS h dX0_go_5

abbrev rmX0_fact : Room := { frames := 1, cells := 0, slots := 0, locals := 22 }
theorem cw_X0_fact {R : Room} {own : String} {index : Nat} (h : rmX0_fact.frames + 1 ≤ R.frames ∧ 8 + (2 + 11) + rmX0_fact.locals ≤ R.locals) : tCw R own index yX0_fact cX0_fact 2 (some .int) rmX0_fact 1 := ⟨kw_70, kw_63, ⟨rfl, rfl, h.1, h.2⟩, by decide +kernel, by decide +kernel, by decide +kernel⟩

set_option maxHeartbeats 4000000 in
set_option maxRecDepth 100000 in
theorem mt_X0_fact (l : Launch) (dC : Nat → ClassId) (dI : Nat → Nat → Nat) (a : Nat → Nat) (ca : Nat → ClassId) (tb : Nat → Nat) (sz : Nat) {j : Nat} (hj : j < 6) (x1 : Int32) (st : tSt) (post : Int32 → tSt → Prop) (h : wp_Call_fact j x1 st post) : Met l yX0_fact (.code yX0_fact cX0_fact 2 (some .int) :: tWALL) rmX0_fact (va_Pc [.ref (a (14 + j)), .int x1] (tPre 47 (cwC a ca) dC dI a ca tb sz st)) (va_Qi post (tB (cwC a ca) dC dI) (tA 47 a sz)) 0 0 (tA 47 a sz) := by
  refine tp_met (by decide) (Nat.le_of_ble_eq_true rfl) ?_
  intro p e s m below meth c ls S hr hlk hsz E hP hl
  subst hsz
  have S : CallFix p m c cX0_fact 2 s _ (.code yX0_fact cX0_fact 2 (some .int) :: tWALL) RX0 := S
  have hl : lv_has ls 2 [(0, .ref (a (14 + j))), (1, .int x1)] := hl
  have hS : va_S (tA 47 a s.heap.size) s.heap s.heap [] := va_S.rf
  show W p l e _ s m _ below meth c s.heap [] 0 0 (tQi (cwC a ca) 47 dC dI a ([.ref (a (14 + j)), .int x1] : List Value).toArray below s post) (F0 m 0 ls [])
  refine lv_iload_n (pc := 0) S.1 S.2.1 dX0_fact_0 rfl (lv_at hl 1 rfl) ?_
  refine lv_iconst (pc := 1) S.1 S.2.1 (v := 0) dX0_fact_1 (by decide) ?_
  refine lv_bipush (pc := 2) S.1 S.2.1 (v := 7) dX0_fact_2 (by decide) ?_
  refine tGi hS (tRunSN (pc := 4) (As := [.int x1, .int (0 : Int32), .int (7 : Int32)]) (rest := []) S E hP hS (mt_X7_within l dC dI a ca tb _ x1 (0 : Int32) (7 : Int32) st _ h) (cw_X7_within ⟨Nat.le_of_ble_eq_true rfl, Nat.le_of_ble_eq_true rfl⟩) kw_62 kw_8 rfl hl.1 rfl (Nat.le_of_ble_eq_true rfl) dX0_fact_4) (fun r2 st1 H locs h hP hS => ?_)
  refine lv_if_eq (pc := 7) (tgt := 19) S.1 S.2.1 dX0_fact_7 (by decide) (fun c1 => ?_) (fun c1 => ?_)
  · have h := h.1 c1
    refine lv_iconst (pc := 19) S.1 S.2.1 (v := (-1)) dX0_fact_19 (by decide) ?_
    exact tRi S hr hlk hP hS h dX0_fact_20
  · have h := h.2 c1
    refine lv_aload_n (pc := 10) S.1 S.2.1 dX0_fact_10 rfl (lv_at hl 0 rfl) ?_
    refine tp_get (pc := 11) S E.1 hP iwX0 (14 + j) (cC_call a ca st1 hj) rfl 0 (by decide) kw_65 (v := .ref (a (20 + j))) rfl dX0_fact_11 ?_
    refine lv_iload_n (pc := 14) S.1 S.2.1 dX0_fact_14 rfl (lv_at hl 1 rfl) ?_
    obtain ⟨hn2, h⟩ := h
    refine tp_iald (pc := 15) S E.1 hP (20 + j) 0 (cC_facts a ca st1 hj) rfl (j := x1.toNatClampNeg) rfl hn2 dX0_fact_15 ?_
    refine lv_goto (pc := 16) S.1 S.2.1 (tgt := 20) dX0_fact_16 (by decide) ?_
    exact tRi S hr hlk hP hS h dX0_fact_20

abbrev rmX0_isOfOrder : Room := { frames := 0, cells := 0, slots := 0, locals := 0 }
theorem cw_X0_isOfOrder {R : Room} {own : String} {index : Nat} (h : rmX0_isOfOrder.frames + 1 ≤ R.frames ∧ 8 + (2 + 11) + rmX0_isOfOrder.locals ≤ R.locals) : tCw R own index yX0_isOfOrder cX0_isOfOrder 2 (some .boolean) rmX0_isOfOrder 1 := ⟨kw_71, kw_63, ⟨rfl, rfl, h.1, h.2⟩, by decide +kernel, by decide +kernel, by decide +kernel⟩

set_option maxHeartbeats 4000000 in
set_option maxRecDepth 100000 in
theorem mt_X0_isOfOrder (l : Launch) (dC : Nat → ClassId) (dI : Nat → Nat → Nat) (a : Nat → Nat) (ca : Nat → ClassId) (tb : Nat → Nat) (sz : Nat) {j : Nat} (hj : j < 6) (x1 : Int32) (st : tSt) (post : Int32 → tSt → Prop) (h : wp_Call_isOfOrder j x1 st post) : Met l yX0_isOfOrder (.code yX0_isOfOrder cX0_isOfOrder 2 (some .boolean) :: tWALL) rmX0_isOfOrder (va_Pc [.ref (a (14 + j)), .int x1] (tPre 47 (cwC a ca) dC dI a ca tb sz st)) (va_Qi post (tB (cwC a ca) dC dI) (tA 47 a sz)) 0 0 (tA 47 a sz) := by
  refine tp_met (by decide) (Nat.le_of_ble_eq_true rfl) ?_
  intro p e s m below meth c ls S hr hlk hsz E hP hl
  subst hsz
  have S : CallFix p m c cX0_isOfOrder 2 s _ (.code yX0_isOfOrder cX0_isOfOrder 2 (some .boolean) :: tWALL) RX0 := S
  have hl : lv_has ls 2 [(0, .ref (a (14 + j))), (1, .int x1)] := hl
  have hS : va_S (tA 47 a s.heap.size) s.heap s.heap [] := va_S.rf
  show W p l e _ s m _ below meth c s.heap [] 0 0 (tQi (cwC a ca) 47 dC dI a ([.ref (a (14 + j)), .int x1] : List Value).toArray below s post) (F0 m 0 ls [])
  refine lv_aload_n (pc := 0) S.1 S.2.1 dX0_isOfOrder_0 rfl (lv_at hl 0 rfl) ?_
  refine tp_get (pc := 1) S E.1 hP iwX0 (14 + j) (cC_call a ca st hj) rfl 1 (by decide) kw_67 (v := .int (st 13 j)) rfl dX0_isOfOrder_1 ?_
  refine lv_if_eq (pc := 4) (tgt := 21) S.1 S.2.1 dX0_isOfOrder_4 (by decide) (fun c1 => ?_) (fun c1 => ?_)
  · have h := h.1 c1
    refine lv_iconst (pc := 21) S.1 S.2.1 (v := 0) dX0_isOfOrder_21 (by decide) ?_
    exact tRz S hr hlk hP hS (Or.inl rfl) h dX0_isOfOrder_22
  · have h := h.2 c1
    refine lv_aload_n (pc := 7) S.1 S.2.1 dX0_isOfOrder_7 rfl (lv_at hl 0 rfl) ?_
    refine tp_get (pc := 8) S E.1 hP iwX0 (14 + j) (cC_call a ca st hj) rfl 0 (by decide) kw_65 (v := .ref (a (20 + j))) rfl dX0_isOfOrder_8 ?_
    refine lv_iconst (pc := 11) S.1 S.2.1 (v := 0) dX0_isOfOrder_11 (by decide) ?_
    refine tp_iald (pc := 12) S E.1 hP (20 + j) 0 (cC_facts a ca st hj) rfl (j := 0) (by decide +kernel) (by decide +kernel : ¬ ((0 : Int32) < 0 ∨ 8 ≤ (0 : Int32).toNatClampNeg)) dX0_isOfOrder_12 ?_
    refine lv_iload_n (pc := 13) S.1 S.2.1 dX0_isOfOrder_13 rfl (lv_at hl 1 rfl) ?_
    refine lv_icmp_ne (pc := 14) (tgt := 21) S.1 S.2.1 dX0_isOfOrder_14 (by decide) (fun c2 => ?_) (fun c2 => ?_)
    · have h := h.2 c2
      refine lv_iconst (pc := 21) S.1 S.2.1 (v := 0) dX0_isOfOrder_21 (by decide) ?_
      exact tRz S hr hlk hP hS (Or.inl rfl) h dX0_isOfOrder_22
    · have h := h.1 c2
      refine lv_iconst (pc := 17) S.1 S.2.1 (v := 1) dX0_isOfOrder_17 (by decide) ?_
      refine lv_goto (pc := 18) S.1 S.2.1 (tgt := 22) dX0_isOfOrder_18 (by decide) ?_
      exact tRz S hr hlk hP hS (Or.inr rfl) h dX0_isOfOrder_22

abbrev rmX0_end : Room := { frames := 0, cells := 0, slots := 0, locals := 0 }
theorem cw_X0_end {R : Room} {own : String} {index : Nat} (h : rmX0_end.frames + 1 ≤ R.frames ∧ 8 + (1 + 11) + rmX0_end.locals ≤ R.locals) : tCw R own index yX0_end cX0_end 1 (some .int) rmX0_end 0 := ⟨kw_72, kw_63, ⟨rfl, rfl, h.1, h.2⟩, by decide +kernel, by decide +kernel, by decide +kernel⟩

set_option maxHeartbeats 4000000 in
set_option maxRecDepth 100000 in
theorem mt_X0_end (l : Launch) (dC : Nat → ClassId) (dI : Nat → Nat → Nat) (a : Nat → Nat) (ca : Nat → ClassId) (tb : Nat → Nat) (sz : Nat) {j : Nat} (hj : j < 6) (st : tSt) (post : Int32 → tSt → Prop) (h : wp_Call_end j  st post) : Met l yX0_end (.code yX0_end cX0_end 1 (some .int) :: tWALL) rmX0_end (va_Pc [.ref (a (14 + j))] (tPre 47 (cwC a ca) dC dI a ca tb sz st)) (va_Qi post (tB (cwC a ca) dC dI) (tA 47 a sz)) 0 0 (tA 47 a sz) := by
  refine tp_met (by decide) (Nat.le_of_ble_eq_true rfl) ?_
  intro p e s m below meth c ls S hr hlk hsz E hP hl
  subst hsz
  have S : CallFix p m c cX0_end 1 s _ (.code yX0_end cX0_end 1 (some .int) :: tWALL) RX0 := S
  have hl : lv_has ls 1 [(0, .ref (a (14 + j)))] := hl
  have hS : va_S (tA 47 a s.heap.size) s.heap s.heap [] := va_S.rf
  show W p l e _ s m _ below meth c s.heap [] 0 0 (tQi (cwC a ca) 47 dC dI a ([.ref (a (14 + j))] : List Value).toArray below s post) (F0 m 0 ls [])
  refine lv_aload_n (pc := 0) S.1 S.2.1 dX0_end_0 rfl (lv_at hl 0 rfl) ?_
  refine tp_get (pc := 1) S E.1 hP iwX0 (14 + j) (cC_call a ca st hj) rfl 0 (by decide) kw_65 (v := .ref (a (20 + j))) rfl dX0_end_1 ?_
  refine lv_iconst (pc := 4) S.1 S.2.1 (v := 1) dX0_end_4 (by decide) ?_
  refine tp_iald (pc := 5) S E.1 hP (20 + j) 0 (cC_facts a ca st hj) rfl (j := 1) (by decide +kernel) (by decide +kernel : ¬ ((1 : Int32) < 0 ∨ 8 ≤ (1 : Int32).toNatClampNeg)) dX0_end_5 ?_
  refine lv_aload_n (pc := 6) S.1 S.2.1 dX0_end_6 rfl (lv_at hl 0 rfl) ?_
  refine tp_get (pc := 7) S E.1 hP iwX0 (14 + j) (cC_call a ca st hj) rfl 0 (by decide) kw_65 (v := .ref (a (20 + j))) rfl dX0_end_7 ?_
  refine lv_iconst (pc := 10) S.1 S.2.1 (v := 2) dX0_end_10 (by decide) ?_
  refine tp_iald (pc := 11) S E.1 hP (20 + j) 0 (cC_facts a ca st hj) rfl (j := 2) (by decide +kernel) (by decide +kernel : ¬ ((2 : Int32) < 0 ∨ 8 ≤ (2 : Int32).toNatClampNeg)) dX0_end_11 ?_
  refine lv_iadd (pc := 12) S.1 S.2.1 dX0_end_12 ?_
  exact tRi S hr hlk hP hS h dX0_end_13

abbrev rmX0_isOnAt : Room := { frames := 1, cells := 0, slots := 0, locals := 20 }
theorem cw_X0_isOnAt {R : Room} {own : String} {index : Nat} (h : rmX0_isOnAt.frames + 1 ≤ R.frames ∧ 8 + (2 + 11) + rmX0_isOnAt.locals ≤ R.locals) : tCw R own index yX0_isOnAt cX0_isOnAt 2 (some .boolean) rmX0_isOnAt 1 := ⟨kw_76, kw_63, ⟨rfl, rfl, h.1, h.2⟩, by decide +kernel, by decide +kernel, by decide +kernel⟩

set_option maxHeartbeats 4000000 in
set_option maxRecDepth 100000 in
theorem mt_X0_isOnAt (l : Launch) (dC : Nat → ClassId) (dI : Nat → Nat → Nat) (a : Nat → Nat) (ca : Nat → ClassId) (tb : Nat → Nat) (sz : Nat) {j : Nat} (hj : j < 6) (x1 : Int32) (st : tSt) (post : Int32 → tSt → Prop) (h : wp_Call_isOnAt j x1 st post) : Met l yX0_isOnAt (.code yX0_isOnAt cX0_isOnAt 2 (some .boolean) :: tWALL) rmX0_isOnAt (va_Pc [.ref (a (14 + j)), .int x1] (tPre 47 (cwC a ca) dC dI a ca tb sz st)) (va_Qi post (tB (cwC a ca) dC dI) (tA 47 a sz)) 0 0 (tA 47 a sz) := by
  refine tp_met (by decide) (Nat.le_of_ble_eq_true rfl) ?_
  intro p e s m below meth c ls S hr hlk hsz E hP hl
  subst hsz
  have S : CallFix p m c cX0_isOnAt 2 s _ (.code yX0_isOnAt cX0_isOnAt 2 (some .boolean) :: tWALL) RX0 := S
  have hl : lv_has ls 2 [(0, .ref (a (14 + j))), (1, .int x1)] := hl
  have hS : va_S (tA 47 a s.heap.size) s.heap s.heap [] := va_S.rf
  show W p l e _ s m _ below meth c s.heap [] 0 0 (tQi (cwC a ca) 47 dC dI a ([.ref (a (14 + j)), .int x1] : List Value).toArray below s post) (F0 m 0 ls [])
  refine lv_iload_n (pc := 0) S.1 S.2.1 dX0_isOnAt_0 rfl (lv_at hl 1 rfl) ?_
  refine lv_aload_n (pc := 1) S.1 S.2.1 dX0_isOnAt_1 rfl (lv_at hl 0 rfl) ?_
  refine tp_get (pc := 2) S E.1 hP iwX0 (14 + j) (cC_call a ca st hj) rfl 0 (by decide) kw_65 (v := .ref (a (20 + j))) rfl dX0_isOnAt_2 ?_
  refine lv_iconst (pc := 5) S.1 S.2.1 (v := 1) dX0_isOnAt_5 (by decide) ?_
  refine tp_iald (pc := 6) S E.1 hP (20 + j) 0 (cC_facts a ca st hj) rfl (j := 1) (by decide +kernel) (by decide +kernel : ¬ ((1 : Int32) < 0 ∨ 8 ≤ (1 : Int32).toNatClampNeg)) dX0_isOnAt_6 ?_
  refine lv_icmp_lt (pc := 7) (tgt := 22) S.1 S.2.1 dX0_isOnAt_7 (by decide) (fun c1 => ?_) (fun c1 => ?_)
  · have h := h.1 c1
    refine lv_iconst (pc := 22) S.1 S.2.1 (v := 0) dX0_isOnAt_22 (by decide) ?_
    exact tRz S hr hlk hP hS (Or.inl rfl) h dX0_isOnAt_23
  · have h := h.2 c1
    refine lv_iload_n (pc := 10) S.1 S.2.1 dX0_isOnAt_10 rfl (lv_at hl 1 rfl) ?_
    refine lv_aload_n (pc := 11) S.1 S.2.1 dX0_isOnAt_11 rfl (lv_at hl 0 rfl) ?_
    refine tGi hS (tRunV (pc := 12) (As := []) (rest := [.int x1]) S E hP hS (mt_X0_end l dC dI a ca tb _ hj st _ h) (cw_X0_end ⟨Nat.le_of_ble_eq_true rfl, Nat.le_of_ble_eq_true rfl⟩) kw_73 kw_74 kw_75 (14 + j) 0 rfl rfl (cC_call a ca st hj) rfl hl.1 rfl (Nat.le_of_ble_eq_true rfl) dX0_isOnAt_12) (fun r2 st1 H locs h hP hS => ?_)
    refine lv_icmp_ge (pc := 15) (tgt := 22) S.1 S.2.1 dX0_isOnAt_15 (by decide) (fun c2 => ?_) (fun c2 => ?_)
    · have h := h.1 c2
      refine lv_iconst (pc := 22) S.1 S.2.1 (v := 0) dX0_isOnAt_22 (by decide) ?_
      exact tRz S hr hlk hP hS (Or.inl rfl) h dX0_isOnAt_23
    · have h := h.2 c2
      refine lv_iconst (pc := 18) S.1 S.2.1 (v := 1) dX0_isOnAt_18 (by decide) ?_
      refine lv_goto (pc := 19) S.1 S.2.1 (tgt := 23) dX0_isOnAt_19 (by decide) ?_
      exact tRz S hr hlk hP hS (Or.inr rfl) h dX0_isOnAt_23

abbrev rmX0_partCount : Room := { frames := 0, cells := 0, slots := 0, locals := 0 }
theorem cw_X0_partCount {R : Room} {own : String} {index : Nat} (h : rmX0_partCount.frames + 1 ≤ R.frames ∧ 8 + (1 + 11) + rmX0_partCount.locals ≤ R.locals) : tCw R own index yX0_partCount cX0_partCount 1 (some .int) rmX0_partCount 0 := ⟨kw_77, kw_63, ⟨rfl, rfl, h.1, h.2⟩, by decide +kernel, by decide +kernel, by decide +kernel⟩

set_option maxHeartbeats 4000000 in
set_option maxRecDepth 100000 in
theorem mt_X0_partCount (l : Launch) (dC : Nat → ClassId) (dI : Nat → Nat → Nat) (a : Nat → Nat) (ca : Nat → ClassId) (tb : Nat → Nat) (sz : Nat) {j : Nat} (hj : j < 6) (st : tSt) (post : Int32 → tSt → Prop) (h : wp_Call_partCount j  st post) : Met l yX0_partCount (.code yX0_partCount cX0_partCount 1 (some .int) :: tWALL) rmX0_partCount (va_Pc [.ref (a (14 + j))] (tPre 47 (cwC a ca) dC dI a ca tb sz st)) (va_Qi post (tB (cwC a ca) dC dI) (tA 47 a sz)) 0 0 (tA 47 a sz) := by
  refine tp_met (by decide) (Nat.le_of_ble_eq_true rfl) ?_
  intro p e s m below meth c ls S hr hlk hsz E hP hl
  subst hsz
  have S : CallFix p m c cX0_partCount 1 s _ (.code yX0_partCount cX0_partCount 1 (some .int) :: tWALL) RX0 := S
  have hl : lv_has ls 1 [(0, .ref (a (14 + j)))] := hl
  have hS : va_S (tA 47 a s.heap.size) s.heap s.heap [] := va_S.rf
  show W p l e _ s m _ below meth c s.heap [] 0 0 (tQi (cwC a ca) 47 dC dI a ([.ref (a (14 + j))] : List Value).toArray below s post) (F0 m 0 ls [])
  refine lv_aload_n (pc := 0) S.1 S.2.1 dX0_partCount_0 rfl (lv_at hl 0 rfl) ?_
  refine tp_get (pc := 1) S E.1 hP iwX0 (14 + j) (cC_call a ca st hj) rfl 0 (by decide) kw_65 (v := .ref (a (20 + j))) rfl dX0_partCount_1 ?_
  refine lv_bipush (pc := 4) S.1 S.2.1 (v := 6) dX0_partCount_4 (by decide) ?_
  refine tp_iald (pc := 6) S E.1 hP (20 + j) 0 (cC_facts a ca st hj) rfl (j := 6) (by decide +kernel) (by decide +kernel : ¬ ((6 : Int32) < 0 ∨ 8 ≤ (6 : Int32).toNatClampNeg)) dX0_partCount_6 ?_
  refine lv_iconst (pc := 7) S.1 S.2.1 (v := (-1)) dX0_partCount_7 (by decide) ?_
  refine lv_icmp_ne (pc := 8) (tgt := 15) S.1 S.2.1 dX0_partCount_8 (by decide) (fun c1 => ?_) (fun c1 => ?_)
  · have h := h.2 c1
    refine lv_iconst (pc := 15) S.1 S.2.1 (v := 2) dX0_partCount_15 (by decide) ?_
    exact tRi S hr hlk hP hS h dX0_partCount_16
  · have h := h.1 c1
    refine lv_iconst (pc := 11) S.1 S.2.1 (v := 1) dX0_partCount_11 (by decide) ?_
    refine lv_goto (pc := 12) S.1 S.2.1 (tgt := 16) dX0_partCount_12 (by decide) ?_
    exact tRi S hr hlk hP hS h dX0_partCount_16

abbrev rmX0_partsWith : Room := { frames := 0, cells := 0, slots := 0, locals := 0 }
theorem cw_X0_partsWith {R : Room} {own : String} {index : Nat} (h : rmX0_partsWith.frames + 1 ≤ R.frames ∧ 8 + (2 + 11) + rmX0_partsWith.locals ≤ R.locals) : tCw R own index yX0_partsWith cX0_partsWith 2 (some .int) rmX0_partsWith 1 := ⟨kw_78, kw_63, ⟨rfl, rfl, h.1, h.2⟩, by decide +kernel, by decide +kernel, by decide +kernel⟩
set_option maxHeartbeats 4000000 in
set_option maxRecDepth 100000 in
theorem wk_X0_partsWith_15 {p : Program} {l : Launch} {e : Env} {s : State} {m : MethodId} {args : Array Value} {below : List Frame} {meth : Method} {c : Code} {dC : Nat → ClassId} {dI : Nat → Nat → Nat} {a : Nat → Nat} {ca : Nat → ClassId} {tb : Nat → Nat} {w0 : Cond} {j : Nat} (hj : j < 6) (S : CallFix p m c cX0_partsWith 2 s args (w0 :: tWALL) RX0) (hr : meth.sig.returnType = (some .int)) (hlk : meth.locks = false) (E : tEnv 47 dC dI a ca tb s) (post : Int32 → tSt → Prop) : ∀ (x1 : Int32) (s0 : Int32) (st : tSt), wp_Call_partsWith_15 j post x1 s0 st → tAt p l e rmX0_partsWith s m args below meth c (dC, dI) (cwC a ca) (tA 47 a s.heap.size) (tQi (cwC a ca) 47 dC dI a args below s post) 2 15 [(0, .ref (a (14 + j))), (1, .int x1)] [.int s0] st := by
  intro x1 s0 st h H locs ls hP hS hl
  refine lv_aload_n (pc := 15) S.1 S.2.1 dX0_partsWith_15 rfl (lv_at hl 0 rfl) ?_
  refine tp_get (pc := 16) S E.1 hP iwX0 (14 + j) (cC_call a ca st hj) rfl 0 (by decide) kw_65 (v := .ref (a (20 + j))) rfl dX0_partsWith_16 ?_
  refine lv_bipush (pc := 19) S.1 S.2.1 (v := 6) dX0_partsWith_19 (by decide) ?_
  refine tp_iald (pc := 21) S E.1 hP (20 + j) 0 (cC_facts a ca st hj) rfl (j := 6) (by decide +kernel) (by decide +kernel : ¬ ((6 : Int32) < 0 ∨ 8 ≤ (6 : Int32).toNatClampNeg)) dX0_partsWith_21 ?_
  refine lv_iload_n (pc := 22) S.1 S.2.1 dX0_partsWith_22 rfl (lv_at hl 1 rfl) ?_
  refine lv_icmp_ne (pc := 23) (tgt := 30) S.1 S.2.1 dX0_partsWith_23 (by decide) (fun c1 => ?_) (fun c1 => ?_)
  · have h := h.2 c1
    refine lv_iconst (pc := 30) S.1 S.2.1 (v := 0) dX0_partsWith_30 (by decide) ?_
    refine lv_iadd (pc := 31) S.1 S.2.1 dX0_partsWith_31 ?_
    exact tRi S hr hlk hP hS h dX0_partsWith_32
  · have h := h.1 c1
    refine lv_iconst (pc := 26) S.1 S.2.1 (v := 1) dX0_partsWith_26 (by decide) ?_
    refine lv_goto (pc := 27) S.1 S.2.1 (tgt := 31) dX0_partsWith_27 (by decide) ?_
    refine lv_iadd (pc := 31) S.1 S.2.1 dX0_partsWith_31 ?_
    exact tRi S hr hlk hP hS h dX0_partsWith_32
set_option maxHeartbeats 4000000 in
set_option maxRecDepth 100000 in
theorem mt_X0_partsWith (l : Launch) (dC : Nat → ClassId) (dI : Nat → Nat → Nat) (a : Nat → Nat) (ca : Nat → ClassId) (tb : Nat → Nat) (sz : Nat) {j : Nat} (hj : j < 6) (x1 : Int32) (st : tSt) (post : Int32 → tSt → Prop) (h : wp_Call_partsWith j x1 st post) : Met l yX0_partsWith (.code yX0_partsWith cX0_partsWith 2 (some .int) :: tWALL) rmX0_partsWith (va_Pc [.ref (a (14 + j)), .int x1] (tPre 47 (cwC a ca) dC dI a ca tb sz st)) (va_Qi post (tB (cwC a ca) dC dI) (tA 47 a sz)) 0 0 (tA 47 a sz) := by
  refine tp_met (by decide) (Nat.le_of_ble_eq_true rfl) ?_
  intro p e s m below meth c ls S hr hlk hsz E hP hl
  subst hsz
  have S : CallFix p m c cX0_partsWith 2 s _ (.code yX0_partsWith cX0_partsWith 2 (some .int) :: tWALL) RX0 := S
  have hl : lv_has ls 2 [(0, .ref (a (14 + j))), (1, .int x1)] := hl
  have hS : va_S (tA 47 a s.heap.size) s.heap s.heap [] := va_S.rf
  show W p l e _ s m _ below meth c s.heap [] 0 0 (tQi (cwC a ca) 47 dC dI a ([.ref (a (14 + j)), .int x1] : List Value).toArray below s post) (F0 m 0 ls [])
  refine lv_aload_n (pc := 0) S.1 S.2.1 dX0_partsWith_0 rfl (lv_at hl 0 rfl) ?_
  refine tp_get (pc := 1) S E.1 hP iwX0 (14 + j) (cC_call a ca st hj) rfl 0 (by decide) kw_65 (v := .ref (a (20 + j))) rfl dX0_partsWith_1 ?_
  refine lv_iconst (pc := 4) S.1 S.2.1 (v := 5) dX0_partsWith_4 (by decide) ?_
  refine tp_iald (pc := 5) S E.1 hP (20 + j) 0 (cC_facts a ca st hj) rfl (j := 5) (by decide +kernel) (by decide +kernel : ¬ ((5 : Int32) < 0 ∨ 8 ≤ (5 : Int32).toNatClampNeg)) dX0_partsWith_5 ?_
  refine lv_iload_n (pc := 6) S.1 S.2.1 dX0_partsWith_6 rfl (lv_at hl 1 rfl) ?_
  refine lv_icmp_ne (pc := 7) (tgt := 14) S.1 S.2.1 dX0_partsWith_7 (by decide) (fun c1 => ?_) (fun c1 => ?_)
  · have h := h.2 c1
    refine lv_iconst (pc := 14) S.1 S.2.1 (v := 0) dX0_partsWith_14 (by decide) ?_
    exact (fun x1 s0 st h => wk_X0_partsWith_15 hj S hr hlk E post  x1 s0 st h) x1 (0 : Int32) st h _ _ _ hP hS (lv_sub hl [0, 1] rfl)
  · have h := h.1 c1
    refine lv_iconst (pc := 10) S.1 S.2.1 (v := 1) dX0_partsWith_10 (by decide) ?_
    refine lv_goto (pc := 11) S.1 S.2.1 (tgt := 15) dX0_partsWith_11 (by decide) ?_
    exact (fun x1 s0 st h => wk_X0_partsWith_15 hj S hr hlk E post  x1 s0 st h) x1 (1 : Int32) st h _ _ _ hP hS (lv_sub hl [0, 1] rfl)

abbrev rmX0_clashesWith : Room := { frames := 1, cells := 0, slots := 0, locals := 24 }
theorem cw_X0_clashesWith {R : Room} {own : String} {index : Nat} (h : rmX0_clashesWith.frames + 1 ≤ R.frames ∧ 8 + (4 + 11) + rmX0_clashesWith.locals ≤ R.locals) : tCw R own index yX0_clashesWith cX0_clashesWith 4 (some .boolean) rmX0_clashesWith 2 := ⟨kw_83, kw_63, ⟨rfl, rfl, h.1, h.2⟩, by decide +kernel, by decide +kernel, by decide +kernel⟩

set_option maxHeartbeats 4000000 in
set_option maxRecDepth 100000 in
theorem mt_X0_clashesWith (l : Launch) (dC : Nat → ClassId) (dI : Nat → Nat → Nat) (a : Nat → Nat) (ca : Nat → ClassId) (tb : Nat → Nat) (sz : Nat) {j : Nat} (hj : j < 6) {j1 : Nat} (hj1 : j1 < 6) (x2 : Int32) (st : tSt) (post : Int32 → tSt → Prop) (h : wp_Call_clashesWith j j1 x2 st post) : Met l yX0_clashesWith (.code yX0_clashesWith cX0_clashesWith 4 (some .boolean) :: tWALL) rmX0_clashesWith (va_Pc [.ref (a (14 + j)), .ref (a (14 + j1)), .int x2] (tPre 47 (cwC a ca) dC dI a ca tb sz st)) (va_Qi post (tB (cwC a ca) dC dI) (tA 47 a sz)) 0 0 (tA 47 a sz) := by
  refine tp_met (by decide) (Nat.le_of_ble_eq_true rfl) ?_
  intro p e s m below meth c ls S hr hlk hsz E hP hl
  subst hsz
  have S : CallFix p m c cX0_clashesWith 4 s _ (.code yX0_clashesWith cX0_clashesWith 4 (some .boolean) :: tWALL) RX0 := S
  have hl : lv_has ls 4 [(0, .ref (a (14 + j))), (1, .ref (a (14 + j1))), (2, .int x2)] := hl
  have hS : va_S (tA 47 a s.heap.size) s.heap s.heap [] := va_S.rf
  show W p l e _ s m _ below meth c s.heap [] 0 0 (tQi (cwC a ca) 47 dC dI a ([.ref (a (14 + j)), .ref (a (14 + j1)), .int x2] : List Value).toArray below s post) (F0 m 0 ls [])
  refine lv_iload_n (pc := 0) S.1 S.2.1 dX0_clashesWith_0 rfl (lv_at hl 2 rfl) ?_
  refine lv_aload_n (pc := 1) S.1 S.2.1 dX0_clashesWith_1 rfl (lv_at hl 0 rfl) ?_
  refine tp_get (pc := 2) S E.1 hP iwX0 (14 + j) (cC_call a ca st hj) rfl 0 (by decide) kw_65 (v := .ref (a (20 + j))) rfl dX0_clashesWith_2 ?_
  refine lv_iconst (pc := 5) S.1 S.2.1 (v := 3) dX0_clashesWith_5 (by decide) ?_
  refine tp_iald (pc := 6) S E.1 hP (20 + j) 0 (cC_facts a ca st hj) rfl (j := 3) (by decide +kernel) (by decide +kernel : ¬ ((3 : Int32) < 0 ∨ 8 ≤ (3 : Int32).toNatClampNeg)) dX0_clashesWith_6 ?_
  refine lv_aload_n (pc := 7) S.1 S.2.1 dX0_clashesWith_7 rfl (lv_at hl 1 rfl) ?_
  refine tp_get (pc := 8) S E.1 hP iwX0 (14 + j1) (cC_call a ca st hj1) rfl 0 (by decide) kw_65 (v := .ref (a (20 + j1))) rfl dX0_clashesWith_8 ?_
  refine lv_iconst (pc := 11) S.1 S.2.1 (v := 3) dX0_clashesWith_11 (by decide) ?_
  refine tp_iald (pc := 12) S E.1 hP (20 + j1) 0 (cC_facts a ca st hj1) rfl (j := 3) (by decide +kernel) (by decide +kernel : ¬ ((3 : Int32) < 0 ∨ 8 ≤ (3 : Int32).toNatClampNeg)) dX0_clashesWith_12 ?_
  refine lv_isub (pc := 13) S.1 S.2.1 dX0_clashesWith_13 ?_
  refine va_mabs (pc := 14) S.1 S.2.1 (by rw [hl.1]; exact S.2.2.1) S.2.2.2.1 (S.2.2.2.2 _ (List.mem_cons_of_mem _ kw_79)) (S.2.2.2.2 _ (List.mem_cons_of_mem _ kw_80)) (S.2.2.2.2 _ (List.mem_cons_of_mem _ kw_81)) (S.2.2.2.2 _ (List.mem_cons_of_mem _ kw_82)) (Nat.le_of_ble_eq_true rfl) (Nat.le_of_ble_eq_true rfl) (Nat.zero_le _) (Nat.zero_le _) dX0_clashesWith_14 ?_
  refine lv_imul (pc := 17) S.1 S.2.1 dX0_clashesWith_17 ?_
  refine lv_topi (fun y3_1 e1 => ?_)
  have h := h y3_1 e1
  refine lv_istore_n (pc := 18) S.1 S.2.1 (lv' := [(3, .int y3_1), (0, .ref (a (14 + j))), (1, .ref (a (14 + j1))), (2, .int x2)]) dX0_clashesWith_18 rfl hl (by decide) rfl (fun ls hl => ?_)
  refine lv_aload_n (pc := 19) S.1 S.2.1 dX0_clashesWith_19 rfl (lv_at hl 1 rfl) ?_
  refine tp_get (pc := 20) S E.1 hP iwX0 (14 + j) (cC_call a ca st hj) rfl 0 (by decide) kw_65 (v := .ref (a (20 + j))) rfl dX0_clashesWith_20 ?_
  refine lv_iconst (pc := 23) S.1 S.2.1 (v := 1) dX0_clashesWith_23 (by decide) ?_
  refine tp_iald (pc := 24) S E.1 hP (20 + j) 0 (cC_facts a ca st hj) rfl (j := 1) (by decide +kernel) (by decide +kernel : ¬ ((1 : Int32) < 0 ∨ 8 ≤ (1 : Int32).toNatClampNeg)) dX0_clashesWith_24 ?_
  refine lv_aload_n (pc := 25) S.1 S.2.1 dX0_clashesWith_25 rfl (lv_at hl 2 rfl) ?_
  refine tGi hS (tRunV (pc := 26) (As := []) (rest := [.int (st (14 + j) 1)]) S E hP hS (mt_X0_end l dC dI a ca tb _ hj1 st _ h) (cw_X0_end ⟨Nat.le_of_ble_eq_true rfl, Nat.le_of_ble_eq_true rfl⟩) kw_73 kw_74 kw_75 (14 + j1) 0 rfl rfl (cC_call a ca st hj1) rfl hl.1 rfl (Nat.le_of_ble_eq_true rfl) dX0_clashesWith_26) (fun r3 st2 H locs h hP hS => ?_)
  refine lv_iload_n (pc := 29) S.1 S.2.1 dX0_clashesWith_29 rfl (lv_at hl 0 rfl) ?_
  refine lv_iadd (pc := 30) S.1 S.2.1 dX0_clashesWith_30 ?_
  refine lv_icmp_ge (pc := 31) (tgt := 53) S.1 S.2.1 dX0_clashesWith_31 (by decide) (fun c2 => ?_) (fun c2 => ?_)
  · have h := h.1 c2
    refine lv_iconst (pc := 53) S.1 S.2.1 (v := 0) dX0_clashesWith_53 (by decide) ?_
    exact tRz S hr hlk hP hS (Or.inl rfl) h dX0_clashesWith_54
  · have h := h.2 c2
    refine lv_aload_n (pc := 34) S.1 S.2.1 dX0_clashesWith_34 rfl (lv_at hl 2 rfl) ?_
    refine tp_get (pc := 35) S E.1 hP iwX0 (14 + j1) (cC_call a ca st2 hj1) rfl 0 (by decide) kw_65 (v := .ref (a (20 + j1))) rfl dX0_clashesWith_35 ?_
    refine lv_iconst (pc := 38) S.1 S.2.1 (v := 1) dX0_clashesWith_38 (by decide) ?_
    refine tp_iald (pc := 39) S E.1 hP (20 + j1) 0 (cC_facts a ca st2 hj1) rfl (j := 1) (by decide +kernel) (by decide +kernel : ¬ ((1 : Int32) < 0 ∨ 8 ≤ (1 : Int32).toNatClampNeg)) dX0_clashesWith_39 ?_
    refine lv_aload_n (pc := 40) S.1 S.2.1 dX0_clashesWith_40 rfl (lv_at hl 1 rfl) ?_
    refine tGi hS (tRunV (pc := 41) (As := []) (rest := [.int (st2 (14 + j1) 1)]) S E hP hS (mt_X0_end l dC dI a ca tb _ hj st2 _ h) (cw_X0_end ⟨Nat.le_of_ble_eq_true rfl, Nat.le_of_ble_eq_true rfl⟩) kw_73 kw_74 kw_75 (14 + j) 0 rfl rfl (cC_call a ca st2 hj) rfl hl.1 rfl (Nat.le_of_ble_eq_true rfl) dX0_clashesWith_41) (fun r5 st4 H locs h hP hS => ?_)
    refine lv_iload_n (pc := 44) S.1 S.2.1 dX0_clashesWith_44 rfl (lv_at hl 0 rfl) ?_
    refine lv_iadd (pc := 45) S.1 S.2.1 dX0_clashesWith_45 ?_
    refine lv_icmp_ge (pc := 46) (tgt := 53) S.1 S.2.1 dX0_clashesWith_46 (by decide) (fun c3 => ?_) (fun c3 => ?_)
    · have h := h.1 c3
      refine lv_iconst (pc := 53) S.1 S.2.1 (v := 0) dX0_clashesWith_53 (by decide) ?_
      exact tRz S hr hlk hP hS (Or.inl rfl) h dX0_clashesWith_54
    · have h := h.2 c3
      refine lv_iconst (pc := 49) S.1 S.2.1 (v := 1) dX0_clashesWith_49 (by decide) ?_
      refine lv_goto (pc := 50) S.1 S.2.1 (tgt := 54) dX0_clashesWith_50 (by decide) ?_
      exact tRz S hr hlk hP hS (Or.inr rfl) h dX0_clashesWith_54

abbrev rmJ7_fill_53178 : Room := { frames := 0, cells := 0, slots := 0, locals := 0 }
theorem cw_J7_fill_53178 {R : Room} {own : String} {index : Nat} (h : rmJ7_fill_53178.frames + 1 ≤ R.frames ∧ 8 + (4 + 11) + rmJ7_fill_53178.locals ≤ R.locals) : tCw R own index yJ7_fill_53178 cJ7_fill_53178 4 none rmJ7_fill_53178 2 := ⟨kw_85, kw_84, ⟨rfl, rfl, h.1, h.2⟩, by decide +kernel, by decide +kernel, by decide +kernel⟩
set_option maxHeartbeats 4000000 in
set_option maxRecDepth 100000 in
theorem wk_J7_fill_53178_5 {p : Program} {l : Launch} {e : Env} {s : State} {m : MethodId} {args : Array Value} {below : List Frame} {meth : Method} {c : Code} {dC : Nat → ClassId} {dI : Nat → Nat → Nat} {a : Nat → Nat} {ca : Nat → ClassId} {tb : Nat → Nat} {w0 : Cond} (S : CallFix p m c cJ7_fill_53178 4 s args (w0 :: tWALL) RJ7) (hr : meth.sig.returnType = none) (hlk : meth.locks = false) (E : tEnv 47 dC dI a ca tb s) (post : tSt → Prop) : ∀ (n : Nat) (x1 : Int32) (x2 : Int32) (x3 : Int32) (st : tSt), wp_Arrays_fill_5 post n x1 x2 x3 st → tAt p l e rmJ7_fill_53178 s m args below meth c (dC, dI) (cwC a ca) (tA 47 a s.heap.size) (tQv (cwC a ca) 47 dC dI a args below s post) 4 5 [(0, .ref (a 43)), (1, .int x1), (2, .int x2), (3, .int x3)] [] st := by
  intro n
  induction n with
  | zero => intro x1 x2 x3 st h; exact absurd h id
  | succ n ih =>
    intro x1 x2 x3 st h H locs ls hP hS hl
    refine lv_iload_n (pc := 5) S.1 S.2.1 dJ7_fill_53178_5 rfl (lv_at hl 2 rfl) ?_
    refine lv_iload_n (pc := 6) S.1 S.2.1 dJ7_fill_53178_6 rfl (lv_at hl 3 rfl) ?_
    refine lv_icmp_ge (pc := 7) (tgt := 20) S.1 S.2.1 dJ7_fill_53178_7 (by decide) (fun c1 => ?_) (fun c1 => ?_)
    · have h := h.1 c1
      exact tRv S hr hlk hP hS h dJ7_fill_53178_20
    · have h := h.2 c1
      refine lv_aload_n (pc := 10) S.1 S.2.1 dJ7_fill_53178_10 rfl (lv_at hl 0 rfl) ?_
      refine lv_iload_n (pc := 11) S.1 S.2.1 dJ7_fill_53178_11 rfl (lv_at hl 2 rfl) ?_
      refine lv_iload_n (pc := 12) S.1 S.2.1 dJ7_fill_53178_12 rfl (lv_at hl 1 rfl) ?_
      obtain ⟨hn2, h⟩ := h
      refine tp_iast (pc := 13) S E.1 hP (cC_D E st) hS 43 0 (cC_openTo a ca st) rfl (j := x2.toNatClampNeg) rfl hn2 (sC_openTo a ca st _ _) dJ7_fill_53178_13 (fun st1 H locs e3 hP hS => ?_)
      have h := h st1 e3
      obtain ⟨y2_2, e4⟩ : ∃ y : Int32, y = x2 + 1 := ⟨_, rfl⟩
      have h := h y2_2 e4
      refine lv_iinc (pc := 14) S.1 S.2.1 (v := y2_2) (lv' := [(2, .int y2_2), (0, .ref (a 43)), (1, .int x1), (3, .int x3)]) dJ7_fill_53178_14 hl (k := 2) rfl (by rw [e4]; rfl) (by decide) rfl (fun ls hl => ?_)
      refine lv_goto (pc := 17) S.1 S.2.1 (tgt := 5) dJ7_fill_53178_17 (by decide) ?_
      exact ih x1 y2_2 x3 st1 h _ _ _ hP hS (lv_sub hl [1, 2, 0, 3] rfl)
set_option maxHeartbeats 4000000 in
set_option maxRecDepth 100000 in
theorem mt_J7_fill_53178 (l : Launch) (dC : Nat → ClassId) (dI : Nat → Nat → Nat) (a : Nat → Nat) (ca : Nat → ClassId) (tb : Nat → Nat) (sz : Nat) (x1 : Int32) (st : tSt) (post : tSt → Prop) (h : wp_Arrays_fill x1 st post) : Met l yJ7_fill_53178 (.code yJ7_fill_53178 cJ7_fill_53178 4 none :: tWALL) rmJ7_fill_53178 (va_Pc [.ref (a 43), .int x1] (tPre 47 (cwC a ca) dC dI a ca tb sz st)) (va_Qv post (tB (cwC a ca) dC dI) (tA 47 a sz)) 0 0 (tA 47 a sz) := by
  refine tp_met (by decide) (Nat.le_of_ble_eq_true rfl) ?_
  intro p e s m below meth c ls S hr hlk hsz E hP hl
  subst hsz
  have S : CallFix p m c cJ7_fill_53178 4 s _ (.code yJ7_fill_53178 cJ7_fill_53178 4 none :: tWALL) RJ7 := S
  have hl : lv_has ls 4 [(0, .ref (a 43)), (1, .int x1)] := hl
  have hS : va_S (tA 47 a s.heap.size) s.heap s.heap [] := va_S.rf
  show W p l e _ s m _ below meth c s.heap [] 0 0 (tQv (cwC a ca) 47 dC dI a ([.ref (a 43), .int x1] : List Value).toArray below s post) (F0 m 0 ls [])
  refine lv_iconst (pc := 0) S.1 S.2.1 (v := 0) dJ7_fill_53178_0 (by decide) ?_
  refine lv_istore_n (pc := 1) S.1 S.2.1 (lv' := [(2, .int (0 : Int32)), (0, .ref (a 43)), (1, .int x1)]) dJ7_fill_53178_1 rfl hl (by decide) rfl (fun ls hl => ?_)
  refine lv_aload_n (pc := 2) S.1 S.2.1 dJ7_fill_53178_2 rfl (lv_at hl 1 rfl) ?_
  refine va_alen (pc := 3) S.1 S.2.1 E.1 hP 43 0 (cC_openTo a ca st) rfl (v := 6) (show Int32.ofNat 6 = 6 by decide) dJ7_fill_53178_3 ?_
  refine lv_istore_n (pc := 4) S.1 S.2.1 (lv' := [(3, .int (6 : Int32)), (2, .int (0 : Int32)), (0, .ref (a 43)), (1, .int x1)]) dJ7_fill_53178_4 rfl hl (by decide) rfl (fun ls hl => ?_)
  exact (fun x1 x2 x3 st h => Exists.elim h (fun q h => wk_J7_fill_53178_5 S hr hlk E post  q x1 x2 x3 st h)) x1 (0 : Int32) (6 : Int32) st h _ _ _ hP hS (lv_sub hl [2, 3, 1, 0] rfl)

abbrev rmX1_clear : Room := { frames := 1, cells := 0, slots := 0, locals := 23 }
theorem cw_X1_clear {R : Room} {own : String} {index : Nat} (h : rmX1_clear.frames + 1 ≤ R.frames ∧ 8 + (1 + 11) + rmX1_clear.locals ≤ R.locals) : tCw R own index yX1_clear cX1_clear 1 none rmX1_clear 0 := ⟨kw_91, kw_90, ⟨rfl, rfl, h.1, h.2⟩, by decide +kernel, by decide +kernel, by decide +kernel⟩

set_option maxHeartbeats 4000000 in
set_option maxRecDepth 100000 in
theorem mt_X1_clear (l : Launch) (dC : Nat → ClassId) (dI : Nat → Nat → Nat) (a : Nat → Nat) (ca : Nat → ClassId) (tb : Nat → Nat) (sz : Nat) (st : tSt) (post : tSt → Prop) (h : wp_Cast_clear  st post) : Met l yX1_clear (.code yX1_clear cX1_clear 1 none :: tWALL) rmX1_clear (va_Pc [.ref (a 40)] (tPre 47 (cwC a ca) dC dI a ca tb sz st)) (va_Qv post (tB (cwC a ca) dC dI) (tA 47 a sz)) 0 0 (tA 47 a sz) := by
  refine tp_met (by decide) (Nat.le_of_ble_eq_true rfl) ?_
  intro p e s m below meth c ls S hr hlk hsz E hP hl
  subst hsz
  have S : CallFix p m c cX1_clear 1 s _ (.code yX1_clear cX1_clear 1 none :: tWALL) RX1 := S
  have hl : lv_has ls 1 [(0, .ref (a 40))] := hl
  have hS : va_S (tA 47 a s.heap.size) s.heap s.heap [] := va_S.rf
  show W p l e _ s m _ below meth c s.heap [] 0 0 (tQv (cwC a ca) 47 dC dI a ([.ref (a 40)] : List Value).toArray below s post) (F0 m 0 ls [])
  refine lv_aload_n (pc := 0) S.1 S.2.1 dX1_clear_0 rfl (lv_at hl 0 rfl) ?_
  refine lv_iconst (pc := 1) S.1 S.2.1 (v := 0) dX1_clear_1 (by decide) ?_
  refine tp_put (pc := 2) S E.1 hP (cC_D E st) hS iwX1 tyX1 tyX1_ok nmX1 40 (cC_cast a ca st) rfl 4 (by decide) kw_86 rfl (v := .int (0 : Int32)) (tyX1_ok 4 (by decide)) rfl rfl (Nat.le_of_ble_eq_true rfl) (sC_cast_partCount a ca st _) dX1_clear_2 (fun st1 H locs e1 hP hS => ?_)
  have h := h st1 e1
  refine lv_aload_n (pc := 5) S.1 S.2.1 dX1_clear_5 rfl (lv_at hl 0 rfl) ?_
  refine tp_get (pc := 6) S E.1 hP iwX1 40 (cC_cast a ca st1) rfl 0 (by decide) kw_87 (v := .ref (a 43)) rfl dX1_clear_6 ?_
  refine lv_iconst (pc := 9) S.1 S.2.1 (v := 0) dX1_clear_9 (by decide) ?_
  refine tGv hS (tRunS (pc := 10) (As := [.ref (a 43), .int (0 : Int32)]) (rest := []) S E hP hS (mt_J7_fill_53178 l dC dI a ca tb _ (0 : Int32) st1 _ h) (cw_J7_fill_53178 ⟨Nat.le_of_ble_eq_true rfl, Nat.le_of_ble_eq_true rfl⟩) kw_89 kw_88 rfl hl.1 rfl (Nat.le_of_ble_eq_true rfl) dX1_clear_10) (fun st2 H locs h hP hS => ?_)
  exact tRv S hr hlk hP hS h dX1_clear_13

abbrev rmX1_piperOf : Room := { frames := 0, cells := 0, slots := 0, locals := 0 }
theorem cw_X1_piperOf {R : Room} {own : String} {index : Nat} (h : rmX1_piperOf.frames + 1 ≤ R.frames ∧ 8 + (5 + 11) + rmX1_piperOf.locals ≤ R.locals) : tCw R own index yX1_piperOf cX1_piperOf 5 (some .int) rmX1_piperOf 2 := ⟨kw_94, kw_90, ⟨rfl, rfl, h.1, h.2⟩, by decide +kernel, by decide +kernel, by decide +kernel⟩
set_option maxHeartbeats 4000000 in
set_option maxRecDepth 100000 in
theorem wk_X1_piperOf_44 {p : Program} {l : Launch} {e : Env} {s : State} {m : MethodId} {args : Array Value} {below : List Frame} {meth : Method} {c : Code} {dC : Nat → ClassId} {dI : Nat → Nat → Nat} {a : Nat → Nat} {ca : Nat → ClassId} {tb : Nat → Nat} {w0 : Cond} (S : CallFix p m c cX1_piperOf 5 s args (w0 :: tWALL) RX1) (hr : meth.sig.returnType = (some .int)) (hlk : meth.locks = false) (E : tEnv 47 dC dI a ca tb s) (post : Int32 → tSt → Prop) (k5 : Int32 → Int32 → Int32 → tSt → Prop) (hk5 : ∀ (x1 : Int32) (x3 : Int32) (x4 : Int32) (st : tSt), k5 x1 x3 x4 st → tAt p l e rmX1_piperOf s m args below meth c (dC, dI) (cwC a ca) (tA 47 a s.heap.size) (tQi (cwC a ca) 47 dC dI a args below s post) 5 5 [(0, .ref (a 40)), (1, .int x1), (3, .int x3), (4, .int x4)] [] st) : ∀ (x1 : Int32) (x3 : Int32) (x4 : Int32) (st : tSt), wp_Cast_piperOf_44 post k5 x1 x3 x4 st → tAt p l e rmX1_piperOf s m args below meth c (dC, dI) (cwC a ca) (tA 47 a s.heap.size) (tQi (cwC a ca) 47 dC dI a args below s post) 5 44 [(0, .ref (a 40)), (1, .int x1), (3, .int x3), (4, .int x4)] [] st := by
  intro x1 x3 x4 st h H locs ls hP hS hl
  obtain ⟨y4_1, e1⟩ : ∃ y : Int32, y = x4 + 1 := ⟨_, rfl⟩
  have h := h y4_1 e1
  refine lv_iinc (pc := 44) S.1 S.2.1 (v := y4_1) (lv' := [(4, .int y4_1), (0, .ref (a 40)), (1, .int x1), (3, .int x3)]) dX1_piperOf_44 hl (k := 3) rfl (by rw [e1]; rfl) (by decide) rfl (fun ls hl => ?_)
  refine lv_goto (pc := 47) S.1 S.2.1 (tgt := 5) dX1_piperOf_47 (by decide) ?_
  exact hk5 x1 x3 y4_1 st h _ _ _ hP hS (lv_sub hl [1, 2, 3, 0] rfl)
set_option maxHeartbeats 4000000 in
set_option maxRecDepth 100000 in
theorem wk_X1_piperOf_5 {p : Program} {l : Launch} {e : Env} {s : State} {m : MethodId} {args : Array Value} {below : List Frame} {meth : Method} {c : Code} {dC : Nat → ClassId} {dI : Nat → Nat → Nat} {a : Nat → Nat} {ca : Nat → ClassId} {tb : Nat → Nat} {w0 : Cond} (S : CallFix p m c cX1_piperOf 5 s args (w0 :: tWALL) RX1) (hr : meth.sig.returnType = (some .int)) (hlk : meth.locks = false) (E : tEnv 47 dC dI a ca tb s) (post : Int32 → tSt → Prop) : ∀ (n : Nat) (x1 : Int32) (x3 : Int32) (x4 : Int32) (st : tSt), wp_Cast_piperOf_5 post n x1 x3 x4 st → tAt p l e rmX1_piperOf s m args below meth c (dC, dI) (cwC a ca) (tA 47 a s.heap.size) (tQi (cwC a ca) 47 dC dI a args below s post) 5 5 [(0, .ref (a 40)), (1, .int x1), (3, .int x3), (4, .int x4)] [] st := by
  intro n
  induction n with
  | zero => intro x1 x3 x4 st h; exact absurd h id
  | succ n ih =>
    intro x1 x3 x4 st h H locs ls hP hS hl
    refine lv_iload (pc := 5) S.1 S.2.1 dX1_piperOf_5 (lv_at hl 3 rfl) ?_
    refine lv_aload_n (pc := 7) S.1 S.2.1 dX1_piperOf_7 rfl (lv_at hl 0 rfl) ?_
    refine tp_get (pc := 8) S E.1 hP iwX1 40 (cC_cast a ca st) rfl 4 (by decide) kw_86 (v := .int (st 27 0)) rfl dX1_piperOf_8 ?_
    refine lv_icmp_ge (pc := 11) (tgt := 50) S.1 S.2.1 dX1_piperOf_11 (by decide) (fun c1 => ?_) (fun c1 => ?_)
    · have h := h.1 c1
      refine lv_iconst (pc := 50) S.1 S.2.1 (v := (-1)) dX1_piperOf_50 (by decide) ?_
      exact tRi S hr hlk hP hS h dX1_piperOf_51
    · have h := h.2 c1
      refine lv_iload_n (pc := 14) S.1 S.2.1 dX1_piperOf_14 rfl (lv_at hl 2 rfl) ?_
      refine lv_if_lt (pc := 15) (tgt := 50) S.1 S.2.1 dX1_piperOf_15 (by decide) (fun c2 => ?_) (fun c2 => ?_)
      · have h := h.1 c2
        refine lv_iconst (pc := 50) S.1 S.2.1 (v := (-1)) dX1_piperOf_50 (by decide) ?_
        exact tRi S hr hlk hP hS h dX1_piperOf_51
      · have h := h.2 c2
        refine lv_aload_n (pc := 18) S.1 S.2.1 dX1_piperOf_18 rfl (lv_at hl 0 rfl) ?_
        refine tp_get (pc := 19) S E.1 hP iwX1 40 (cC_cast a ca st) rfl 2 (by decide) kw_92 (v := .ref (a 45)) rfl dX1_piperOf_19 ?_
        refine lv_iload (pc := 22) S.1 S.2.1 dX1_piperOf_22 (lv_at hl 3 rfl) ?_
        obtain ⟨hn3, h⟩ := h
        refine tp_iald (pc := 24) S E.1 hP 45 0 (cC_callOf a ca st) rfl (j := x4.toNatClampNeg) rfl hn3 dX1_piperOf_24 ?_
        refine lv_iload_n (pc := 25) S.1 S.2.1 dX1_piperOf_25 rfl (lv_at hl 1 rfl) ?_
        refine lv_icmp_ne (pc := 26) (tgt := 44) S.1 S.2.1 dX1_piperOf_26 (by decide) (fun c4 => ?_) (fun c4 => ?_)
        · have h := h.2 c4
          exact (fun x1 x3 x4 st h => wk_X1_piperOf_44 S hr hlk E post (wp_Cast_piperOf_5 post n) ih x1 x3 x4 st h) x1 x3 x4 st h _ _ _ hP hS (lv_sub hl [0, 1, 2, 3] rfl)
        · have h := h.1 c4
          refine lv_iload_n (pc := 29) S.1 S.2.1 dX1_piperOf_29 rfl (lv_at hl 2 rfl) ?_
          refine lv_if_ne (pc := 30) (tgt := 41) S.1 S.2.1 dX1_piperOf_30 (by decide) (fun c5 => ?_) (fun c5 => ?_)
          · have h := h.2 c5
            obtain ⟨y3_1, e6⟩ : ∃ y : Int32, y = x3 + (-1) := ⟨_, rfl⟩
            have h := h y3_1 e6
            refine lv_iinc (pc := 41) S.1 S.2.1 (v := y3_1) (lv' := [(3, .int y3_1), (0, .ref (a 40)), (1, .int x1), (4, .int x4)]) dX1_piperOf_41 hl (k := 2) rfl (by rw [e6]; rfl) (by decide) rfl (fun ls hl => ?_)
            exact (fun x1 x3 x4 st h => wk_X1_piperOf_44 S hr hlk E post (wp_Cast_piperOf_5 post n) ih x1 x3 x4 st h) x1 y3_1 x4 st h _ _ _ hP hS (lv_sub hl [1, 2, 0, 3] rfl)
          · have h := h.1 c5
            refine lv_aload_n (pc := 33) S.1 S.2.1 dX1_piperOf_33 rfl (lv_at hl 0 rfl) ?_
            refine tp_get (pc := 34) S E.1 hP iwX1 40 (cC_cast a ca st) rfl 3 (by decide) kw_93 (v := .ref (a 46)) rfl dX1_piperOf_34 ?_
            refine lv_iload (pc := 37) S.1 S.2.1 dX1_piperOf_37 (lv_at hl 3 rfl) ?_
            obtain ⟨hn7, h⟩ := h
            refine tp_iald (pc := 39) S E.1 hP 46 0 (cC_piperFor a ca st) rfl (j := x4.toNatClampNeg) rfl hn7 dX1_piperOf_39 ?_
            exact tRi S hr hlk hP hS h dX1_piperOf_40
set_option maxHeartbeats 4000000 in
set_option maxRecDepth 100000 in
theorem mt_X1_piperOf (l : Launch) (dC : Nat → ClassId) (dI : Nat → Nat → Nat) (a : Nat → Nat) (ca : Nat → ClassId) (tb : Nat → Nat) (sz : Nat) (x1 : Int32) (x2 : Int32) (st : tSt) (post : Int32 → tSt → Prop) (h : wp_Cast_piperOf x1 x2 st post) : Met l yX1_piperOf (.code yX1_piperOf cX1_piperOf 5 (some .int) :: tWALL) rmX1_piperOf (va_Pc [.ref (a 40), .int x1, .int x2] (tPre 47 (cwC a ca) dC dI a ca tb sz st)) (va_Qi post (tB (cwC a ca) dC dI) (tA 47 a sz)) 0 0 (tA 47 a sz) := by
  refine tp_met (by decide) (Nat.le_of_ble_eq_true rfl) ?_
  intro p e s m below meth c ls S hr hlk hsz E hP hl
  subst hsz
  have S : CallFix p m c cX1_piperOf 5 s _ (.code yX1_piperOf cX1_piperOf 5 (some .int) :: tWALL) RX1 := S
  have hl : lv_has ls 5 [(0, .ref (a 40)), (1, .int x1), (2, .int x2)] := hl
  have hS : va_S (tA 47 a s.heap.size) s.heap s.heap [] := va_S.rf
  show W p l e _ s m _ below meth c s.heap [] 0 0 (tQi (cwC a ca) 47 dC dI a ([.ref (a 40), .int x1, .int x2] : List Value).toArray below s post) (F0 m 0 ls [])
  refine lv_iload_n (pc := 0) S.1 S.2.1 dX1_piperOf_0 rfl (lv_at hl 2 rfl) ?_
  refine lv_istore_n (pc := 1) S.1 S.2.1 (lv' := [(3, .int x2), (0, .ref (a 40)), (1, .int x1), (2, .int x2)]) dX1_piperOf_1 rfl hl (by decide) rfl (fun ls hl => ?_)
  refine lv_iconst (pc := 2) S.1 S.2.1 (v := 0) dX1_piperOf_2 (by decide) ?_
  refine lv_istore (pc := 3) S.1 S.2.1 (lv' := [(4, .int (0 : Int32)), (3, .int x2), (0, .ref (a 40)), (1, .int x1), (2, .int x2)]) dX1_piperOf_3 hl (by decide) rfl (fun ls hl => ?_)
  exact (fun x1 x3 x4 st h => Exists.elim h (fun q h => wk_X1_piperOf_5 S hr hlk E post  q x1 x3 x4 st h)) x1 x2 (0 : Int32) st h _ _ _ hP hS (lv_sub hl [2, 3, 1, 0] rfl)

abbrev rmX1_partsOf : Room := { frames := 0, cells := 0, slots := 0, locals := 0 }
theorem cw_X1_partsOf {R : Room} {own : String} {index : Nat} (h : rmX1_partsOf.frames + 1 ≤ R.frames ∧ 8 + (4 + 11) + rmX1_partsOf.locals ≤ R.locals) : tCw R own index yX1_partsOf cX1_partsOf 4 (some .int) rmX1_partsOf 1 := ⟨kw_95, kw_90, ⟨rfl, rfl, h.1, h.2⟩, by decide +kernel, by decide +kernel, by decide +kernel⟩
set_option maxHeartbeats 4000000 in
set_option maxRecDepth 100000 in
theorem wk_X1_partsOf_25 {p : Program} {l : Launch} {e : Env} {s : State} {m : MethodId} {args : Array Value} {below : List Frame} {meth : Method} {c : Code} {dC : Nat → ClassId} {dI : Nat → Nat → Nat} {a : Nat → Nat} {ca : Nat → ClassId} {tb : Nat → Nat} {w0 : Cond} (S : CallFix p m c cX1_partsOf 4 s args (w0 :: tWALL) RX1) (hr : meth.sig.returnType = (some .int)) (hlk : meth.locks = false) (E : tEnv 47 dC dI a ca tb s) (post : Int32 → tSt → Prop) (k4 : Int32 → Int32 → Int32 → tSt → Prop) (hk4 : ∀ (x1 : Int32) (x2 : Int32) (x3 : Int32) (st : tSt), k4 x1 x2 x3 st → tAt p l e rmX1_partsOf s m args below meth c (dC, dI) (cwC a ca) (tA 47 a s.heap.size) (tQi (cwC a ca) 47 dC dI a args below s post) 4 4 [(0, .ref (a 40)), (1, .int x1), (2, .int x2), (3, .int x3)] [] st) : ∀ (x1 : Int32) (x2 : Int32) (x3 : Int32) (st : tSt), wp_Cast_partsOf_25 post k4 x1 x2 x3 st → tAt p l e rmX1_partsOf s m args below meth c (dC, dI) (cwC a ca) (tA 47 a s.heap.size) (tQi (cwC a ca) 47 dC dI a args below s post) 4 25 [(0, .ref (a 40)), (1, .int x1), (2, .int x2), (3, .int x3)] [] st := by
  intro x1 x2 x3 st h H locs ls hP hS hl
  obtain ⟨y3_1, e1⟩ : ∃ y : Int32, y = x3 + 1 := ⟨_, rfl⟩
  have h := h y3_1 e1
  refine lv_iinc (pc := 25) S.1 S.2.1 (v := y3_1) (lv' := [(3, .int y3_1), (0, .ref (a 40)), (1, .int x1), (2, .int x2)]) dX1_partsOf_25 hl (k := 3) rfl (by rw [e1]; rfl) (by decide) rfl (fun ls hl => ?_)
  refine lv_goto (pc := 28) S.1 S.2.1 (tgt := 4) dX1_partsOf_28 (by decide) ?_
  exact hk4 x1 x2 y3_1 st h _ _ _ hP hS (lv_sub hl [1, 2, 3, 0] rfl)
set_option maxHeartbeats 4000000 in
set_option maxRecDepth 100000 in
theorem wk_X1_partsOf_4 {p : Program} {l : Launch} {e : Env} {s : State} {m : MethodId} {args : Array Value} {below : List Frame} {meth : Method} {c : Code} {dC : Nat → ClassId} {dI : Nat → Nat → Nat} {a : Nat → Nat} {ca : Nat → ClassId} {tb : Nat → Nat} {w0 : Cond} (S : CallFix p m c cX1_partsOf 4 s args (w0 :: tWALL) RX1) (hr : meth.sig.returnType = (some .int)) (hlk : meth.locks = false) (E : tEnv 47 dC dI a ca tb s) (post : Int32 → tSt → Prop) : ∀ (n : Nat) (x1 : Int32) (x2 : Int32) (x3 : Int32) (st : tSt), wp_Cast_partsOf_4 post n x1 x2 x3 st → tAt p l e rmX1_partsOf s m args below meth c (dC, dI) (cwC a ca) (tA 47 a s.heap.size) (tQi (cwC a ca) 47 dC dI a args below s post) 4 4 [(0, .ref (a 40)), (1, .int x1), (2, .int x2), (3, .int x3)] [] st := by
  intro n
  induction n with
  | zero => intro x1 x2 x3 st h; exact absurd h id
  | succ n ih =>
    intro x1 x2 x3 st h H locs ls hP hS hl
    refine lv_iload_n (pc := 4) S.1 S.2.1 dX1_partsOf_4 rfl (lv_at hl 3 rfl) ?_
    refine lv_aload_n (pc := 5) S.1 S.2.1 dX1_partsOf_5 rfl (lv_at hl 0 rfl) ?_
    refine tp_get (pc := 6) S E.1 hP iwX1 40 (cC_cast a ca st) rfl 4 (by decide) kw_86 (v := .int (st 27 0)) rfl dX1_partsOf_6 ?_
    refine lv_icmp_ge (pc := 9) (tgt := 31) S.1 S.2.1 dX1_partsOf_9 (by decide) (fun c1 => ?_) (fun c1 => ?_)
    · have h := h.1 c1
      refine lv_iload_n (pc := 31) S.1 S.2.1 dX1_partsOf_31 rfl (lv_at hl 2 rfl) ?_
      exact tRi S hr hlk hP hS h dX1_partsOf_32
    · have h := h.2 c1
      refine lv_aload_n (pc := 12) S.1 S.2.1 dX1_partsOf_12 rfl (lv_at hl 0 rfl) ?_
      refine tp_get (pc := 13) S E.1 hP iwX1 40 (cC_cast a ca st) rfl 3 (by decide) kw_93 (v := .ref (a 46)) rfl dX1_partsOf_13 ?_
      refine lv_iload_n (pc := 16) S.1 S.2.1 dX1_partsOf_16 rfl (lv_at hl 3 rfl) ?_
      obtain ⟨hn2, h⟩ := h
      refine tp_iald (pc := 17) S E.1 hP 46 0 (cC_piperFor a ca st) rfl (j := x3.toNatClampNeg) rfl hn2 dX1_partsOf_17 ?_
      refine lv_iload_n (pc := 18) S.1 S.2.1 dX1_partsOf_18 rfl (lv_at hl 1 rfl) ?_
      refine lv_icmp_ne (pc := 19) (tgt := 25) S.1 S.2.1 dX1_partsOf_19 (by decide) (fun c3 => ?_) (fun c3 => ?_)
      · have h := h.2 c3
        exact (fun x1 x2 x3 st h => wk_X1_partsOf_25 S hr hlk E post (wp_Cast_partsOf_4 post n) ih x1 x2 x3 st h) x1 x2 x3 st h _ _ _ hP hS (lv_sub hl [0, 1, 2, 3] rfl)
      · have h := h.1 c3
        obtain ⟨y2_1, e4⟩ : ∃ y : Int32, y = x2 + 1 := ⟨_, rfl⟩
        have h := h y2_1 e4
        refine lv_iinc (pc := 22) S.1 S.2.1 (v := y2_1) (lv' := [(2, .int y2_1), (0, .ref (a 40)), (1, .int x1), (3, .int x3)]) dX1_partsOf_22 hl (k := 2) rfl (by rw [e4]; rfl) (by decide) rfl (fun ls hl => ?_)
        exact (fun x1 x2 x3 st h => wk_X1_partsOf_25 S hr hlk E post (wp_Cast_partsOf_4 post n) ih x1 x2 x3 st h) x1 y2_1 x3 st h _ _ _ hP hS (lv_sub hl [1, 2, 0, 3] rfl)
set_option maxHeartbeats 4000000 in
set_option maxRecDepth 100000 in
theorem mt_X1_partsOf (l : Launch) (dC : Nat → ClassId) (dI : Nat → Nat → Nat) (a : Nat → Nat) (ca : Nat → ClassId) (tb : Nat → Nat) (sz : Nat) (x1 : Int32) (st : tSt) (post : Int32 → tSt → Prop) (h : wp_Cast_partsOf x1 st post) : Met l yX1_partsOf (.code yX1_partsOf cX1_partsOf 4 (some .int) :: tWALL) rmX1_partsOf (va_Pc [.ref (a 40), .int x1] (tPre 47 (cwC a ca) dC dI a ca tb sz st)) (va_Qi post (tB (cwC a ca) dC dI) (tA 47 a sz)) 0 0 (tA 47 a sz) := by
  refine tp_met (by decide) (Nat.le_of_ble_eq_true rfl) ?_
  intro p e s m below meth c ls S hr hlk hsz E hP hl
  subst hsz
  have S : CallFix p m c cX1_partsOf 4 s _ (.code yX1_partsOf cX1_partsOf 4 (some .int) :: tWALL) RX1 := S
  have hl : lv_has ls 4 [(0, .ref (a 40)), (1, .int x1)] := hl
  have hS : va_S (tA 47 a s.heap.size) s.heap s.heap [] := va_S.rf
  show W p l e _ s m _ below meth c s.heap [] 0 0 (tQi (cwC a ca) 47 dC dI a ([.ref (a 40), .int x1] : List Value).toArray below s post) (F0 m 0 ls [])
  refine lv_iconst (pc := 0) S.1 S.2.1 (v := 0) dX1_partsOf_0 (by decide) ?_
  refine lv_istore_n (pc := 1) S.1 S.2.1 (lv' := [(2, .int (0 : Int32)), (0, .ref (a 40)), (1, .int x1)]) dX1_partsOf_1 rfl hl (by decide) rfl (fun ls hl => ?_)
  refine lv_iconst (pc := 2) S.1 S.2.1 (v := 0) dX1_partsOf_2 (by decide) ?_
  refine lv_istore_n (pc := 3) S.1 S.2.1 (lv' := [(3, .int (0 : Int32)), (2, .int (0 : Int32)), (0, .ref (a 40)), (1, .int x1)]) dX1_partsOf_3 rfl hl (by decide) rfl (fun ls hl => ?_)
  exact (fun x1 x2 x3 st h => Exists.elim h (fun q h => wk_X1_partsOf_4 S hr hlk E post  q x1 x2 x3 st h)) x1 (0 : Int32) (0 : Int32) st h _ _ _ hP hS (lv_sub hl [2, 3, 1, 0] rfl)
