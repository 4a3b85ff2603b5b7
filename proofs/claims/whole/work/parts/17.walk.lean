abbrev rmX7_fineTheWell : Room := { frames := 2, cells := 0, slots := 0, locals := 43 }
theorem cw_X7_fineTheWell {R : Room} {own : String} {index : Nat} (h : rmX7_fineTheWell.frames + 1 ≤ R.frames ∧ 8 + (3 + 11) + rmX7_fineTheWell.locals ≤ R.locals) : tCw R own index yX7_fineTheWell cX7_fineTheWell 3 none rmX7_fineTheWell 0 := ⟨kw_338, kw_6, ⟨rfl, rfl, h.1, h.2⟩, by decide +kernel, by decide +kernel, by decide +kernel⟩
set_option maxHeartbeats 4000000 in
set_option maxRecDepth 100000 in
theorem wk_X7_fineTheWell_56 {p : Program} {l : Launch} {e : Env} {s : State} {m : MethodId} {args : Array Value} {below : List Frame} {meth : Method} {c : Code} {dC : Nat → ClassId} {dI : Nat → Nat → Nat} {a : Nat → Nat} {ca : Nat → ClassId} {tb : Nat → Nat} {w0 : Cond} (S : CallFix p m c cX7_fineTheWell 3 s args (w0 :: tWALL) RX7) (hr : meth.sig.returnType = none) (hlk : meth.locks = false) (E : tEnv 47 dC dI a ca tb s) (post : tSt → Prop) (k11 : Int32 → Int32 → tSt → Prop) (hk11 : ∀ (x1 : Int32) (x2 : Int32) (st : tSt), k11 x1 x2 st → tAt p l e rmX7_fineTheWell s m args below meth c (dC, dI) (cwC a ca) (tA 47 a s.heap.size) (tQv (cwC a ca) 47 dC dI a args below s post) 3 11 [(0, .ref (a 0)), (1, .int x1), (2, .int x2)] [] st) : ∀ (x1 : Int32) (x2 : Int32) (st : tSt), wp_T_fineTheWell_56 post k11 x1 x2 st → tAt p l e rmX7_fineTheWell s m args below meth c (dC, dI) (cwC a ca) (tA 47 a s.heap.size) (tQv (cwC a ca) 47 dC dI a args below s post) 3 56 [(0, .ref (a 0)), (1, .int x1), (2, .int x2)] [] st := by
  intro x1 x2 st h H locs ls hP hS hl
  obtain ⟨y2_1, e1⟩ : ∃ y : Int32, y = x2 + 1 := ⟨_, rfl⟩
  have h := h y2_1 e1
  refine lv_iinc (pc := 56) S.1 S.2.1 (v := y2_1) (lv' := [(2, .int y2_1), (0, .ref (a 0)), (1, .int x1)]) dX7_fineTheWell_56 hl (k := 2) rfl (by rw [e1]; rfl) (by decide) rfl (fun ls hl => ?_)
  refine lv_goto (pc := 59) S.1 S.2.1 (tgt := 11) dX7_fineTheWell_59 (by decide) ?_
  exact hk11 x1 y2_1 st h _ _ _ hP hS (lv_sub hl [1, 2, 0] rfl)
set_option maxHeartbeats 4000000 in
set_option maxRecDepth 100000 in
theorem wk_X7_fineTheWell_11 {p : Program} {l : Launch} {e : Env} {s : State} {m : MethodId} {args : Array Value} {below : List Frame} {meth : Method} {c : Code} {dC : Nat → ClassId} {dI : Nat → Nat → Nat} {a : Nat → Nat} {ca : Nat → ClassId} {tb : Nat → Nat} {w0 : Cond} (S : CallFix p m c cX7_fineTheWell 3 s args (w0 :: tWALL) RX7) (hr : meth.sig.returnType = none) (hlk : meth.locks = false) (E : tEnv 47 dC dI a ca tb s) (post : tSt → Prop) : ∀ (n : Nat) (x1 : Int32) (x2 : Int32) (st : tSt), wp_T_fineTheWell_11 post n x1 x2 st → tAt p l e rmX7_fineTheWell s m args below meth c (dC, dI) (cwC a ca) (tA 47 a s.heap.size) (tQv (cwC a ca) 47 dC dI a args below s post) 3 11 [(0, .ref (a 0)), (1, .int x1), (2, .int x2)] [] st := by
  intro n
  induction n with
  | zero => intro x1 x2 st h; exact absurd h id
  | succ n ih =>
    intro x1 x2 st h H locs ls hP hS hl
    refine lv_iload_n (pc := 11) S.1 S.2.1 dX7_fineTheWell_11 rfl (lv_at hl 2 rfl) ?_
    refine lv_aload_n (pc := 12) S.1 S.2.1 dX7_fineTheWell_12 rfl (lv_at hl 0 rfl) ?_
    refine tp_get (pc := 13) S E.1 hP iwX7 0 (cC_tp a ca st) rfl 8 (by decide) kw_242 (v := .int (st 0 0)) rfl dX7_fineTheWell_13 ?_
    refine lv_icmp_ge (pc := 16) (tgt := 62) S.1 S.2.1 dX7_fineTheWell_16 (by decide) (fun c1 => ?_) (fun c1 => ?_)
    · have h := h.1 c1
      exact tRv S hr hlk hP hS h dX7_fineTheWell_62
    · have h := h.2 c1
      refine lv_aload_n (pc := 19) S.1 S.2.1 dX7_fineTheWell_19 rfl (lv_at hl 0 rfl) ?_
      refine tp_get (pc := 20) S E.1 hP iwX7 0 (cC_tp a ca st) rfl 2 (by decide) kw_244 (v := .ref (a 6)) rfl dX7_fineTheWell_20 ?_
      refine lv_iload_n (pc := 23) S.1 S.2.1 dX7_fineTheWell_23 rfl (lv_at hl 2 rfl) ?_
      obtain ⟨hn2, h⟩ := h
      refine tp_aald (pc := 24) S E.1 hP 6 1 (cC_pipersA a ca st) rfl (j := x2.toNatClampNeg) (d := a (7 + x2.toNatClampNeg)) rfl rfl hn2 dX7_fineTheWell_24 ?_
      have hj3 := t_lt hn2
      refine tp_getN (pc := 25) S E.2.1 E.1 hP iwX2 (7 + x2.toNatClampNeg) (cC_piper a ca st hj3) rfl 2 (by decide) kw_253 (v := .int (st 11 x2.toNatClampNeg)) rfl dX7_fineTheWell_25 ?_
      refine lv_if_ne (pc := 28) (tgt := 56) S.1 S.2.1 dX7_fineTheWell_28 (by decide) (fun c4 => ?_) (fun c4 => ?_)
      · have h := h.2 c4
        exact (fun x1 x2 st h => wk_X7_fineTheWell_56 S hr hlk E post (wp_T_fineTheWell_11 post n) ih x1 x2 st h) x1 x2 st h _ _ _ hP hS (lv_sub hl [0, 1, 2] rfl)
      · have h := h.1 c4
        refine lv_aload_n (pc := 31) S.1 S.2.1 dX7_fineTheWell_31 rfl (lv_at hl 0 rfl) ?_
        refine tp_get (pc := 32) S E.1 hP iwX7 0 (cC_tp a ca st) rfl 2 (by decide) kw_244 (v := .ref (a 6)) rfl dX7_fineTheWell_32 ?_
        refine lv_iload_n (pc := 35) S.1 S.2.1 dX7_fineTheWell_35 rfl (lv_at hl 2 rfl) ?_
        obtain ⟨hn5, h⟩ := h
        refine tp_aald (pc := 36) S E.1 hP 6 1 (cC_pipersA a ca st) rfl (j := x2.toNatClampNeg) (d := a (7 + x2.toNatClampNeg)) rfl rfl hn5 dX7_fineTheWell_36 ?_
        refine lv_dup (pc := 37) S.1 S.2.1 dX7_fineTheWell_37 rfl ?_
        refine tp_getN (pc := 38) S E.2.1 E.1 hP iwX2 (7 + x2.toNatClampNeg) (cC_piper a ca st hj3) rfl 3 (by decide) kw_336 (v := .int (st 12 x2.toNatClampNeg)) rfl dX7_fineTheWell_38 ?_
        refine lv_iload_n (pc := 41) S.1 S.2.1 dX7_fineTheWell_41 rfl (lv_at hl 1 rfl) ?_
        refine lv_isub (pc := 42) S.1 S.2.1 dX7_fineTheWell_42 ?_
        refine tp_putN (pc := 43) S E.2.1 E.1 hP (cC_D E st) hS iwX2 tyX2 tyX2_ok nmX2 (7 + x2.toNatClampNeg) (cC_piper a ca st hj3) rfl 3 (by decide) kw_336 rfl (v := .int ((st 12 x2.toNatClampNeg) - x1)) (tyX2_ok 3 (by decide)) rfl rfl (Nat.le_of_ble_eq_true rfl) (sC_piper_wages a ca st hj3 _) dX7_fineTheWell_43 (fun st1 H locs e6 hP hS => ?_)
        have h := h st1 e6
        refine lv_aload_n (pc := 46) S.1 S.2.1 dX7_fineTheWell_46 rfl (lv_at hl 0 rfl) ?_
        refine lv_dup (pc := 47) S.1 S.2.1 dX7_fineTheWell_47 rfl ?_
        refine tp_get (pc := 48) S E.1 hP iwX7 0 (cC_tp a ca st1) rfl 11 (by decide) kw_335 (v := .int (st1 3 0)) rfl dX7_fineTheWell_48 ?_
        refine lv_iload_n (pc := 51) S.1 S.2.1 dX7_fineTheWell_51 rfl (lv_at hl 1 rfl) ?_
        refine lv_iadd (pc := 52) S.1 S.2.1 dX7_fineTheWell_52 ?_
        refine tp_put (pc := 53) S E.1 hP (cC_D E st1) hS iwX7 tyX7 tyX7_ok nmX7 0 (cC_tp a ca st1) rfl 11 (by decide) kw_335 rfl (v := .int ((st1 3 0) + x1)) (tyX7_ok 11 (by decide)) rfl rfl (Nat.le_of_ble_eq_true rfl) (sC_tp_fund a ca st1 _) dX7_fineTheWell_53 (fun st2 H locs e7 hP hS => ?_)
        have h := h st2 e7
        exact (fun x1 x2 st h => wk_X7_fineTheWell_56 S hr hlk E post (wp_T_fineTheWell_11 post n) ih x1 x2 st h) x1 x2 st2 h _ _ _ hP hS (lv_sub hl [0, 1, 2] rfl)
set_option maxHeartbeats 4000000 in
set_option maxRecDepth 100000 in
theorem mt_X7_fineTheWell (l : Launch) (dC : Nat → ClassId) (dI : Nat → Nat → Nat) (a : Nat → Nat) (ca : Nat → ClassId) (tb : Nat → Nat) (sz : Nat) (st : tSt) (post : tSt → Prop) (h : wp_T_fineTheWell  st post) : Met l yX7_fineTheWell (.code yX7_fineTheWell cX7_fineTheWell 3 none :: tWALL) rmX7_fineTheWell (va_Pc [.ref (a 0)] (tPre 47 (cwC a ca) dC dI a ca tb sz st)) (va_Qv post (tB (cwC a ca) dC dI) (tA 47 a sz)) 0 0 (tA 47 a sz) := by
  refine tp_met (by decide) (Nat.le_of_ble_eq_true rfl) ?_
  intro p e s m below meth c ls S hr hlk hsz E hP hl
  subst hsz
  have S : CallFix p m c cX7_fineTheWell 3 s _ (.code yX7_fineTheWell cX7_fineTheWell 3 none :: tWALL) RX7 := S
  have hl : lv_has ls 3 [(0, .ref (a 0))] := hl
  have hS : va_S (tA 47 a s.heap.size) s.heap s.heap [] := va_S.rf
  show W p l e _ s m _ below meth c s.heap [] 0 0 (tQv (cwC a ca) 47 dC dI a ([.ref (a 0)] : List Value).toArray below s post) (F0 m 0 ls [])
  refine lv_aload_n (pc := 0) S.1 S.2.1 dX7_fineTheWell_0 rfl (lv_at hl 0 rfl) ?_
  refine tp_get (pc := 1) S E.1 hP iwX7 0 (cC_tp a ca st) rfl 1 (by decide) kw_233 (v := .ref (a 3)) rfl dX7_fineTheWell_1 ?_
  refine lv_iconst (pc := 4) S.1 S.2.1 (v := 3) dX7_fineTheWell_4 (by decide) ?_
  refine tGi hS (tRunV (pc := 5) (As := [.int (3 : Int32)]) (rest := []) S E hP hS (mt_X5_number l dC dI a ca tb _ (3 : Int32) st _ h) (cw_X5_number ⟨Nat.le_of_ble_eq_true rfl, Nat.le_of_ble_eq_true rfl⟩) kw_282 kw_283 kw_284 3 5 rfl rfl (cC_tw a ca st) rfl hl.1 rfl (Nat.le_of_ble_eq_true rfl) dX7_fineTheWell_5) (fun r2 st1 H locs h hP hS => ?_)
  refine lv_istore_n (pc := 8) S.1 S.2.1 (lv' := [(1, .int r2), (0, .ref (a 0))]) dX7_fineTheWell_8 rfl hl (by decide) rfl (fun ls hl => ?_)
  refine lv_iconst (pc := 9) S.1 S.2.1 (v := 0) dX7_fineTheWell_9 (by decide) ?_
  refine lv_istore_n (pc := 10) S.1 S.2.1 (lv' := [(2, .int (0 : Int32)), (1, .int r2), (0, .ref (a 0))]) dX7_fineTheWell_10 rfl hl (by decide) rfl (fun ls hl => ?_)
  exact (fun x1 x2 st h => Exists.elim h (fun q h => wk_X7_fineTheWell_11 S hr hlk E post  q x1 x2 st h)) r2 (0 : Int32) st1 h _ _ _ hP hS (lv_sub hl [2, 1, 0] rfl)

abbrev rmX7_payTheOld : Room := { frames := 2, cells := 0, slots := 0, locals := 43 }
theorem cw_X7_payTheOld {R : Room} {own : String} {index : Nat} (h : rmX7_payTheOld.frames + 1 ≤ R.frames ∧ 8 + (3 + 11) + rmX7_payTheOld.locals ≤ R.locals) : tCw R own index yX7_payTheOld cX7_payTheOld 3 none rmX7_payTheOld 0 := ⟨kw_342, kw_6, ⟨rfl, rfl, h.1, h.2⟩, by decide +kernel, by decide +kernel, by decide +kernel⟩
set_option maxHeartbeats 4000000 in
set_option maxRecDepth 100000 in
theorem wk_X7_payTheOld_64 {p : Program} {l : Launch} {e : Env} {s : State} {m : MethodId} {args : Array Value} {below : List Frame} {meth : Method} {c : Code} {dC : Nat → ClassId} {dI : Nat → Nat → Nat} {a : Nat → Nat} {ca : Nat → ClassId} {tb : Nat → Nat} {w0 : Cond} (S : CallFix p m c cX7_payTheOld 3 s args (w0 :: tWALL) RX7) (hr : meth.sig.returnType = none) (hlk : meth.locks = false) (E : tEnv 47 dC dI a ca tb s) (post : tSt → Prop) (k2 : Int32 → tSt → Prop) (hk2 : ∀ (x1 : Int32) (st : tSt), k2 x1 st → tAt p l e rmX7_payTheOld s m args below meth c (dC, dI) (cwC a ca) (tA 47 a s.heap.size) (tQv (cwC a ca) 47 dC dI a args below s post) 3 2 [(0, .ref (a 0)), (1, .int x1)] [] st) : ∀ (x1 : Int32) (st : tSt), wp_T_payTheOld_64 post k2 x1 st → tAt p l e rmX7_payTheOld s m args below meth c (dC, dI) (cwC a ca) (tA 47 a s.heap.size) (tQv (cwC a ca) 47 dC dI a args below s post) 3 64 [(0, .ref (a 0)), (1, .int x1)] [] st := by
  intro x1 st h H locs ls hP hS hl
  obtain ⟨y1_1, e1⟩ : ∃ y : Int32, y = x1 + 1 := ⟨_, rfl⟩
  have h := h y1_1 e1
  refine lv_iinc (pc := 64) S.1 S.2.1 (v := y1_1) (lv' := [(1, .int y1_1), (0, .ref (a 0))]) dX7_payTheOld_64 hl (k := 1) rfl (by rw [e1]; rfl) (by decide) rfl (fun ls hl => ?_)
  refine lv_goto (pc := 67) S.1 S.2.1 (tgt := 2) dX7_payTheOld_67 (by decide) ?_
  exact hk2 y1_1 st h _ _ _ hP hS (lv_sub hl [1, 0] rfl)
set_option maxHeartbeats 4000000 in
set_option maxRecDepth 100000 in
theorem wk_X7_payTheOld_2 {p : Program} {l : Launch} {e : Env} {s : State} {m : MethodId} {args : Array Value} {below : List Frame} {meth : Method} {c : Code} {dC : Nat → ClassId} {dI : Nat → Nat → Nat} {a : Nat → Nat} {ca : Nat → ClassId} {tb : Nat → Nat} {w0 : Cond} (S : CallFix p m c cX7_payTheOld 3 s args (w0 :: tWALL) RX7) (hr : meth.sig.returnType = none) (hlk : meth.locks = false) (E : tEnv 47 dC dI a ca tb s) (post : tSt → Prop) : ∀ (n : Nat) (x1 : Int32) (st : tSt), wp_T_payTheOld_2 post n x1 st → tAt p l e rmX7_payTheOld s m args below meth c (dC, dI) (cwC a ca) (tA 47 a s.heap.size) (tQv (cwC a ca) 47 dC dI a args below s post) 3 2 [(0, .ref (a 0)), (1, .int x1)] [] st := by
  intro n
  induction n with
  | zero => intro x1 st h; exact absurd h id
  | succ n ih =>
    intro x1 st h H locs ls hP hS hl
    refine lv_iload_n (pc := 2) S.1 S.2.1 dX7_payTheOld_2 rfl (lv_at hl 1 rfl) ?_
    refine lv_aload_n (pc := 3) S.1 S.2.1 dX7_payTheOld_3 rfl (lv_at hl 0 rfl) ?_
    refine tp_get (pc := 4) S E.1 hP iwX7 0 (cC_tp a ca st) rfl 8 (by decide) kw_242 (v := .int (st 0 0)) rfl dX7_payTheOld_4 ?_
    refine lv_icmp_ge (pc := 7) (tgt := 70) S.1 S.2.1 dX7_payTheOld_7 (by decide) (fun c1 => ?_) (fun c1 => ?_)
    · have h := h.1 c1
      exact tRv S hr hlk hP hS h dX7_payTheOld_70
    · have h := h.2 c1
      refine lv_aload_n (pc := 10) S.1 S.2.1 dX7_payTheOld_10 rfl (lv_at hl 0 rfl) ?_
      refine tp_get (pc := 11) S E.1 hP iwX7 0 (cC_tp a ca st) rfl 2 (by decide) kw_244 (v := .ref (a 6)) rfl dX7_payTheOld_11 ?_
      refine lv_iload_n (pc := 14) S.1 S.2.1 dX7_payTheOld_14 rfl (lv_at hl 1 rfl) ?_
      obtain ⟨hn2, h⟩ := h
      refine tp_aald (pc := 15) S E.1 hP 6 1 (cC_pipersA a ca st) rfl (j := x1.toNatClampNeg) (d := a (7 + x1.toNatClampNeg)) rfl rfl hn2 dX7_payTheOld_15 ?_
      have hj3 := t_lt hn2
      refine tp_getN (pc := 16) S E.2.1 E.1 hP iwX2 (7 + x1.toNatClampNeg) (cC_piper a ca st hj3) rfl 2 (by decide) kw_253 (v := .int (st 11 x1.toNatClampNeg)) rfl dX7_payTheOld_16 ?_
      refine lv_iconst (pc := 19) S.1 S.2.1 (v := 2) dX7_payTheOld_19 (by decide) ?_
      refine lv_icmp_ne (pc := 20) (tgt := 64) S.1 S.2.1 dX7_payTheOld_20 (by decide) (fun c4 => ?_) (fun c4 => ?_)
      · have h := h.2 c4
        exact (fun x1 st h => wk_X7_payTheOld_64 S hr hlk E post (wp_T_payTheOld_2 post n) ih x1 st h) x1 st h _ _ _ hP hS (lv_sub hl [0, 1] rfl)
      · have h := h.1 c4
        refine lv_aload_n (pc := 23) S.1 S.2.1 dX7_payTheOld_23 rfl (lv_at hl 0 rfl) ?_
        refine tp_get (pc := 24) S E.1 hP iwX7 0 (cC_tp a ca st) rfl 11 (by decide) kw_335 (v := .int (st 3 0)) rfl dX7_payTheOld_24 ?_
        refine lv_aload_n (pc := 27) S.1 S.2.1 dX7_payTheOld_27 rfl (lv_at hl 0 rfl) ?_
        refine tp_get (pc := 28) S E.1 hP iwX7 0 (cC_tp a ca st) rfl 1 (by decide) kw_233 (v := .ref (a 3)) rfl dX7_payTheOld_28 ?_
        refine lv_iconst (pc := 31) S.1 S.2.1 (v := 2) dX7_payTheOld_31 (by decide) ?_
        refine tGi hS (tRunV (pc := 32) (As := [.int (2 : Int32)]) (rest := [.int (st 3 0)]) S E hP hS (mt_X5_number l dC dI a ca tb _ (2 : Int32) st _ h) (cw_X5_number ⟨Nat.le_of_ble_eq_true rfl, Nat.le_of_ble_eq_true rfl⟩) kw_282 kw_283 kw_284 3 5 rfl rfl (cC_tw a ca st) rfl hl.1 rfl (Nat.le_of_ble_eq_true rfl) dX7_payTheOld_32) (fun r2 st1 H locs h hP hS => ?_)
        refine va_mmin (pc := 35) S.1 S.2.1 (by rw [hl.1]; exact S.2.2.1) S.2.2.2.1 (S.2.2.2.2 _ (List.mem_cons_of_mem _ kw_339)) (S.2.2.2.2 _ (List.mem_cons_of_mem _ kw_340)) (S.2.2.2.2 _ (List.mem_cons_of_mem _ kw_81)) (S.2.2.2.2 _ (List.mem_cons_of_mem _ kw_341)) (Nat.le_of_ble_eq_true rfl) (Nat.le_of_ble_eq_true rfl) (Nat.zero_le _) (Nat.zero_le _) dX7_payTheOld_35 ?_
        refine lv_topi (fun y2_3 e5 => ?_)
        have h := h y2_3 e5
        refine lv_istore_n (pc := 38) S.1 S.2.1 (lv' := [(2, .int y2_3), (0, .ref (a 0)), (1, .int x1)]) dX7_payTheOld_38 rfl hl (by decide) rfl (fun ls hl => ?_)
        refine lv_aload_n (pc := 39) S.1 S.2.1 dX7_payTheOld_39 rfl (lv_at hl 1 rfl) ?_
        refine tp_get (pc := 40) S E.1 hP iwX7 0 (cC_tp a ca st1) rfl 2 (by decide) kw_244 (v := .ref (a 6)) rfl dX7_payTheOld_40 ?_
        refine lv_iload_n (pc := 43) S.1 S.2.1 dX7_payTheOld_43 rfl (lv_at hl 2 rfl) ?_
        obtain ⟨hn6, h⟩ := h
        refine tp_aald (pc := 44) S E.1 hP 6 1 (cC_pipersA a ca st1) rfl (j := x1.toNatClampNeg) (d := a (7 + x1.toNatClampNeg)) rfl rfl hn6 dX7_payTheOld_44 ?_
        refine lv_dup (pc := 45) S.1 S.2.1 dX7_payTheOld_45 rfl ?_
        refine tp_getN (pc := 46) S E.2.1 E.1 hP iwX2 (7 + x1.toNatClampNeg) (cC_piper a ca st1 hj3) rfl 3 (by decide) kw_336 (v := .int (st1 12 x1.toNatClampNeg)) rfl dX7_payTheOld_46 ?_
        refine lv_iload_n (pc := 49) S.1 S.2.1 dX7_payTheOld_49 rfl (lv_at hl 0 rfl) ?_
        refine lv_iadd (pc := 50) S.1 S.2.1 dX7_payTheOld_50 ?_
        refine tp_putN (pc := 51) S E.2.1 E.1 hP (cC_D E st1) hS iwX2 tyX2 tyX2_ok nmX2 (7 + x1.toNatClampNeg) (cC_piper a ca st1 hj3) rfl 3 (by decide) kw_336 rfl (v := .int ((st1 12 x1.toNatClampNeg) + y2_3)) (tyX2_ok 3 (by decide)) rfl rfl (Nat.le_of_ble_eq_true rfl) (sC_piper_wages a ca st1 hj3 _) dX7_payTheOld_51 (fun st4 H locs e7 hP hS => ?_)
        have h := h st4 e7
        refine lv_aload_n (pc := 54) S.1 S.2.1 dX7_payTheOld_54 rfl (lv_at hl 1 rfl) ?_
        refine lv_dup (pc := 55) S.1 S.2.1 dX7_payTheOld_55 rfl ?_
        refine tp_get (pc := 56) S E.1 hP iwX7 0 (cC_tp a ca st4) rfl 11 (by decide) kw_335 (v := .int (st4 3 0)) rfl dX7_payTheOld_56 ?_
        refine lv_iload_n (pc := 59) S.1 S.2.1 dX7_payTheOld_59 rfl (lv_at hl 0 rfl) ?_
        refine lv_isub (pc := 60) S.1 S.2.1 dX7_payTheOld_60 ?_
        refine tp_put (pc := 61) S E.1 hP (cC_D E st4) hS iwX7 tyX7 tyX7_ok nmX7 0 (cC_tp a ca st4) rfl 11 (by decide) kw_335 rfl (v := .int ((st4 3 0) - y2_3)) (tyX7_ok 11 (by decide)) rfl rfl (Nat.le_of_ble_eq_true rfl) (sC_tp_fund a ca st4 _) dX7_payTheOld_61 (fun st5 H locs e8 hP hS => ?_)
        have h := h st5 e8
        exact (fun x1 st h => wk_X7_payTheOld_64 S hr hlk E post (wp_T_payTheOld_2 post n) ih x1 st h) x1 st5 h _ _ _ hP hS (lv_sub hl [1, 2] rfl)
set_option maxHeartbeats 4000000 in
set_option maxRecDepth 100000 in
theorem mt_X7_payTheOld (l : Launch) (dC : Nat → ClassId) (dI : Nat → Nat → Nat) (a : Nat → Nat) (ca : Nat → ClassId) (tb : Nat → Nat) (sz : Nat) (st : tSt) (post : tSt → Prop) (h : wp_T_payTheOld  st post) : Met l yX7_payTheOld (.code yX7_payTheOld cX7_payTheOld 3 none :: tWALL) rmX7_payTheOld (va_Pc [.ref (a 0)] (tPre 47 (cwC a ca) dC dI a ca tb sz st)) (va_Qv post (tB (cwC a ca) dC dI) (tA 47 a sz)) 0 0 (tA 47 a sz) := by
  refine tp_met (by decide) (Nat.le_of_ble_eq_true rfl) ?_
  intro p e s m below meth c ls S hr hlk hsz E hP hl
  subst hsz
  have S : CallFix p m c cX7_payTheOld 3 s _ (.code yX7_payTheOld cX7_payTheOld 3 none :: tWALL) RX7 := S
  have hl : lv_has ls 3 [(0, .ref (a 0))] := hl
  have hS : va_S (tA 47 a s.heap.size) s.heap s.heap [] := va_S.rf
  show W p l e _ s m _ below meth c s.heap [] 0 0 (tQv (cwC a ca) 47 dC dI a ([.ref (a 0)] : List Value).toArray below s post) (F0 m 0 ls [])
  refine lv_iconst (pc := 0) S.1 S.2.1 (v := 0) dX7_payTheOld_0 (by decide) ?_
  refine lv_istore_n (pc := 1) S.1 S.2.1 (lv' := [(1, .int (0 : Int32)), (0, .ref (a 0))]) dX7_payTheOld_1 rfl hl (by decide) rfl (fun ls hl => ?_)
  exact (fun x1 st h => Exists.elim h (fun q h => wk_X7_payTheOld_2 S hr hlk E post  q x1 st h)) (0 : Int32) st h _ _ _ hP hS (lv_sub hl [1, 0] rfl)

abbrev rmX7_day : Room := { frames := 34, cells := 0, slots := 0, locals := 972 }
theorem cw_X7_day {R : Room} {own : String} {index : Nat} (h : rmX7_day.frames + 1 ≤ R.frames ∧ 8 + (3 + 11) + rmX7_day.locals ≤ R.locals) : tCw R own index yX7_day cX7_day 3 (some .int) rmX7_day 0 := ⟨kw_356, kw_6, ⟨rfl, rfl, h.1, h.2⟩, by decide +kernel, by decide +kernel, by decide +kernel⟩
set_option maxHeartbeats 4000000 in
set_option maxRecDepth 100000 in
theorem wk_X7_day_59 {p : Program} {l : Launch} {e : Env} {s : State} {m : MethodId} {args : Array Value} {below : List Frame} {meth : Method} {c : Code} {dC : Nat → ClassId} {dI : Nat → Nat → Nat} {a : Nat → Nat} {ca : Nat → ClassId} {tb : Nat → Nat} {w0 : Cond} (S : CallFix p m c cX7_day 3 s args (w0 :: tWALL) RX7) (hr : meth.sig.returnType = (some .int)) (hlk : meth.locks = false) (E : tEnv 47 dC dI a ca tb s) (post : Int32 → tSt → Prop) (k19 : Int32 → tSt → Prop) (hk19 : ∀ (x2 : Int32) (st : tSt), k19 x2 st → tAt p l e rmX7_day s m args below meth c (dC, dI) (cwC a ca) (tA 47 a s.heap.size) (tQi (cwC a ca) 47 dC dI a args below s post) 3 19 [(0, .ref (a 0)), (1, .ref (a 39)), (2, .int x2)] [] st) (k65 : tSt → Prop) (hk65 : ∀  (st : tSt), k65  st → tAt p l e rmX7_day s m args below meth c (dC, dI) (cwC a ca) (tA 47 a s.heap.size) (tQi (cwC a ca) 47 dC dI a args below s post) 3 65 [(0, .ref (a 0)), (1, .ref (a 39))] [] st) : ∀ (x2 : Int32) (st : tSt), wp_T_day_59 post k19 k65 x2 st → tAt p l e rmX7_day s m args below meth c (dC, dI) (cwC a ca) (tA 47 a s.heap.size) (tQi (cwC a ca) 47 dC dI a args below s post) 3 59 [(0, .ref (a 0)), (1, .ref (a 39)), (2, .int x2)] [] st := by
  intro x2 st h H locs ls hP hS hl
  obtain ⟨y2_1, e1⟩ : ∃ y : Int32, y = x2 + 1 := ⟨_, rfl⟩
  have h := h y2_1 e1
  refine lv_iinc (pc := 59) S.1 S.2.1 (v := y2_1) (lv' := [(2, .int y2_1), (0, .ref (a 0)), (1, .ref (a 39))]) dX7_day_59 hl (k := 2) rfl (by rw [e1]; rfl) (by decide) rfl (fun ls hl => ?_)
  refine lv_goto (pc := 62) S.1 S.2.1 (tgt := 19) dX7_day_62 (by decide) ?_
  exact hk19 y2_1 st h _ _ _ hP hS (lv_sub hl [1, 2, 0] rfl)
set_option maxHeartbeats 4000000 in
set_option maxRecDepth 100000 in
theorem wk_X7_day_96 {p : Program} {l : Launch} {e : Env} {s : State} {m : MethodId} {args : Array Value} {below : List Frame} {meth : Method} {c : Code} {dC : Nat → ClassId} {dI : Nat → Nat → Nat} {a : Nat → Nat} {ca : Nat → ClassId} {tb : Nat → Nat} {w0 : Cond} (S : CallFix p m c cX7_day 3 s args (w0 :: tWALL) RX7) (hr : meth.sig.returnType = (some .int)) (hlk : meth.locks = false) (E : tEnv 47 dC dI a ca tb s) (post : Int32 → tSt → Prop) : ∀  (st : tSt), wp_T_day_96 post  st → tAt p l e rmX7_day s m args below meth c (dC, dI) (cwC a ca) (tA 47 a s.heap.size) (tQi (cwC a ca) 47 dC dI a args below s post) 3 96 [(0, .ref (a 0))] [] st := by
  intro  st h H locs ls hP hS hl
  refine lv_aload_n (pc := 96) S.1 S.2.1 dX7_day_96 rfl (lv_at hl 0 rfl) ?_
  refine lv_iconst (pc := 97) S.1 S.2.1 (v := 0) dX7_day_97 (by decide) ?_
  refine tp_put (pc := 98) S E.1 hP (cC_D E st) hS iwX7 tyX7 tyX7_ok nmX7 0 (cC_tp a ca st) rfl 12 (by decide) kw_240 rfl (v := .int (0 : Int32)) (tyX7_ok 12 (by decide)) (by decide +kernel) rfl (Nat.le_of_ble_eq_true rfl) (sC_tp_planned a ca st _) dX7_day_98 (fun st1 H locs e1 hP hS => ?_)
  have h := h st1 e1
  refine lv_aload_n (pc := 101) S.1 S.2.1 dX7_day_101 rfl (lv_at hl 0 rfl) ?_
  refine lv_dup (pc := 102) S.1 S.2.1 dX7_day_102 rfl ?_
  refine tp_get (pc := 103) S E.1 hP iwX7 0 (cC_tp a ca st1) rfl 10 (by decide) kw_279 (v := .int (st1 2 0)) rfl dX7_day_103 ?_
  refine lv_iconst (pc := 106) S.1 S.2.1 (v := 1) dX7_day_106 (by decide) ?_
  refine lv_iadd (pc := 107) S.1 S.2.1 dX7_day_107 ?_
  refine tp_put (pc := 108) S E.1 hP (cC_D E st1) hS iwX7 tyX7 tyX7_ok nmX7 0 (cC_tp a ca st1) rfl 10 (by decide) kw_279 rfl (v := .int ((st1 2 0) + (1 : Int32))) (tyX7_ok 10 (by decide)) rfl rfl (Nat.le_of_ble_eq_true rfl) (sC_tp_today a ca st1 _) dX7_day_108 (fun st2 H locs e2 hP hS => ?_)
  have h := h st2 e2
  refine lv_aload_n (pc := 111) S.1 S.2.1 dX7_day_111 rfl (lv_at hl 0 rfl) ?_
  refine tp_get (pc := 112) S E.1 hP iwX7 0 (cC_tp a ca st2) rfl 10 (by decide) kw_279 (v := .int (st2 2 0)) rfl dX7_day_112 ?_
  refine lv_sipush (pc := 115) S.1 S.2.1 (v := 360) dX7_day_115 (by decide) ?_
  refine lv_irem (pc := 118) S.1 S.2.1 dX7_day_118 (by decide) ?_
  refine lv_if_ne (pc := 119) (tgt := 126) S.1 S.2.1 dX7_day_119 (by decide) (fun c3 => ?_) (fun c3 => ?_)
  · have h := h.2 c3
    refine lv_aload_n (pc := 126) S.1 S.2.1 dX7_day_126 rfl (lv_at hl 0 rfl) ?_
    refine tp_get (pc := 127) S E.1 hP iwX7 0 (cC_tp a ca st2) rfl 10 (by decide) kw_279 (v := .int (st2 2 0)) rfl dX7_day_127 ?_
    exact tRi S hr hlk hP hS h dX7_day_130
  · have h := h.1 c3
    refine lv_aload_n (pc := 122) S.1 S.2.1 dX7_day_122 rfl (lv_at hl 0 rfl) ?_
    refine tGv hS (tRunV (pc := 123) (As := []) (rest := []) S E hP hS (mt_X7_payTheOld l dC dI a ca tb _  st2 _ h) (cw_X7_payTheOld ⟨Nat.le_of_ble_eq_true rfl, Nat.le_of_ble_eq_true rfl⟩) kw_343 kw_344 kw_345 0 7 rfl rfl (cC_tp a ca st2) rfl hl.1 rfl (Nat.le_of_ble_eq_true rfl) dX7_day_123) (fun st3 H locs h hP hS => ?_)
    refine lv_aload_n (pc := 126) S.1 S.2.1 dX7_day_126 rfl (lv_at hl 0 rfl) ?_
    refine tp_get (pc := 127) S E.1 hP iwX7 0 (cC_tp a ca st3) rfl 10 (by decide) kw_279 (v := .int (st3 2 0)) rfl dX7_day_127 ?_
    exact tRi S hr hlk hP hS h dX7_day_130
set_option maxHeartbeats 4000000 in
set_option maxRecDepth 100000 in
theorem wk_X7_day_75 {p : Program} {l : Launch} {e : Env} {s : State} {m : MethodId} {args : Array Value} {below : List Frame} {meth : Method} {c : Code} {dC : Nat → ClassId} {dI : Nat → Nat → Nat} {a : Nat → Nat} {ca : Nat → ClassId} {tb : Nat → Nat} {w0 : Cond} (S : CallFix p m c cX7_day 3 s args (w0 :: tWALL) RX7) (hr : meth.sig.returnType = (some .int)) (hlk : meth.locks = false) (E : tEnv 47 dC dI a ca tb s) (post : Int32 → tSt → Prop) (k96 : tSt → Prop) (hk96 : ∀  (st : tSt), k96  st → tAt p l e rmX7_day s m args below meth c (dC, dI) (cwC a ca) (tA 47 a s.heap.size) (tQi (cwC a ca) 47 dC dI a args below s post) 3 96 [(0, .ref (a 0))] [] st) : ∀ (n : Nat) (x2 : Int32) (st : tSt), wp_T_day_75 post k96 n x2 st → tAt p l e rmX7_day s m args below meth c (dC, dI) (cwC a ca) (tA 47 a s.heap.size) (tQi (cwC a ca) 47 dC dI a args below s post) 3 75 [(0, .ref (a 0)), (2, .int x2)] [] st := by
  intro n
  induction n with
  | zero => intro x2 st h; exact absurd h id
  | succ n ih =>
    intro x2 st h H locs ls hP hS hl
    refine lv_iload_n (pc := 75) S.1 S.2.1 dX7_day_75 rfl (lv_at hl 1 rfl) ?_
    refine lv_bipush (pc := 76) S.1 S.2.1 (v := 6) dX7_day_76 (by decide) ?_
    refine lv_icmp_ge (pc := 78) (tgt := 96) S.1 S.2.1 dX7_day_78 (by decide) (fun c1 => ?_) (fun c1 => ?_)
    · have h := h.1 c1
      exact hk96  st h _ _ _ hP hS (lv_sub hl [0] rfl)
    · have h := h.2 c1
      refine lv_aload_n (pc := 81) S.1 S.2.1 dX7_day_81 rfl (lv_at hl 0 rfl) ?_
      refine tp_get (pc := 82) S E.1 hP iwX7 0 (cC_tp a ca st) rfl 3 (by decide) kw_258 (v := .ref (a 13)) rfl dX7_day_82 ?_
      refine lv_iload_n (pc := 85) S.1 S.2.1 dX7_day_85 rfl (lv_at hl 1 rfl) ?_
      obtain ⟨hn2, h⟩ := h
      refine tp_aald (pc := 86) S E.1 hP 13 2 (cC_callsA a ca st) rfl (j := x2.toNatClampNeg) (d := a (14 + x2.toNatClampNeg)) rfl rfl hn2 dX7_day_86 ?_
      have hj3 := t_lt hn2
      refine tGv hS (tRunV (pc := 87) (As := []) (rest := []) S E hP hS (mt_X0_go l dC dI a ca tb _ hj3 st _ h) (cw_X0_go ⟨Nat.le_of_ble_eq_true rfl, Nat.le_of_ble_eq_true rfl⟩) kw_275 kw_276 kw_277 (14 + x2.toNatClampNeg) 0 rfl rfl (cC_call a ca st hj3) rfl hl.1 rfl (Nat.le_of_ble_eq_true rfl) dX7_day_87) (fun st1 H locs h hP hS => ?_)
      obtain ⟨y2_2, e4⟩ : ∃ y : Int32, y = x2 + 1 := ⟨_, rfl⟩
      have h := h y2_2 e4
      refine lv_iinc (pc := 90) S.1 S.2.1 (v := y2_2) (lv' := [(2, .int y2_2), (0, .ref (a 0))]) dX7_day_90 hl (k := 1) rfl (by rw [e4]; rfl) (by decide) rfl (fun ls hl => ?_)
      refine lv_goto (pc := 93) S.1 S.2.1 (tgt := 75) dX7_day_93 (by decide) ?_
      exact ih y2_2 st1 h _ _ _ hP hS (lv_sub hl [1, 0] rfl)
set_option maxHeartbeats 4000000 in
set_option maxRecDepth 100000 in
theorem wk_X7_day_65 {p : Program} {l : Launch} {e : Env} {s : State} {m : MethodId} {args : Array Value} {below : List Frame} {meth : Method} {c : Code} {dC : Nat → ClassId} {dI : Nat → Nat → Nat} {a : Nat → Nat} {ca : Nat → ClassId} {tb : Nat → Nat} {w0 : Cond} (S : CallFix p m c cX7_day 3 s args (w0 :: tWALL) RX7) (hr : meth.sig.returnType = (some .int)) (hlk : meth.locks = false) (E : tEnv 47 dC dI a ca tb s) (post : Int32 → tSt → Prop) : ∀  (st : tSt), wp_T_day_65 post  st → tAt p l e rmX7_day s m args below meth c (dC, dI) (cwC a ca) (tA 47 a s.heap.size) (tQi (cwC a ca) 47 dC dI a args below s post) 3 65 [(0, .ref (a 0)), (1, .ref (a 39))] [] st := by
  intro  st h H locs ls hP hS hl
  refine lv_aload_n (pc := 65) S.1 S.2.1 dX7_day_65 rfl (lv_at hl 1 rfl) ?_
  refine lv_aload_n (pc := 66) S.1 S.2.1 dX7_day_66 rfl (lv_at hl 0 rfl) ?_
  refine tp_get (pc := 67) S E.1 hP iwX7 0 (cC_tp a ca st) rfl 4 (by decide) kw_288 (v := .ref (a 26)) rfl dX7_day_67 ?_
  refine tGv hS (tRunV (pc := 70) (As := [.ref (a 26)]) (rest := []) S E hP hS (mt_X3_hearTunes l dC dI a ca tb _  st _ h) (cw_X3_hearTunes ⟨Nat.le_of_ble_eq_true rfl, Nat.le_of_ble_eq_true rfl⟩) kw_346 kw_347 kw_348 39 3 rfl rfl (cC_plan a ca st) rfl hl.1 rfl (Nat.le_of_ble_eq_true rfl) dX7_day_70) (fun st1 H locs h hP hS => ?_)
  refine lv_iconst (pc := 73) S.1 S.2.1 (v := 0) dX7_day_73 (by decide) ?_
  refine lv_istore_n (pc := 74) S.1 S.2.1 (lv' := [(2, .int (0 : Int32)), (0, .ref (a 0)), (1, .ref (a 39))]) dX7_day_74 rfl hl (by decide) rfl (fun ls hl => ?_)
  exact (fun x2 st h => Exists.elim h (fun q h => wk_X7_day_75 S hr hlk E post (wp_T_day_96 post) (fun  st h => wk_X7_day_96 S hr hlk E post   st h) q x2 st h)) (0 : Int32) st1 h _ _ _ hP hS (lv_sub hl [1, 0] rfl)
set_option maxHeartbeats 4000000 in
set_option maxRecDepth 100000 in
theorem wk_X7_day_19 {p : Program} {l : Launch} {e : Env} {s : State} {m : MethodId} {args : Array Value} {below : List Frame} {meth : Method} {c : Code} {dC : Nat → ClassId} {dI : Nat → Nat → Nat} {a : Nat → Nat} {ca : Nat → ClassId} {tb : Nat → Nat} {w0 : Cond} (S : CallFix p m c cX7_day 3 s args (w0 :: tWALL) RX7) (hr : meth.sig.returnType = (some .int)) (hlk : meth.locks = false) (E : tEnv 47 dC dI a ca tb s) (post : Int32 → tSt → Prop) (k65 : tSt → Prop) (hk65 : ∀  (st : tSt), k65  st → tAt p l e rmX7_day s m args below meth c (dC, dI) (cwC a ca) (tA 47 a s.heap.size) (tQi (cwC a ca) 47 dC dI a args below s post) 3 65 [(0, .ref (a 0)), (1, .ref (a 39))] [] st) : ∀ (n : Nat) (x2 : Int32) (st : tSt), wp_T_day_19 post k65 n x2 st → tAt p l e rmX7_day s m args below meth c (dC, dI) (cwC a ca) (tA 47 a s.heap.size) (tQi (cwC a ca) 47 dC dI a args below s post) 3 19 [(0, .ref (a 0)), (1, .ref (a 39)), (2, .int x2)] [] st := by
  intro n
  induction n with
  | zero => intro x2 st h; exact absurd h id
  | succ n ih =>
    intro x2 st h H locs ls hP hS hl
    refine lv_iload_n (pc := 19) S.1 S.2.1 dX7_day_19 rfl (lv_at hl 2 rfl) ?_
    refine lv_bipush (pc := 20) S.1 S.2.1 (v := 6) dX7_day_20 (by decide) ?_
    refine lv_icmp_ge (pc := 22) (tgt := 65) S.1 S.2.1 dX7_day_22 (by decide) (fun c1 => ?_) (fun c1 => ?_)
    · have h := h.1 c1
      exact hk65  st h _ _ _ hP hS (lv_sub hl [0, 1] rfl)
    · have h := h.2 c1
      refine lv_aload_n (pc := 25) S.1 S.2.1 dX7_day_25 rfl (lv_at hl 1 rfl) ?_
      refine lv_iload_n (pc := 26) S.1 S.2.1 dX7_day_26 rfl (lv_at hl 2 rfl) ?_
      refine tGi hS (tRunV (pc := 27) (As := [.int x2]) (rest := []) S E hP hS (mt_X3_has l dC dI a ca tb _ x2 st _ h) (cw_X3_has ⟨Nat.le_of_ble_eq_true rfl, Nat.le_of_ble_eq_true rfl⟩) kw_330 kw_172 kw_173 39 3 rfl rfl (cC_plan a ca st) rfl hl.1 rfl (Nat.le_of_ble_eq_true rfl) dX7_day_27) (fun r2 st1 H locs h hP hS => ?_)
      refine lv_if_eq (pc := 30) (tgt := 42) S.1 S.2.1 dX7_day_30 (by decide) (fun c2 => ?_) (fun c2 => ?_)
      · have h := h.1 c2
        refine lv_aload_n (pc := 42) S.1 S.2.1 dX7_day_42 rfl (lv_at hl 0 rfl) ?_
        refine tp_get (pc := 43) S E.1 hP iwX7 0 (cC_tp a ca st1) rfl 3 (by decide) kw_258 (v := .ref (a 13)) rfl dX7_day_43 ?_
        refine lv_iload_n (pc := 46) S.1 S.2.1 dX7_day_46 rfl (lv_at hl 2 rfl) ?_
        obtain ⟨hn3, h⟩ := h
        refine tp_aald (pc := 47) S E.1 hP 13 2 (cC_callsA a ca st1) rfl (j := x2.toNatClampNeg) (d := a (14 + x2.toNatClampNeg)) rfl rfl hn3 dX7_day_47 ?_
        have hj4 := t_lt hn3
        refine lv_iconst (pc := 48) S.1 S.2.1 (v := 0) dX7_day_48 (by decide) ?_
        refine tGi hS (tRunV (pc := 49) (As := [.int (0 : Int32)]) (rest := []) S E hP hS (mt_X0_isOfOrder l dC dI a ca tb _ hj4 (0 : Int32) st1 _ h) (cw_X0_isOfOrder ⟨Nat.le_of_ble_eq_true rfl, Nat.le_of_ble_eq_true rfl⟩) kw_349 kw_192 kw_193 (14 + x2.toNatClampNeg) 0 rfl rfl (cC_call a ca st1 hj4) rfl hl.1 rfl (Nat.le_of_ble_eq_true rfl) dX7_day_49) (fun r4 st3 H locs h hP hS => ?_)
        refine lv_if_eq (pc := 52) (tgt := 59) S.1 S.2.1 dX7_day_52 (by decide) (fun c5 => ?_) (fun c5 => ?_)
        · have h := h.1 c5
          exact (fun x2 st h => wk_X7_day_59 S hr hlk E post (wp_T_day_19 post k65 n) ih k65 hk65 x2 st h) x2 st3 h _ _ _ hP hS (lv_sub hl [0, 1, 2] rfl)
        · have h := h.2 c5
          refine lv_aload_n (pc := 55) S.1 S.2.1 dX7_day_55 rfl (lv_at hl 0 rfl) ?_
          refine tGv hS (tRunV (pc := 56) (As := []) (rest := []) S E hP hS (mt_X7_fineTheWell l dC dI a ca tb _  st3 _ h) (cw_X7_fineTheWell ⟨Nat.le_of_ble_eq_true rfl, Nat.le_of_ble_eq_true rfl⟩) kw_350 kw_351 kw_352 0 7 rfl rfl (cC_tp a ca st3) rfl hl.1 rfl (Nat.le_of_ble_eq_true rfl) dX7_day_56) (fun st5 H locs h hP hS => ?_)
          exact (fun x2 st h => wk_X7_day_59 S hr hlk E post (wp_T_day_19 post k65 n) ih k65 hk65 x2 st h) x2 st5 h _ _ _ hP hS (lv_sub hl [0, 1, 2] rfl)
      · have h := h.2 c2
        refine lv_aload_n (pc := 33) S.1 S.2.1 dX7_day_33 rfl (lv_at hl 0 rfl) ?_
        refine lv_aload_n (pc := 34) S.1 S.2.1 dX7_day_34 rfl (lv_at hl 1 rfl) ?_
        refine lv_iload_n (pc := 35) S.1 S.2.1 dX7_day_35 rfl (lv_at hl 2 rfl) ?_
        refine tGv hS (tRunV (pc := 36) (As := [.ref (a 39), .int x2]) (rest := []) S E hP hS (mt_X7_settle l dC dI a ca tb _ x2 st1 _ h) (cw_X7_settle ⟨Nat.le_of_ble_eq_true rfl, Nat.le_of_ble_eq_true rfl⟩) kw_353 kw_354 kw_355 0 7 rfl rfl (cC_tp a ca st1) rfl hl.1 rfl (Nat.le_of_ble_eq_true rfl) dX7_day_36) (fun st6 H locs h hP hS => ?_)
        refine lv_goto (pc := 39) S.1 S.2.1 (tgt := 59) dX7_day_39 (by decide) ?_
        exact (fun x2 st h => wk_X7_day_59 S hr hlk E post (wp_T_day_19 post k65 n) ih k65 hk65 x2 st h) x2 st6 h _ _ _ hP hS (lv_sub hl [0, 1, 2] rfl)
set_option maxHeartbeats 4000000 in
set_option maxRecDepth 100000 in
theorem mt_X7_day (l : Launch) (dC : Nat → ClassId) (dI : Nat → Nat → Nat) (a : Nat → Nat) (ca : Nat → ClassId) (tb : Nat → Nat) (sz : Nat) (st : tSt) (post : Int32 → tSt → Prop) (h : wp_T_day  st post) : Met l yX7_day (.code yX7_day cX7_day 3 (some .int) :: tWALL) rmX7_day (va_Pc [.ref (a 0)] (tPre 47 (cwC a ca) dC dI a ca tb sz st)) (va_Qi post (tB (cwC a ca) dC dI) (tA 47 a sz)) 0 0 (tA 47 a sz) := by
  refine tp_met (by decide) (Nat.le_of_ble_eq_true rfl) ?_
  intro p e s m below meth c ls S hr hlk hsz E hP hl
  subst hsz
  have S : CallFix p m c cX7_day 3 s _ (.code yX7_day cX7_day 3 (some .int) :: tWALL) RX7 := S
  have hl : lv_has ls 3 [(0, .ref (a 0))] := hl
  have hS : va_S (tA 47 a s.heap.size) s.heap s.heap [] := va_S.rf
  show W p l e _ s m _ below meth c s.heap [] 0 0 (tQi (cwC a ca) 47 dC dI a ([.ref (a 0)] : List Value).toArray below s post) (F0 m 0 ls [])
  refine lv_aload_n (pc := 0) S.1 S.2.1 dX7_day_0 rfl (lv_at hl 0 rfl) ?_
  refine tp_get (pc := 1) S E.1 hP iwX7 0 (cC_tp a ca st) rfl 10 (by decide) kw_279 (v := .int (st 2 0)) rfl dX7_day_1 ?_
  refine lv_sipush (pc := 4) S.1 S.2.1 (v := 9999) dX7_day_4 (by decide) ?_
  refine lv_icmp_lt (pc := 7) (tgt := 12) S.1 S.2.1 dX7_day_7 (by decide) (fun c1 => ?_) (fun c1 => ?_)
  · have h := h.1 c1
    refine lv_aload_n (pc := 12) S.1 S.2.1 dX7_day_12 rfl (lv_at hl 0 rfl) ?_
    refine tGr hS (tRunV (pc := 13) (As := []) (rest := []) S E hP hS (mt_X7_planOfToday l dC dI a ca tb _  st _ h) (cw_X7_planOfToday ⟨Nat.le_of_ble_eq_true rfl, Nat.le_of_ble_eq_true rfl⟩) kw_296 kw_297 kw_298 0 7 rfl rfl (cC_tp a ca st) rfl hl.1 rfl (Nat.le_of_ble_eq_true rfl) dX7_day_13) (fun st1 H locs h hP hS => ?_)
    refine lv_astore_n (pc := 16) S.1 S.2.1 (lv' := [(1, .ref (a 39)), (0, .ref (a 0))]) dX7_day_16 rfl hl (by decide) rfl (fun ls hl => ?_)
    refine lv_iconst (pc := 17) S.1 S.2.1 (v := 0) dX7_day_17 (by decide) ?_
    refine lv_istore_n (pc := 18) S.1 S.2.1 (lv' := [(2, .int (0 : Int32)), (1, .ref (a 39)), (0, .ref (a 0))]) dX7_day_18 rfl hl (by decide) rfl (fun ls hl => ?_)
    exact (fun x2 st h => Exists.elim h (fun q h => wk_X7_day_19 S hr hlk E post (wp_T_day_65 post) (fun  st h => wk_X7_day_65 S hr hlk E post   st h) q x2 st h)) (0 : Int32) st1 h _ _ _ hP hS (lv_sub hl [2, 1, 0] rfl)
  · have h := h.2 c1
    refine lv_iconst (pc := 10) S.1 S.2.1 (v := (-1)) dX7_day_10 (by decide) ?_
    exact tRi S hr hlk hP hS h dX7_day_11

abbrev rmX7_lasts : Room := { frames := 2, cells := 0, slots := 0, locals := 43 }
theorem cw_X7_lasts {R : Room} {own : String} {index : Nat} (h : rmX7_lasts.frames + 1 ≤ R.frames ∧ 8 + (3 + 11) + rmX7_lasts.locals ≤ R.locals) : tCw R own index yX7_lasts cX7_lasts 3 (some .int) rmX7_lasts 0 := ⟨kw_357, kw_6, ⟨rfl, rfl, h.1, h.2⟩, by decide +kernel, by decide +kernel, by decide +kernel⟩
set_option maxHeartbeats 4000000 in
set_option maxRecDepth 100000 in
theorem wk_X7_lasts_36 {p : Program} {l : Launch} {e : Env} {s : State} {m : MethodId} {args : Array Value} {below : List Frame} {meth : Method} {c : Code} {dC : Nat → ClassId} {dI : Nat → Nat → Nat} {a : Nat → Nat} {ca : Nat → ClassId} {tb : Nat → Nat} {w0 : Cond} (S : CallFix p m c cX7_lasts 3 s args (w0 :: tWALL) RX7) (hr : meth.sig.returnType = (some .int)) (hlk : meth.locks = false) (E : tEnv 47 dC dI a ca tb s) (post : Int32 → tSt → Prop) (k4 : Int32 → Int32 → tSt → Prop) (hk4 : ∀ (x1 : Int32) (x2 : Int32) (st : tSt), k4 x1 x2 st → tAt p l e rmX7_lasts s m args below meth c (dC, dI) (cwC a ca) (tA 47 a s.heap.size) (tQi (cwC a ca) 47 dC dI a args below s post) 3 4 [(0, .ref (a 0)), (1, .int x1), (2, .int x2)] [] st) (k42 : Int32 → tSt → Prop) (hk42 : ∀ (x1 : Int32) (st : tSt), k42 x1 st → tAt p l e rmX7_lasts s m args below meth c (dC, dI) (cwC a ca) (tA 47 a s.heap.size) (tQi (cwC a ca) 47 dC dI a args below s post) 3 42 [(0, .ref (a 0)), (1, .int x1)] [] st) : ∀ (x1 : Int32) (x2 : Int32) (st : tSt), wp_T_lasts_36 post k4 k42 x1 x2 st → tAt p l e rmX7_lasts s m args below meth c (dC, dI) (cwC a ca) (tA 47 a s.heap.size) (tQi (cwC a ca) 47 dC dI a args below s post) 3 36 [(0, .ref (a 0)), (1, .int x1), (2, .int x2)] [] st := by
  intro x1 x2 st h H locs ls hP hS hl
  obtain ⟨y2_1, e1⟩ : ∃ y : Int32, y = x2 + 1 := ⟨_, rfl⟩
  have h := h y2_1 e1
  refine lv_iinc (pc := 36) S.1 S.2.1 (v := y2_1) (lv' := [(2, .int y2_1), (0, .ref (a 0)), (1, .int x1)]) dX7_lasts_36 hl (k := 2) rfl (by rw [e1]; rfl) (by decide) rfl (fun ls hl => ?_)
  refine lv_goto (pc := 39) S.1 S.2.1 (tgt := 4) dX7_lasts_39 (by decide) ?_
  exact hk4 x1 y2_1 st h _ _ _ hP hS (lv_sub hl [1, 2, 0] rfl)
set_option maxHeartbeats 4000000 in
set_option maxRecDepth 100000 in
theorem wk_X7_lasts_42 {p : Program} {l : Launch} {e : Env} {s : State} {m : MethodId} {args : Array Value} {below : List Frame} {meth : Method} {c : Code} {dC : Nat → ClassId} {dI : Nat → Nat → Nat} {a : Nat → Nat} {ca : Nat → ClassId} {tb : Nat → Nat} {w0 : Cond} (S : CallFix p m c cX7_lasts 3 s args (w0 :: tWALL) RX7) (hr : meth.sig.returnType = (some .int)) (hlk : meth.locks = false) (E : tEnv 47 dC dI a ca tb s) (post : Int32 → tSt → Prop) : ∀ (x1 : Int32) (st : tSt), wp_T_lasts_42 post x1 st → tAt p l e rmX7_lasts s m args below meth c (dC, dI) (cwC a ca) (tA 47 a s.heap.size) (tQi (cwC a ca) 47 dC dI a args below s post) 3 42 [(0, .ref (a 0)), (1, .int x1)] [] st := by
  intro x1 st h H locs ls hP hS hl
  refine lv_iload_n (pc := 42) S.1 S.2.1 dX7_lasts_42 rfl (lv_at hl 1 rfl) ?_
  refine lv_if_ne (pc := 43) (tgt := 52) S.1 S.2.1 dX7_lasts_43 (by decide) (fun c1 => ?_) (fun c1 => ?_)
  · have h := h.2 c1
    refine lv_sipush (pc := 52) S.1 S.2.1 (v := 9999) dX7_lasts_52 (by decide) ?_
    refine lv_aload_n (pc := 55) S.1 S.2.1 dX7_lasts_55 rfl (lv_at hl 0 rfl) ?_
    refine tp_get (pc := 56) S E.1 hP iwX7 0 (cC_tp a ca st) rfl 11 (by decide) kw_335 (v := .int (st 3 0)) rfl dX7_lasts_56 ?_
    refine lv_iload_n (pc := 59) S.1 S.2.1 dX7_lasts_59 rfl (lv_at hl 1 rfl) ?_
    obtain ⟨hn2, h⟩ := h
    refine lv_idiv (pc := 60) S.1 S.2.1 dX7_lasts_60 hn2 ?_
    refine va_mmin (pc := 61) S.1 S.2.1 (by rw [hl.1]; exact S.2.2.1) S.2.2.2.1 (S.2.2.2.2 _ (List.mem_cons_of_mem _ kw_339)) (S.2.2.2.2 _ (List.mem_cons_of_mem _ kw_340)) (S.2.2.2.2 _ (List.mem_cons_of_mem _ kw_81)) (S.2.2.2.2 _ (List.mem_cons_of_mem _ kw_341)) (Nat.le_of_ble_eq_true rfl) (Nat.le_of_ble_eq_true rfl) (Nat.zero_le _) (Nat.zero_le _) dX7_lasts_61 ?_
    exact tRi S hr hlk hP hS h dX7_lasts_64
  · have h := h.1 c1
    refine lv_sipush (pc := 46) S.1 S.2.1 (v := 9999) dX7_lasts_46 (by decide) ?_
    refine lv_goto (pc := 49) S.1 S.2.1 (tgt := 64) dX7_lasts_49 (by decide) ?_
    exact tRi S hr hlk hP hS h dX7_lasts_64
set_option maxHeartbeats 4000000 in
set_option maxRecDepth 100000 in
theorem wk_X7_lasts_4 {p : Program} {l : Launch} {e : Env} {s : State} {m : MethodId} {args : Array Value} {below : List Frame} {meth : Method} {c : Code} {dC : Nat → ClassId} {dI : Nat → Nat → Nat} {a : Nat → Nat} {ca : Nat → ClassId} {tb : Nat → Nat} {w0 : Cond} (S : CallFix p m c cX7_lasts 3 s args (w0 :: tWALL) RX7) (hr : meth.sig.returnType = (some .int)) (hlk : meth.locks = false) (E : tEnv 47 dC dI a ca tb s) (post : Int32 → tSt → Prop) (k42 : Int32 → tSt → Prop) (hk42 : ∀ (x1 : Int32) (st : tSt), k42 x1 st → tAt p l e rmX7_lasts s m args below meth c (dC, dI) (cwC a ca) (tA 47 a s.heap.size) (tQi (cwC a ca) 47 dC dI a args below s post) 3 42 [(0, .ref (a 0)), (1, .int x1)] [] st) : ∀ (n : Nat) (x1 : Int32) (x2 : Int32) (st : tSt), wp_T_lasts_4 post k42 n x1 x2 st → tAt p l e rmX7_lasts s m args below meth c (dC, dI) (cwC a ca) (tA 47 a s.heap.size) (tQi (cwC a ca) 47 dC dI a args below s post) 3 4 [(0, .ref (a 0)), (1, .int x1), (2, .int x2)] [] st := by
  intro n
  induction n with
  | zero => intro x1 x2 st h; exact absurd h id
  | succ n ih =>
    intro x1 x2 st h H locs ls hP hS hl
    refine lv_iload_n (pc := 4) S.1 S.2.1 dX7_lasts_4 rfl (lv_at hl 2 rfl) ?_
    refine lv_aload_n (pc := 5) S.1 S.2.1 dX7_lasts_5 rfl (lv_at hl 0 rfl) ?_
    refine tp_get (pc := 6) S E.1 hP iwX7 0 (cC_tp a ca st) rfl 8 (by decide) kw_242 (v := .int (st 0 0)) rfl dX7_lasts_6 ?_
    refine lv_icmp_ge (pc := 9) (tgt := 42) S.1 S.2.1 dX7_lasts_9 (by decide) (fun c1 => ?_) (fun c1 => ?_)
    · have h := h.1 c1
      exact hk42 x1 st h _ _ _ hP hS (lv_sub hl [0, 1] rfl)
    · have h := h.2 c1
      refine lv_aload_n (pc := 12) S.1 S.2.1 dX7_lasts_12 rfl (lv_at hl 0 rfl) ?_
      refine tp_get (pc := 13) S E.1 hP iwX7 0 (cC_tp a ca st) rfl 2 (by decide) kw_244 (v := .ref (a 6)) rfl dX7_lasts_13 ?_
      refine lv_iload_n (pc := 16) S.1 S.2.1 dX7_lasts_16 rfl (lv_at hl 2 rfl) ?_
      obtain ⟨hn2, h⟩ := h
      refine tp_aald (pc := 17) S E.1 hP 6 1 (cC_pipersA a ca st) rfl (j := x2.toNatClampNeg) (d := a (7 + x2.toNatClampNeg)) rfl rfl hn2 dX7_lasts_17 ?_
      have hj3 := t_lt hn2
      refine tp_getN (pc := 18) S E.2.1 E.1 hP iwX2 (7 + x2.toNatClampNeg) (cC_piper a ca st hj3) rfl 2 (by decide) kw_253 (v := .int (st 11 x2.toNatClampNeg)) rfl dX7_lasts_18 ?_
      refine lv_iconst (pc := 21) S.1 S.2.1 (v := 2) dX7_lasts_21 (by decide) ?_
      refine lv_icmp_ne (pc := 22) (tgt := 36) S.1 S.2.1 dX7_lasts_22 (by decide) (fun c4 => ?_) (fun c4 => ?_)
      · have h := h.2 c4
        exact (fun x1 x2 st h => wk_X7_lasts_36 S hr hlk E post (wp_T_lasts_4 post k42 n) ih k42 hk42 x1 x2 st h) x1 x2 st h _ _ _ hP hS (lv_sub hl [0, 1, 2] rfl)
      · have h := h.1 c4
        refine lv_iload_n (pc := 25) S.1 S.2.1 dX7_lasts_25 rfl (lv_at hl 1 rfl) ?_
        refine lv_aload_n (pc := 26) S.1 S.2.1 dX7_lasts_26 rfl (lv_at hl 0 rfl) ?_
        refine tp_get (pc := 27) S E.1 hP iwX7 0 (cC_tp a ca st) rfl 1 (by decide) kw_233 (v := .ref (a 3)) rfl dX7_lasts_27 ?_
        refine lv_iconst (pc := 30) S.1 S.2.1 (v := 2) dX7_lasts_30 (by decide) ?_
        refine tGi hS (tRunV (pc := 31) (As := [.int (2 : Int32)]) (rest := [.int x1]) S E hP hS (mt_X5_number l dC dI a ca tb _ (2 : Int32) st _ h) (cw_X5_number ⟨Nat.le_of_ble_eq_true rfl, Nat.le_of_ble_eq_true rfl⟩) kw_282 kw_283 kw_284 3 5 rfl rfl (cC_tw a ca st) rfl hl.1 rfl (Nat.le_of_ble_eq_true rfl) dX7_lasts_31) (fun r2 st1 H locs h hP hS => ?_)
        refine lv_iadd (pc := 34) S.1 S.2.1 dX7_lasts_34 ?_
        refine lv_topi (fun y1_3 e5 => ?_)
        have h := h y1_3 e5
        refine lv_istore_n (pc := 35) S.1 S.2.1 (lv' := [(1, .int y1_3), (0, .ref (a 0)), (2, .int x2)]) dX7_lasts_35 rfl hl (by decide) rfl (fun ls hl => ?_)
        exact (fun x1 x2 st h => wk_X7_lasts_36 S hr hlk E post (wp_T_lasts_4 post k42 n) ih k42 hk42 x1 x2 st h) y1_3 x2 st1 h _ _ _ hP hS (lv_sub hl [1, 0, 2] rfl)
set_option maxHeartbeats 4000000 in
set_option maxRecDepth 100000 in
theorem mt_X7_lasts (l : Launch) (dC : Nat → ClassId) (dI : Nat → Nat → Nat) (a : Nat → Nat) (ca : Nat → ClassId) (tb : Nat → Nat) (sz : Nat) (st : tSt) (post : Int32 → tSt → Prop) (h : wp_T_lasts  st post) : Met l yX7_lasts (.code yX7_lasts cX7_lasts 3 (some .int) :: tWALL) rmX7_lasts (va_Pc [.ref (a 0)] (tPre 47 (cwC a ca) dC dI a ca tb sz st)) (va_Qi post (tB (cwC a ca) dC dI) (tA 47 a sz)) 0 0 (tA 47 a sz) := by
  refine tp_met (by decide) (Nat.le_of_ble_eq_true rfl) ?_
  intro p e s m below meth c ls S hr hlk hsz E hP hl
  subst hsz
  have S : CallFix p m c cX7_lasts 3 s _ (.code yX7_lasts cX7_lasts 3 (some .int) :: tWALL) RX7 := S
  have hl : lv_has ls 3 [(0, .ref (a 0))] := hl
  have hS : va_S (tA 47 a s.heap.size) s.heap s.heap [] := va_S.rf
  show W p l e _ s m _ below meth c s.heap [] 0 0 (tQi (cwC a ca) 47 dC dI a ([.ref (a 0)] : List Value).toArray below s post) (F0 m 0 ls [])
  refine lv_iconst (pc := 0) S.1 S.2.1 (v := 0) dX7_lasts_0 (by decide) ?_
  refine lv_istore_n (pc := 1) S.1 S.2.1 (lv' := [(1, .int (0 : Int32)), (0, .ref (a 0))]) dX7_lasts_1 rfl hl (by decide) rfl (fun ls hl => ?_)
  refine lv_iconst (pc := 2) S.1 S.2.1 (v := 0) dX7_lasts_2 (by decide) ?_
  refine lv_istore_n (pc := 3) S.1 S.2.1 (lv' := [(2, .int (0 : Int32)), (1, .int (0 : Int32)), (0, .ref (a 0))]) dX7_lasts_3 rfl hl (by decide) rfl (fun ls hl => ?_)
  exact (fun x1 x2 st h => Exists.elim h (fun q h => wk_X7_lasts_4 S hr hlk E post (wp_T_lasts_42 post) (fun x1 st h => wk_X7_lasts_42 S hr hlk E post  x1 st h) q x1 x2 st h)) (0 : Int32) (0 : Int32) st h _ _ _ hP hS (lv_sub hl [2, 1, 0] rfl)

abbrev rmX7_look : Room := { frames := 34, cells := 0, slots := 0, locals := 972 }
theorem cw_X7_look {R : Room} {own : String} {index : Nat} (h : rmX7_look.frames + 1 ≤ R.frames ∧ 8 + (3 + 11) + rmX7_look.locals ≤ R.locals) : tCw R own index yX7_look cX7_look 3 (some .int) rmX7_look 2 := ⟨kw_362, kw_6, ⟨rfl, rfl, h.1, h.2⟩, by decide +kernel, by decide +kernel, by decide +kernel⟩

set_option maxHeartbeats 4000000 in
set_option maxRecDepth 100000 in
theorem mt_X7_look (l : Launch) (dC : Nat → ClassId) (dI : Nat → Nat → Nat) (a : Nat → Nat) (ca : Nat → ClassId) (tb : Nat → Nat) (sz : Nat) (x1 : Int32) (x2 : Int32) (st : tSt) (post : Int32 → tSt → Prop) (h : wp_T_look x1 x2 st post) : Met l yX7_look (.code yX7_look cX7_look 3 (some .int) :: tWALL) rmX7_look (va_Pc [.ref (a 0), .int x1, .int x2] (tPre 47 (cwC a ca) dC dI a ca tb sz st)) (va_Qi post (tB (cwC a ca) dC dI) (tA 47 a sz)) 0 0 (tA 47 a sz) := by
  refine tp_met (by decide) (Nat.le_of_ble_eq_true rfl) ?_
  intro p e s m below meth c ls S hr hlk hsz E hP hl
  subst hsz
  have S : CallFix p m c cX7_look 3 s _ (.code yX7_look cX7_look 3 (some .int) :: tWALL) RX7 := S
  have hl : lv_has ls 3 [(0, .ref (a 0)), (1, .int x1), (2, .int x2)] := hl
  have hS : va_S (tA 47 a s.heap.size) s.heap s.heap [] := va_S.rf
  show W p l e _ s m _ below meth c s.heap [] 0 0 (tQi (cwC a ca) 47 dC dI a ([.ref (a 0), .int x1, .int x2] : List Value).toArray below s post) (F0 m 0 ls [])
  refine lv_aload_n (pc := 0) S.1 S.2.1 dX7_look_0 rfl (lv_at hl 0 rfl) ?_
  refine lv_iload_n (pc := 1) S.1 S.2.1 dX7_look_1 rfl (lv_at hl 1 rfl) ?_
  refine tGi hS (tRunV (pc := 2) (As := [.int x1]) (rest := []) S E hP hS (mt_X7_isPiper l dC dI a ca tb _ x1 st _ h) (cw_X7_isPiper ⟨Nat.le_of_ble_eq_true rfl, Nat.le_of_ble_eq_true rfl⟩) kw_250 kw_251 kw_252 0 7 rfl rfl (cC_tp a ca st) rfl hl.1 rfl (Nat.le_of_ble_eq_true rfl) dX7_look_2) (fun r2 st1 H locs h hP hS => ?_)
  refine lv_if_ne (pc := 5) (tgt := 10) S.1 S.2.1 dX7_look_5 (by decide) (fun c1 => ?_) (fun c1 => ?_)
  · have h := h.2 c1
    refine lv_iload_n (pc := 10) S.1 S.2.1 dX7_look_10 rfl (lv_at hl 2 rfl) ?_
    by_cases c2 : x2 = 0
    · have h := h.1 c2
      refine lv_tableIn (pc := 11) (tgt := 40) S.1 S.2.1 dX7_look_11 (by rw [c2]; decide) (by rw [c2]; decide) (by rw [c2]; rfl) (by decide) ?_
      refine lv_aload_n (pc := 40) S.1 S.2.1 dX7_look_40 rfl (lv_at hl 0 rfl) ?_
      refine tp_get (pc := 41) S E.1 hP iwX7 0 (cC_tp a ca st1) rfl 2 (by decide) kw_244 (v := .ref (a 6)) rfl dX7_look_41 ?_
      refine lv_iload_n (pc := 44) S.1 S.2.1 dX7_look_44 rfl (lv_at hl 1 rfl) ?_
      obtain ⟨hn3, h⟩ := h
      refine tp_aald (pc := 45) S E.1 hP 6 1 (cC_pipersA a ca st1) rfl (j := x1.toNatClampNeg) (d := a (7 + x1.toNatClampNeg)) rfl rfl hn3 dX7_look_45 ?_
      have hj4 := t_lt hn3
      refine tp_getN (pc := 46) S E.2.1 E.1 hP iwX2 (7 + x1.toNatClampNeg) (cC_piper a ca st1 hj4) rfl 0 (by decide) kw_318 (v := .int (st1 9 x1.toNatClampNeg)) rfl dX7_look_46 ?_
      exact tRi S hr hlk hP hS h dX7_look_49
    have h := h.2 c2
    by_cases c5 : x2 = 1
    · have h := h.1 c5
      refine lv_tableIn (pc := 11) (tgt := 50) S.1 S.2.1 dX7_look_11 (by rw [c5]; decide) (by rw [c5]; decide) (by rw [c5]; rfl) (by decide) ?_
      refine lv_aload_n (pc := 50) S.1 S.2.1 dX7_look_50 rfl (lv_at hl 0 rfl) ?_
      refine tp_get (pc := 51) S E.1 hP iwX7 0 (cC_tp a ca st1) rfl 2 (by decide) kw_244 (v := .ref (a 6)) rfl dX7_look_51 ?_
      refine lv_iload_n (pc := 54) S.1 S.2.1 dX7_look_54 rfl (lv_at hl 1 rfl) ?_
      obtain ⟨hn6, h⟩ := h
      refine tp_aald (pc := 55) S E.1 hP 6 1 (cC_pipersA a ca st1) rfl (j := x1.toNatClampNeg) (d := a (7 + x1.toNatClampNeg)) rfl rfl hn6 dX7_look_55 ?_
      have hj7 := t_lt hn6
      refine tp_getN (pc := 56) S E.2.1 E.1 hP iwX2 (7 + x1.toNatClampNeg) (cC_piper a ca st1 hj7) rfl 1 (by decide) kw_358 (v := .int (st1 10 x1.toNatClampNeg)) rfl dX7_look_56 ?_
      exact tRi S hr hlk hP hS h dX7_look_59
    have h := h.2 c5
    by_cases c8 : x2 = 2
    · have h := h.1 c8
      refine lv_tableIn (pc := 11) (tgt := 60) S.1 S.2.1 dX7_look_11 (by rw [c8]; decide) (by rw [c8]; decide) (by rw [c8]; rfl) (by decide) ?_
      refine lv_aload_n (pc := 60) S.1 S.2.1 dX7_look_60 rfl (lv_at hl 0 rfl) ?_
      refine tp_get (pc := 61) S E.1 hP iwX7 0 (cC_tp a ca st1) rfl 2 (by decide) kw_244 (v := .ref (a 6)) rfl dX7_look_61 ?_
      refine lv_iload_n (pc := 64) S.1 S.2.1 dX7_look_64 rfl (lv_at hl 1 rfl) ?_
      obtain ⟨hn9, h⟩ := h
      refine tp_aald (pc := 65) S E.1 hP 6 1 (cC_pipersA a ca st1) rfl (j := x1.toNatClampNeg) (d := a (7 + x1.toNatClampNeg)) rfl rfl hn9 dX7_look_65 ?_
      have hj10 := t_lt hn9
      refine tp_getN (pc := 66) S E.2.1 E.1 hP iwX2 (7 + x1.toNatClampNeg) (cC_piper a ca st1 hj10) rfl 2 (by decide) kw_253 (v := .int (st1 11 x1.toNatClampNeg)) rfl dX7_look_66 ?_
      exact tRi S hr hlk hP hS h dX7_look_69
    have h := h.2 c8
    by_cases c11 : x2 = 3
    · have h := h.1 c11
      refine lv_tableIn (pc := 11) (tgt := 70) S.1 S.2.1 dX7_look_11 (by rw [c11]; decide) (by rw [c11]; decide) (by rw [c11]; rfl) (by decide) ?_
      refine lv_aload_n (pc := 70) S.1 S.2.1 dX7_look_70 rfl (lv_at hl 0 rfl) ?_
      refine tGr hS (tRunV (pc := 71) (As := []) (rest := []) S E hP hS (mt_X7_planOfToday l dC dI a ca tb _  st1 _ h) (cw_X7_planOfToday ⟨Nat.le_of_ble_eq_true rfl, Nat.le_of_ble_eq_true rfl⟩) kw_296 kw_297 kw_298 0 7 rfl rfl (cC_tp a ca st1) rfl hl.1 rfl (Nat.le_of_ble_eq_true rfl) dX7_look_71) (fun st3 H locs h hP hS => ?_)
      refine lv_iload_n (pc := 74) S.1 S.2.1 dX7_look_74 rfl (lv_at hl 1 rfl) ?_
      refine tGi hS (tRunV (pc := 75) (As := [.int x1]) (rest := []) S E hP hS (mt_X3_partsOf l dC dI a ca tb _ x1 st3 _ h) (cw_X3_partsOf ⟨Nat.le_of_ble_eq_true rfl, Nat.le_of_ble_eq_true rfl⟩) kw_359 kw_360 kw_361 39 3 rfl rfl (cC_plan a ca st3) rfl hl.1 rfl (Nat.le_of_ble_eq_true rfl) dX7_look_75) (fun r5 st4 H locs h hP hS => ?_)
      exact tRi S hr hlk hP hS h dX7_look_78
    have h := h.2 c11
    refine lv_tableOut (pc := 11) (tgt := 79) S.1 S.2.1 dX7_look_11 (by have := lv_neT (a := 0) c2 rfl; have := lv_neT (a := 1) c5 rfl; have := lv_neT (a := 2) c8 rfl; have := lv_neT (a := 3) c11 rfl; omega) (by decide) ?_
    refine lv_iconst (pc := 79) S.1 S.2.1 (v := (-1)) dX7_look_79 (by decide) ?_
    exact tRi S hr hlk hP hS h dX7_look_80
  · have h := h.1 c1
    refine lv_iconst (pc := 8) S.1 S.2.1 (v := (-1)) dX7_look_8 (by decide) ?_
    exact tRi S hr hlk hP hS h dX7_look_9

abbrev rmX7_wages : Room := { frames := 2, cells := 0, slots := 0, locals := 43 }
theorem cw_X7_wages {R : Room} {own : String} {index : Nat} (h : rmX7_wages.frames + 1 ≤ R.frames ∧ 8 + (2 + 11) + rmX7_wages.locals ≤ R.locals) : tCw R own index yX7_wages cX7_wages 2 (some .int) rmX7_wages 1 := ⟨kw_363, kw_6, ⟨rfl, rfl, h.1, h.2⟩, by decide +kernel, by decide +kernel, by decide +kernel⟩

set_option maxHeartbeats 4000000 in
set_option maxRecDepth 100000 in
theorem mt_X7_wages (l : Launch) (dC : Nat → ClassId) (dI : Nat → Nat → Nat) (a : Nat → Nat) (ca : Nat → ClassId) (tb : Nat → Nat) (sz : Nat) (x1 : Int32) (st : tSt) (post : Int32 → tSt → Prop) (h : wp_T_wages x1 st post) : Met l yX7_wages (.code yX7_wages cX7_wages 2 (some .int) :: tWALL) rmX7_wages (va_Pc [.ref (a 0), .int x1] (tPre 47 (cwC a ca) dC dI a ca tb sz st)) (va_Qi post (tB (cwC a ca) dC dI) (tA 47 a sz)) 0 0 (tA 47 a sz) := by
  refine tp_met (by decide) (Nat.le_of_ble_eq_true rfl) ?_
  intro p e s m below meth c ls S hr hlk hsz E hP hl
  subst hsz
  have S : CallFix p m c cX7_wages 2 s _ (.code yX7_wages cX7_wages 2 (some .int) :: tWALL) RX7 := S
  have hl : lv_has ls 2 [(0, .ref (a 0)), (1, .int x1)] := hl
  have hS : va_S (tA 47 a s.heap.size) s.heap s.heap [] := va_S.rf
  show W p l e _ s m _ below meth c s.heap [] 0 0 (tQi (cwC a ca) 47 dC dI a ([.ref (a 0), .int x1] : List Value).toArray below s post) (F0 m 0 ls [])
  refine lv_iload_n (pc := 0) S.1 S.2.1 dX7_wages_0 rfl (lv_at hl 1 rfl) ?_
  refine lv_iconst (pc := 1) S.1 S.2.1 (v := (-1)) dX7_wages_1 (by decide) ?_
  refine lv_icmp_ne (pc := 2) (tgt := 10) S.1 S.2.1 dX7_wages_2 (by decide) (fun c1 => ?_) (fun c1 => ?_)
  · have h := h.2 c1
    refine lv_aload_n (pc := 10) S.1 S.2.1 dX7_wages_10 rfl (lv_at hl 0 rfl) ?_
    refine lv_iload_n (pc := 11) S.1 S.2.1 dX7_wages_11 rfl (lv_at hl 1 rfl) ?_
    refine tGi hS (tRunV (pc := 12) (As := [.int x1]) (rest := []) S E hP hS (mt_X7_isPiper l dC dI a ca tb _ x1 st _ h) (cw_X7_isPiper ⟨Nat.le_of_ble_eq_true rfl, Nat.le_of_ble_eq_true rfl⟩) kw_250 kw_251 kw_252 0 7 rfl rfl (cC_tp a ca st) rfl hl.1 rfl (Nat.le_of_ble_eq_true rfl) dX7_wages_12) (fun r2 st1 H locs h hP hS => ?_)
    refine lv_if_eq (pc := 15) (tgt := 30) S.1 S.2.1 dX7_wages_15 (by decide) (fun c2 => ?_) (fun c2 => ?_)
    · have h := h.1 c2
      refine lv_iconst (pc := 30) S.1 S.2.1 (v := 0) dX7_wages_30 (by decide) ?_
      exact tRi S hr hlk hP hS h dX7_wages_31
    · have h := h.2 c2
      refine lv_aload_n (pc := 18) S.1 S.2.1 dX7_wages_18 rfl (lv_at hl 0 rfl) ?_
      refine tp_get (pc := 19) S E.1 hP iwX7 0 (cC_tp a ca st1) rfl 2 (by decide) kw_244 (v := .ref (a 6)) rfl dX7_wages_19 ?_
      refine lv_iload_n (pc := 22) S.1 S.2.1 dX7_wages_22 rfl (lv_at hl 1 rfl) ?_
      obtain ⟨hn3, h⟩ := h
      refine tp_aald (pc := 23) S E.1 hP 6 1 (cC_pipersA a ca st1) rfl (j := x1.toNatClampNeg) (d := a (7 + x1.toNatClampNeg)) rfl rfl hn3 dX7_wages_23 ?_
      have hj4 := t_lt hn3
      refine tp_getN (pc := 24) S E.2.1 E.1 hP iwX2 (7 + x1.toNatClampNeg) (cC_piper a ca st1 hj4) rfl 3 (by decide) kw_336 (v := .int (st1 12 x1.toNatClampNeg)) rfl dX7_wages_24 ?_
      refine lv_goto (pc := 27) S.1 S.2.1 (tgt := 31) dX7_wages_27 (by decide) ?_
      exact tRi S hr hlk hP hS h dX7_wages_31
  · have h := h.1 c1
    refine lv_aload_n (pc := 5) S.1 S.2.1 dX7_wages_5 rfl (lv_at hl 0 rfl) ?_
    refine tp_get (pc := 6) S E.1 hP iwX7 0 (cC_tp a ca st) rfl 11 (by decide) kw_335 (v := .int (st 3 0)) rfl dX7_wages_6 ?_
    exact tRi S hr hlk hP hS h dX7_wages_9

abbrev rmX7_about : Room := { frames := 2, cells := 0, slots := 0, locals := 43 }
theorem cw_X7_about {R : Room} {own : String} {index : Nat} (h : rmX7_about.frames + 1 ≤ R.frames ∧ 8 + (3 + 11) + rmX7_about.locals ≤ R.locals) : tCw R own index yX7_about cX7_about 3 (some .int) rmX7_about 2 := ⟨kw_364, kw_6, ⟨rfl, rfl, h.1, h.2⟩, by decide +kernel, by decide +kernel, by decide +kernel⟩

set_option maxHeartbeats 4000000 in
set_option maxRecDepth 100000 in
theorem mt_X7_about (l : Launch) (dC : Nat → ClassId) (dI : Nat → Nat → Nat) (a : Nat → Nat) (ca : Nat → ClassId) (tb : Nat → Nat) (sz : Nat) (x1 : Int32) (x2 : Int32) (st : tSt) (post : Int32 → tSt → Prop) (h : wp_T_about x1 x2 st post) : Met l yX7_about (.code yX7_about cX7_about 3 (some .int) :: tWALL) rmX7_about (va_Pc [.ref (a 0), .int x1, .int x2] (tPre 47 (cwC a ca) dC dI a ca tb sz st)) (va_Qi post (tB (cwC a ca) dC dI) (tA 47 a sz)) 0 0 (tA 47 a sz) := by
  refine tp_met (by decide) (Nat.le_of_ble_eq_true rfl) ?_
  intro p e s m below meth c ls S hr hlk hsz E hP hl
  subst hsz
  have S : CallFix p m c cX7_about 3 s _ (.code yX7_about cX7_about 3 (some .int) :: tWALL) RX7 := S
  have hl : lv_has ls 3 [(0, .ref (a 0)), (1, .int x1), (2, .int x2)] := hl
  have hS : va_S (tA 47 a s.heap.size) s.heap s.heap [] := va_S.rf
  show W p l e _ s m _ below meth c s.heap [] 0 0 (tQi (cwC a ca) 47 dC dI a ([.ref (a 0), .int x1, .int x2] : List Value).toArray below s post) (F0 m 0 ls [])
  refine lv_aload_n (pc := 0) S.1 S.2.1 dX7_about_0 rfl (lv_at hl 0 rfl) ?_
  refine lv_iload_n (pc := 1) S.1 S.2.1 dX7_about_1 rfl (lv_at hl 1 rfl) ?_
  refine tGi hS (tRunV (pc := 2) (As := [.int x1]) (rest := []) S E hP hS (mt_X7_isCall l dC dI a ca tb _ x1 st _ h) (cw_X7_isCall ⟨Nat.le_of_ble_eq_true rfl, Nat.le_of_ble_eq_true rfl⟩) kw_272 kw_273 kw_274 0 7 rfl rfl (cC_tp a ca st) rfl hl.1 rfl (Nat.le_of_ble_eq_true rfl) dX7_about_2) (fun r2 st1 H locs h hP hS => ?_)
  refine lv_if_eq (pc := 5) (tgt := 31) S.1 S.2.1 dX7_about_5 (by decide) (fun c1 => ?_) (fun c1 => ?_)
  · have h := h.1 c1
    refine lv_iconst (pc := 31) S.1 S.2.1 (v := (-1)) dX7_about_31 (by decide) ?_
    exact tRi S hr hlk hP hS h dX7_about_32
  · have h := h.2 c1
    refine lv_iload_n (pc := 8) S.1 S.2.1 dX7_about_8 rfl (lv_at hl 2 rfl) ?_
    refine lv_iconst (pc := 9) S.1 S.2.1 (v := 0) dX7_about_9 (by decide) ?_
    refine lv_bipush (pc := 10) S.1 S.2.1 (v := 7) dX7_about_10 (by decide) ?_
    refine tGi hS (tRunS (pc := 12) (As := [.int x2, .int (0 : Int32), .int (7 : Int32)]) (rest := []) S E hP hS (mt_X7_within l dC dI a ca tb _ x2 (0 : Int32) (7 : Int32) st1 _ h) (cw_X7_within ⟨Nat.le_of_ble_eq_true rfl, Nat.le_of_ble_eq_true rfl⟩) kw_243 kw_8 rfl hl.1 rfl (Nat.le_of_ble_eq_true rfl) dX7_about_12) (fun r4 st3 H locs h hP hS => ?_)
    refine lv_if_eq (pc := 15) (tgt := 31) S.1 S.2.1 dX7_about_15 (by decide) (fun c2 => ?_) (fun c2 => ?_)
    · have h := h.1 c2
      refine lv_iconst (pc := 31) S.1 S.2.1 (v := (-1)) dX7_about_31 (by decide) ?_
      exact tRi S hr hlk hP hS h dX7_about_32
    · have h := h.2 c2
      refine lv_aload_n (pc := 18) S.1 S.2.1 dX7_about_18 rfl (lv_at hl 0 rfl) ?_
      refine tp_get (pc := 19) S E.1 hP iwX7 0 (cC_tp a ca st3) rfl 3 (by decide) kw_258 (v := .ref (a 13)) rfl dX7_about_19 ?_
      refine lv_iload_n (pc := 22) S.1 S.2.1 dX7_about_22 rfl (lv_at hl 1 rfl) ?_
      obtain ⟨hn3, h⟩ := h
      refine tp_aald (pc := 23) S E.1 hP 13 2 (cC_callsA a ca st3) rfl (j := x1.toNatClampNeg) (d := a (14 + x1.toNatClampNeg)) rfl rfl hn3 dX7_about_23 ?_
      have hj4 := t_lt hn3
      refine lv_iload_n (pc := 24) S.1 S.2.1 dX7_about_24 rfl (lv_at hl 2 rfl) ?_
      refine tGi hS (tRunV (pc := 25) (As := [.int x2]) (rest := []) S E hP hS (mt_X0_fact l dC dI a ca tb _ hj4 x2 st3 _ h) (cw_X0_fact ⟨Nat.le_of_ble_eq_true rfl, Nat.le_of_ble_eq_true rfl⟩) kw_316 kw_146 kw_147 (14 + x1.toNatClampNeg) 0 rfl rfl (cC_call a ca st3 hj4) rfl hl.1 rfl (Nat.le_of_ble_eq_true rfl) dX7_about_25) (fun r6 st5 H locs h hP hS => ?_)
      refine lv_goto (pc := 28) S.1 S.2.1 (tgt := 32) dX7_about_28 (by decide) ?_
      exact tRi S hr hlk hP hS h dX7_about_32

abbrev rmX7_callCount : Room := { frames := 0, cells := 0, slots := 0, locals := 0 }
theorem cw_X7_callCount {R : Room} {own : String} {index : Nat} (h : rmX7_callCount.frames + 1 ≤ R.frames ∧ 8 + (3 + 11) + rmX7_callCount.locals ≤ R.locals) : tCw R own index yX7_callCount cX7_callCount 3 (some .int) rmX7_callCount 0 := ⟨kw_365, kw_6, ⟨rfl, rfl, h.1, h.2⟩, by decide +kernel, by decide +kernel, by decide +kernel⟩
set_option maxHeartbeats 4000000 in
set_option maxRecDepth 100000 in
theorem wk_X7_callCount_25 {p : Program} {l : Launch} {e : Env} {s : State} {m : MethodId} {args : Array Value} {below : List Frame} {meth : Method} {c : Code} {dC : Nat → ClassId} {dI : Nat → Nat → Nat} {a : Nat → Nat} {ca : Nat → ClassId} {tb : Nat → Nat} {w0 : Cond} (S : CallFix p m c cX7_callCount 3 s args (w0 :: tWALL) RX7) (hr : meth.sig.returnType = (some .int)) (hlk : meth.locks = false) (E : tEnv 47 dC dI a ca tb s) (post : Int32 → tSt → Prop) (k4 : Int32 → Int32 → tSt → Prop) (hk4 : ∀ (x1 : Int32) (x2 : Int32) (st : tSt), k4 x1 x2 st → tAt p l e rmX7_callCount s m args below meth c (dC, dI) (cwC a ca) (tA 47 a s.heap.size) (tQi (cwC a ca) 47 dC dI a args below s post) 3 4 [(0, .ref (a 0)), (1, .int x1), (2, .int x2)] [] st) : ∀ (x1 : Int32) (x2 : Int32) (st : tSt), wp_T_callCount_25 post k4 x1 x2 st → tAt p l e rmX7_callCount s m args below meth c (dC, dI) (cwC a ca) (tA 47 a s.heap.size) (tQi (cwC a ca) 47 dC dI a args below s post) 3 25 [(0, .ref (a 0)), (1, .int x1), (2, .int x2)] [] st := by
  intro x1 x2 st h H locs ls hP hS hl
  obtain ⟨y2_1, e1⟩ : ∃ y : Int32, y = x2 + 1 := ⟨_, rfl⟩
  have h := h y2_1 e1
  refine lv_iinc (pc := 25) S.1 S.2.1 (v := y2_1) (lv' := [(2, .int y2_1), (0, .ref (a 0)), (1, .int x1)]) dX7_callCount_25 hl (k := 2) rfl (by rw [e1]; rfl) (by decide) rfl (fun ls hl => ?_)
  refine lv_goto (pc := 28) S.1 S.2.1 (tgt := 4) dX7_callCount_28 (by decide) ?_
  exact hk4 x1 y2_1 st h _ _ _ hP hS (lv_sub hl [1, 2, 0] rfl)
set_option maxHeartbeats 4000000 in
set_option maxRecDepth 100000 in
theorem wk_X7_callCount_4 {p : Program} {l : Launch} {e : Env} {s : State} {m : MethodId} {args : Array Value} {below : List Frame} {meth : Method} {c : Code} {dC : Nat → ClassId} {dI : Nat → Nat → Nat} {a : Nat → Nat} {ca : Nat → ClassId} {tb : Nat → Nat} {w0 : Cond} (S : CallFix p m c cX7_callCount 3 s args (w0 :: tWALL) RX7) (hr : meth.sig.returnType = (some .int)) (hlk : meth.locks = false) (E : tEnv 47 dC dI a ca tb s) (post : Int32 → tSt → Prop) : ∀ (n : Nat) (x1 : Int32) (x2 : Int32) (st : tSt), wp_T_callCount_4 post n x1 x2 st → tAt p l e rmX7_callCount s m args below meth c (dC, dI) (cwC a ca) (tA 47 a s.heap.size) (tQi (cwC a ca) 47 dC dI a args below s post) 3 4 [(0, .ref (a 0)), (1, .int x1), (2, .int x2)] [] st := by
  intro n
  induction n with
  | zero => intro x1 x2 st h; exact absurd h id
  | succ n ih =>
    intro x1 x2 st h H locs ls hP hS hl
    refine lv_iload_n (pc := 4) S.1 S.2.1 dX7_callCount_4 rfl (lv_at hl 2 rfl) ?_
    refine lv_bipush (pc := 5) S.1 S.2.1 (v := 6) dX7_callCount_5 (by decide) ?_
    refine lv_icmp_ge (pc := 7) (tgt := 31) S.1 S.2.1 dX7_callCount_7 (by decide) (fun c1 => ?_) (fun c1 => ?_)
    · have h := h.1 c1
      refine lv_iload_n (pc := 31) S.1 S.2.1 dX7_callCount_31 rfl (lv_at hl 1 rfl) ?_
      exact tRi S hr hlk hP hS h dX7_callCount_32
    · have h := h.2 c1
      refine lv_aload_n (pc := 10) S.1 S.2.1 dX7_callCount_10 rfl (lv_at hl 0 rfl) ?_
      refine tp_get (pc := 11) S E.1 hP iwX7 0 (cC_tp a ca st) rfl 3 (by decide) kw_258 (v := .ref (a 13)) rfl dX7_callCount_11 ?_
      refine lv_iload_n (pc := 14) S.1 S.2.1 dX7_callCount_14 rfl (lv_at hl 2 rfl) ?_
      obtain ⟨hn2, h⟩ := h
      refine tp_aald (pc := 15) S E.1 hP 13 2 (cC_callsA a ca st) rfl (j := x2.toNatClampNeg) (d := a (14 + x2.toNatClampNeg)) rfl rfl hn2 dX7_callCount_15 ?_
      have hj3 := t_lt hn2
      refine tp_getN (pc := 16) S E.2.1 E.1 hP iwX0 (14 + x2.toNatClampNeg) (cC_call a ca st hj3) rfl 1 (by decide) kw_259 (v := .int (st 13 x2.toNatClampNeg)) rfl dX7_callCount_16 ?_
      refine lv_if_eq (pc := 19) (tgt := 25) S.1 S.2.1 dX7_callCount_19 (by decide) (fun c4 => ?_) (fun c4 => ?_)
      · have h := h.1 c4
        exact (fun x1 x2 st h => wk_X7_callCount_25 S hr hlk E post (wp_T_callCount_4 post n) ih x1 x2 st h) x1 x2 st h _ _ _ hP hS (lv_sub hl [0, 1, 2] rfl)
      · have h := h.2 c4
        obtain ⟨y1_1, e5⟩ : ∃ y : Int32, y = x1 + 1 := ⟨_, rfl⟩
        have h := h y1_1 e5
        refine lv_iinc (pc := 22) S.1 S.2.1 (v := y1_1) (lv' := [(1, .int y1_1), (0, .ref (a 0)), (2, .int x2)]) dX7_callCount_22 hl (k := 1) rfl (by rw [e5]; rfl) (by decide) rfl (fun ls hl => ?_)
        exact (fun x1 x2 st h => wk_X7_callCount_25 S hr hlk E post (wp_T_callCount_4 post n) ih x1 x2 st h) y1_1 x2 st h _ _ _ hP hS (lv_sub hl [1, 0, 2] rfl)
set_option maxHeartbeats 4000000 in
set_option maxRecDepth 100000 in
theorem mt_X7_callCount (l : Launch) (dC : Nat → ClassId) (dI : Nat → Nat → Nat) (a : Nat → Nat) (ca : Nat → ClassId) (tb : Nat → Nat) (sz : Nat) (st : tSt) (post : Int32 → tSt → Prop) (h : wp_T_callCount  st post) : Met l yX7_callCount (.code yX7_callCount cX7_callCount 3 (some .int) :: tWALL) rmX7_callCount (va_Pc [.ref (a 0)] (tPre 47 (cwC a ca) dC dI a ca tb sz st)) (va_Qi post (tB (cwC a ca) dC dI) (tA 47 a sz)) 0 0 (tA 47 a sz) := by
  refine tp_met (by decide) (Nat.le_of_ble_eq_true rfl) ?_
  intro p e s m below meth c ls S hr hlk hsz E hP hl
  subst hsz
  have S : CallFix p m c cX7_callCount 3 s _ (.code yX7_callCount cX7_callCount 3 (some .int) :: tWALL) RX7 := S
  have hl : lv_has ls 3 [(0, .ref (a 0))] := hl
  have hS : va_S (tA 47 a s.heap.size) s.heap s.heap [] := va_S.rf
  show W p l e _ s m _ below meth c s.heap [] 0 0 (tQi (cwC a ca) 47 dC dI a ([.ref (a 0)] : List Value).toArray below s post) (F0 m 0 ls [])
  refine lv_iconst (pc := 0) S.1 S.2.1 (v := 0) dX7_callCount_0 (by decide) ?_
  refine lv_istore_n (pc := 1) S.1 S.2.1 (lv' := [(1, .int (0 : Int32)), (0, .ref (a 0))]) dX7_callCount_1 rfl hl (by decide) rfl (fun ls hl => ?_)
  refine lv_iconst (pc := 2) S.1 S.2.1 (v := 0) dX7_callCount_2 (by decide) ?_
  refine lv_istore_n (pc := 3) S.1 S.2.1 (lv' := [(2, .int (0 : Int32)), (1, .int (0 : Int32)), (0, .ref (a 0))]) dX7_callCount_3 rfl hl (by decide) rfl (fun ls hl => ?_)
  exact (fun x1 x2 st h => Exists.elim h (fun q h => wk_X7_callCount_4 S hr hlk E post  q x1 x2 st h)) (0 : Int32) (0 : Int32) st h _ _ _ hP hS (lv_sub hl [2, 1, 0] rfl)
