abbrev rmX8_fines : Room := { frames := 0, cells := 0, slots := 0, locals := 0 }
theorem cw_X8_fines {R : Room} {own : String} {index : Nat} (h : rmX8_fines.frames + 1 ≤ R.frames ∧ 8 + (2 + 11) + rmX8_fines.locals ≤ R.locals) : tCw R own index yX8_fines cX8_fines 2 none rmX8_fines 0 := ⟨kw_513, kw_373, ⟨rfl, rfl, h.1, h.2⟩, by decide +kernel, by decide +kernel, by decide +kernel⟩
set_option maxHeartbeats 4000000 in
set_option maxRecDepth 100000 in
theorem wk_X8_fines_52 {p : Program} {l : Launch} {e : Env} {s : State} {m : MethodId} {args : Array Value} {below : List Frame} {meth : Method} {c : Code} {dC : Nat → ClassId} {dI : Nat → Nat → Nat} {a : Nat → Nat} {ca : Nat → ClassId} {tb : Nat → Nat} {w0 : Cond} (S : CallFix p m c cX8_fines 2 s args (w0 :: tWALL) RX8) (hr : meth.sig.returnType = none) (hlk : meth.locks = false) (E : tEnv 21 dC dI a ca tb s) (post : tSt → Prop) (k2 : Int32 → tSt → Prop) (hk2 : ∀ (x1 : Int32) (st : tSt), k2 x1 st → tAt p l e rmX8_fines s m args below meth c (dC, dI) (cwM a ca) (tA 21 a s.heap.size) (tQv (cwM a ca) 21 dC dI a args below s post) 2 2 [(0, .ref (a 0)), (1, .int x1)] [] st) : ∀ (x1 : Int32) (st : tSt), wp_M_fines_52 post k2 x1 st → tAt p l e rmX8_fines s m args below meth c (dC, dI) (cwM a ca) (tA 21 a s.heap.size) (tQv (cwM a ca) 21 dC dI a args below s post) 2 52 [(0, .ref (a 0)), (1, .int x1)] [] st := by
  intro x1 st h H locs ls hP hS hl
  obtain ⟨y1_1, e1⟩ : ∃ y : Int32, y = x1 + 1 := ⟨_, rfl⟩
  have h := h y1_1 e1
  refine lv_iinc (pc := 52) S.1 S.2.1 (v := y1_1) (lv' := [(1, .int y1_1), (0, .ref (a 0))]) dX8_fines_52 hl (k := 1) rfl (by rw [e1]; rfl) (by decide) rfl (fun ls hl => ?_)
  refine lv_goto (pc := 55) S.1 S.2.1 (tgt := 2) dX8_fines_55 (by decide) ?_
  exact hk2 y1_1 st h _ _ _ hP hS (lv_sub hl [1, 0] rfl)
set_option maxHeartbeats 4000000 in
set_option maxRecDepth 100000 in
theorem wk_X8_fines_2 {p : Program} {l : Launch} {e : Env} {s : State} {m : MethodId} {args : Array Value} {below : List Frame} {meth : Method} {c : Code} {dC : Nat → ClassId} {dI : Nat → Nat → Nat} {a : Nat → Nat} {ca : Nat → ClassId} {tb : Nat → Nat} {w0 : Cond} (S : CallFix p m c cX8_fines 2 s args (w0 :: tWALL) RX8) (hr : meth.sig.returnType = none) (hlk : meth.locks = false) (E : tEnv 21 dC dI a ca tb s) (post : tSt → Prop) : ∀ (n : Nat) (x1 : Int32) (st : tSt), wp_M_fines_2 post n x1 st → tAt p l e rmX8_fines s m args below meth c (dC, dI) (cwM a ca) (tA 21 a s.heap.size) (tQv (cwM a ca) 21 dC dI a args below s post) 2 2 [(0, .ref (a 0)), (1, .int x1)] [] st := by
  intro n
  induction n with
  | zero => intro x1 st h; exact absurd h id
  | succ n ih =>
    intro x1 st h H locs ls hP hS hl
    refine lv_iload_n (pc := 2) S.1 S.2.1 dX8_fines_2 rfl (lv_at hl 1 rfl) ?_
    refine lv_aload_n (pc := 3) S.1 S.2.1 dX8_fines_3 rfl (lv_at hl 0 rfl) ?_
    refine tp_get (pc := 4) S E.1 hP iwX8 0 (cM_mo a ca st) rfl 3 (by decide) kw_405 (v := .int (st 2 0)) rfl dX8_fines_4 ?_
    refine lv_icmp_ge (pc := 7) (tgt := 58) S.1 S.2.1 dX8_fines_7 (by decide) (fun c1 => ?_) (fun c1 => ?_)
    · have h := h.1 c1
      exact tRv S hr hlk hP hS h dX8_fines_58
    · have h := h.2 c1
      refine lv_aload_n (pc := 10) S.1 S.2.1 dX8_fines_10 rfl (lv_at hl 0 rfl) ?_
      refine tp_get (pc := 11) S E.1 hP iwX8 0 (cM_mo a ca st) rfl 11 (by decide) kw_410 (v := .ref (a 6)) rfl dX8_fines_11 ?_
      refine lv_iload_n (pc := 14) S.1 S.2.1 dX8_fines_14 rfl (lv_at hl 1 rfl) ?_
      obtain ⟨hn2, h⟩ := h
      refine tp_iald (pc := 15) S E.1 hP 6 0 (cM_how a ca st) rfl (j := x1.toNatClampNeg) rfl hn2 dX8_fines_15 ?_
      refine lv_if_eq (pc := 16) (tgt := 22) S.1 S.2.1 dX8_fines_16 (by decide) (fun c3 => ?_) (fun c3 => ?_)
      · have h := h.1 c3
        refine lv_aload_n (pc := 22) S.1 S.2.1 dX8_fines_22 rfl (lv_at hl 0 rfl) ?_
        refine tp_get (pc := 23) S E.1 hP iwX8 0 (cM_mo a ca st) rfl 12 (by decide) kw_511 (v := .ref (a 7)) rfl dX8_fines_23 ?_
        refine lv_iload_n (pc := 26) S.1 S.2.1 dX8_fines_26 rfl (lv_at hl 1 rfl) ?_
        refine lv_dup2_11 (pc := 27) S.1 S.2.1 dX8_fines_27 rfl rfl ?_
        obtain ⟨hn4, h⟩ := h
        refine tp_iald (pc := 28) S E.1 hP 7 0 (cM_wages a ca st) rfl (j := x1.toNatClampNeg) rfl hn4 dX8_fines_28 ?_
        refine lv_aload_n (pc := 29) S.1 S.2.1 dX8_fines_29 rfl (lv_at hl 0 rfl) ?_
        refine tp_get (pc := 30) S E.1 hP iwX8 0 (cM_mo a ca st) rfl 7 (by decide) kw_400 (v := .ref (a 2)) rfl dX8_fines_30 ?_
        refine lv_iconst (pc := 33) S.1 S.2.1 (v := 3) dX8_fines_33 (by decide) ?_
        refine tp_iald (pc := 34) S E.1 hP 2 0 (cM_four a ca st (j := 0) (by decide)) rfl (j := 3) (by decide +kernel) (by decide +kernel : ¬ ((3 : Int32) < 0 ∨ 4 ≤ (3 : Int32).toNatClampNeg)) dX8_fines_34 ?_
        refine lv_isub (pc := 35) S.1 S.2.1 dX8_fines_35 ?_
        obtain ⟨hn5, h⟩ := h
        refine tp_iast (pc := 36) S E.1 hP (cM_D E st) hS 7 0 (cM_wages a ca st) rfl (j := x1.toNatClampNeg) rfl hn5 (sM_wages a ca st _ _) dX8_fines_36 (fun st1 H locs e6 hP hS => ?_)
        have h := h st1 e6
        refine lv_aload_n (pc := 37) S.1 S.2.1 dX8_fines_37 rfl (lv_at hl 0 rfl) ?_
        refine lv_dup (pc := 38) S.1 S.2.1 dX8_fines_38 rfl ?_
        refine tp_get (pc := 39) S E.1 hP iwX8 0 (cM_mo a ca st1) rfl 5 (by decide) kw_512 (v := .int (st1 4 0)) rfl dX8_fines_39 ?_
        refine lv_aload_n (pc := 42) S.1 S.2.1 dX8_fines_42 rfl (lv_at hl 0 rfl) ?_
        refine tp_get (pc := 43) S E.1 hP iwX8 0 (cM_mo a ca st1) rfl 7 (by decide) kw_400 (v := .ref (a 2)) rfl dX8_fines_43 ?_
        refine lv_iconst (pc := 46) S.1 S.2.1 (v := 3) dX8_fines_46 (by decide) ?_
        refine tp_iald (pc := 47) S E.1 hP 2 0 (cM_four a ca st1 (j := 0) (by decide)) rfl (j := 3) (by decide +kernel) (by decide +kernel : ¬ ((3 : Int32) < 0 ∨ 4 ≤ (3 : Int32).toNatClampNeg)) dX8_fines_47 ?_
        refine lv_iadd (pc := 48) S.1 S.2.1 dX8_fines_48 ?_
        refine tp_put (pc := 49) S E.1 hP (cM_D E st1) hS iwX8 tyX8 tyX8_ok nmX8 0 (cM_mo a ca st1) rfl 5 (by decide) kw_512 rfl (v := .int ((st1 4 0) + (st1 10 3))) (tyX8_ok 5 (by decide)) rfl rfl (Nat.le_of_ble_eq_true rfl) (sM_mo_fund a ca st1 _) dX8_fines_49 (fun st2 H locs e7 hP hS => ?_)
        have h := h st2 e7
        exact (fun x1 st h => wk_X8_fines_52 S hr hlk E post (wp_M_fines_2 post n) ih x1 st h) x1 st2 h _ _ _ hP hS (lv_sub hl [0, 1] rfl)
      · have h := h.2 c3
        refine lv_goto (pc := 19) S.1 S.2.1 (tgt := 52) dX8_fines_19 (by decide) ?_
        exact (fun x1 st h => wk_X8_fines_52 S hr hlk E post (wp_M_fines_2 post n) ih x1 st h) x1 st h _ _ _ hP hS (lv_sub hl [0, 1] rfl)
set_option maxHeartbeats 4000000 in
set_option maxRecDepth 100000 in
theorem mt_X8_fines (l : Launch) (dC : Nat → ClassId) (dI : Nat → Nat → Nat) (a : Nat → Nat) (ca : Nat → ClassId) (tb : Nat → Nat) (sz : Nat) (st : tSt) (post : tSt → Prop) (h : wp_M_fines  st post) : Met l yX8_fines (.code yX8_fines cX8_fines 2 none :: tWALL) rmX8_fines (va_Pc [.ref (a 0)] (tPre 21 (cwM a ca) dC dI a ca tb sz st)) (va_Qv post (tB (cwM a ca) dC dI) (tA 21 a sz)) 0 0 (tA 21 a sz) := by
  refine tp_met (by decide) (Nat.le_of_ble_eq_true rfl) ?_
  intro p e s m below meth c ls S hr hlk hsz E hP hl
  subst hsz
  have S : CallFix p m c cX8_fines 2 s _ (.code yX8_fines cX8_fines 2 none :: tWALL) RX8 := S
  have hl : lv_has ls 2 [(0, .ref (a 0))] := hl
  have hS : va_S (tA 21 a s.heap.size) s.heap s.heap [] := va_S.rf
  show W p l e _ s m _ below meth c s.heap [] 0 0 (tQv (cwM a ca) 21 dC dI a ([.ref (a 0)] : List Value).toArray below s post) (F0 m 0 ls [])
  refine lv_iconst (pc := 0) S.1 S.2.1 (v := 0) dX8_fines_0 (by decide) ?_
  refine lv_istore_n (pc := 1) S.1 S.2.1 (lv' := [(1, .int (0 : Int32)), (0, .ref (a 0))]) dX8_fines_1 rfl hl (by decide) rfl (fun ls hl => ?_)
  exact (fun x1 st h => Exists.elim h (fun q h => wk_X8_fines_2 S hr hlk E post  q x1 st h)) (0 : Int32) st h _ _ _ hP hS (lv_sub hl [1, 0] rfl)

abbrev rmX8_day : Room := { frames := 7, cells := 0, slots := 0, locals := 161 }
theorem cw_X8_day {R : Room} {own : String} {index : Nat} (h : rmX8_day.frames + 1 ≤ R.frames ∧ 8 + (4 + 11) + rmX8_day.locals ≤ R.locals) : tCw R own index yX8_day cX8_day 4 (some .int) rmX8_day 0 := ⟨kw_517, kw_373, ⟨rfl, rfl, h.1, h.2⟩, by decide +kernel, by decide +kernel, by decide +kernel⟩
set_option maxHeartbeats 4000000 in
set_option maxRecDepth 100000 in
theorem wk_X8_day_158 {p : Program} {l : Launch} {e : Env} {s : State} {m : MethodId} {args : Array Value} {below : List Frame} {meth : Method} {c : Code} {dC : Nat → ClassId} {dI : Nat → Nat → Nat} {a : Nat → Nat} {ca : Nat → ClassId} {tb : Nat → Nat} {w0 : Cond} (S : CallFix p m c cX8_day 4 s args (w0 :: tWALL) RX8) (hr : meth.sig.returnType = (some .int)) (hlk : meth.locks = false) (E : tEnv 21 dC dI a ca tb s) (post : Int32 → tSt → Prop) (k18 : Int32 → tSt → Prop) (hk18 : ∀ (x1 : Int32) (st : tSt), k18 x1 st → tAt p l e rmX8_day s m args below meth c (dC, dI) (cwM a ca) (tA 21 a s.heap.size) (tQi (cwM a ca) 21 dC dI a args below s post) 4 18 [(0, .ref (a 0)), (1, .int x1)] [] st) (k164 : tSt → Prop) (hk164 : ∀  (st : tSt), k164  st → tAt p l e rmX8_day s m args below meth c (dC, dI) (cwM a ca) (tA 21 a s.heap.size) (tQi (cwM a ca) 21 dC dI a args below s post) 4 164 [(0, .ref (a 0))] [] st) : ∀ (x1 : Int32) (st : tSt), wp_M_day_158 post k18 k164 x1 st → tAt p l e rmX8_day s m args below meth c (dC, dI) (cwM a ca) (tA 21 a s.heap.size) (tQi (cwM a ca) 21 dC dI a args below s post) 4 158 [(0, .ref (a 0)), (1, .int x1)] [] st := by
  intro x1 st h H locs ls hP hS hl
  obtain ⟨y1_1, e1⟩ : ∃ y : Int32, y = x1 + 1 := ⟨_, rfl⟩
  have h := h y1_1 e1
  refine lv_iinc (pc := 158) S.1 S.2.1 (v := y1_1) (lv' := [(1, .int y1_1), (0, .ref (a 0))]) dX8_day_158 hl (k := 1) rfl (by rw [e1]; rfl) (by decide) rfl (fun ls hl => ?_)
  refine lv_goto (pc := 161) S.1 S.2.1 (tgt := 18) dX8_day_161 (by decide) ?_
  exact hk18 y1_1 st h _ _ _ hP hS (lv_sub hl [1, 0] rfl)
set_option maxHeartbeats 4000000 in
set_option maxRecDepth 100000 in
theorem wk_X8_day_105 {p : Program} {l : Launch} {e : Env} {s : State} {m : MethodId} {args : Array Value} {below : List Frame} {meth : Method} {c : Code} {dC : Nat → ClassId} {dI : Nat → Nat → Nat} {a : Nat → Nat} {ca : Nat → ClassId} {tb : Nat → Nat} {w0 : Cond} (S : CallFix p m c cX8_day 4 s args (w0 :: tWALL) RX8) (hr : meth.sig.returnType = (some .int)) (hlk : meth.locks = false) (E : tEnv 21 dC dI a ca tb s) (post : Int32 → tSt → Prop) (k18 : Int32 → tSt → Prop) (hk18 : ∀ (x1 : Int32) (st : tSt), k18 x1 st → tAt p l e rmX8_day s m args below meth c (dC, dI) (cwM a ca) (tA 21 a s.heap.size) (tQi (cwM a ca) 21 dC dI a args below s post) 4 18 [(0, .ref (a 0)), (1, .int x1)] [] st) (k164 : tSt → Prop) (hk164 : ∀  (st : tSt), k164  st → tAt p l e rmX8_day s m args below meth c (dC, dI) (cwM a ca) (tA 21 a s.heap.size) (tQi (cwM a ca) 21 dC dI a args below s post) 4 164 [(0, .ref (a 0))] [] st) : ∀ (x1 : Int32) (x2 : Int32) (st : tSt), wp_M_day_105 post k18 k164 x1 x2 st → tAt p l e rmX8_day s m args below meth c (dC, dI) (cwM a ca) (tA 21 a s.heap.size) (tQi (cwM a ca) 21 dC dI a args below s post) 4 105 [(0, .ref (a 0)), (1, .int x1), (2, .int x2)] [] st := by
  intro x1 x2 st h H locs ls hP hS hl
  refine lv_aload_n (pc := 105) S.1 S.2.1 dX8_day_105 rfl (lv_at hl 0 rfl) ?_
  refine tp_get (pc := 106) S E.1 hP iwX8 0 (cM_mo a ca st) rfl 27 (by decide) kw_491 (v := .ref (a 19)) rfl dX8_day_106 ?_
  refine lv_iload_n (pc := 109) S.1 S.2.1 dX8_day_109 rfl (lv_at hl 2 rfl) ?_
  obtain ⟨hn1, h⟩ := h
  refine tp_iald (pc := 110) S E.1 hP 19 0 (cM_has a ca st) rfl (j := x2.toNatClampNeg) rfl hn1 dX8_day_110 ?_
  refine lv_iconst (pc := 111) S.1 S.2.1 (v := (-1)) dX8_day_111 (by decide) ?_
  refine lv_icmp_ne (pc := 112) (tgt := 118) S.1 S.2.1 dX8_day_112 (by decide) (fun c2 => ?_) (fun c2 => ?_)
  · have h := h.2 c2
    refine lv_aload_n (pc := 118) S.1 S.2.1 dX8_day_118 rfl (lv_at hl 0 rfl) ?_
    refine lv_dup (pc := 119) S.1 S.2.1 dX8_day_119 rfl ?_
    refine tp_get (pc := 120) S E.1 hP iwX8 0 (cM_mo a ca st) rfl 6 (by decide) kw_496 (v := .int (st 5 0)) rfl dX8_day_120 ?_
    refine lv_iconst (pc := 123) S.1 S.2.1 (v := 1) dX8_day_123 (by decide) ?_
    refine lv_iadd (pc := 124) S.1 S.2.1 dX8_day_124 ?_
    refine tp_put (pc := 125) S E.1 hP (cM_D E st) hS iwX8 tyX8 tyX8_ok nmX8 0 (cM_mo a ca st) rfl 6 (by decide) kw_496 rfl (v := .int ((st 5 0) + (1 : Int32))) (tyX8_ok 6 (by decide)) rfl rfl (Nat.le_of_ble_eq_true rfl) (sM_mo_stamps a ca st _) dX8_day_125 (fun st1 H locs e3 hP hS => ?_)
    have h := h st1 e3
    refine lv_aload_n (pc := 128) S.1 S.2.1 dX8_day_128 rfl (lv_at hl 0 rfl) ?_
    refine tp_get (pc := 129) S E.1 hP iwX8 0 (cM_mo a ca st1) rfl 18 (by decide) kw_487 (v := .ref (a 13)) rfl dX8_day_129 ?_
    refine lv_aload_n (pc := 132) S.1 S.2.1 dX8_day_132 rfl (lv_at hl 0 rfl) ?_
    refine tp_get (pc := 133) S E.1 hP iwX8 0 (cM_mo a ca st1) rfl 27 (by decide) kw_491 (v := .ref (a 19)) rfl dX8_day_133 ?_
    refine lv_iload_n (pc := 136) S.1 S.2.1 dX8_day_136 rfl (lv_at hl 2 rfl) ?_
    obtain ⟨hn4, h⟩ := h
    refine tp_iald (pc := 137) S E.1 hP 19 0 (cM_has a ca st1) rfl (j := x2.toNatClampNeg) rfl hn4 dX8_day_137 ?_
    refine lv_aload_n (pc := 138) S.1 S.2.1 dX8_day_138 rfl (lv_at hl 0 rfl) ?_
    refine tp_get (pc := 139) S E.1 hP iwX8 0 (cM_mo a ca st1) rfl 6 (by decide) kw_496 (v := .int (st1 5 0)) rfl dX8_day_139 ?_
    obtain ⟨hn5, h⟩ := h
    refine tp_iast (pc := 142) S E.1 hP (cM_D E st1) hS 13 0 (cM_heardAs a ca st1) rfl (j := (st1 27 x2.toNatClampNeg).toNatClampNeg) rfl hn5 (sM_heardAs a ca st1 _ _) dX8_day_142 (fun st2 H locs e6 hP hS => ?_)
    have h := h st2 e6
    refine lv_aload_n (pc := 143) S.1 S.2.1 dX8_day_143 rfl (lv_at hl 0 rfl) ?_
    refine tp_get (pc := 144) S E.1 hP iwX8 0 (cM_mo a ca st2) rfl 17 (by decide) kw_486 (v := .ref (a 12)) rfl dX8_day_144 ?_
    refine lv_aload_n (pc := 147) S.1 S.2.1 dX8_day_147 rfl (lv_at hl 0 rfl) ?_
    refine tp_get (pc := 148) S E.1 hP iwX8 0 (cM_mo a ca st2) rfl 27 (by decide) kw_491 (v := .ref (a 19)) rfl dX8_day_148 ?_
    refine lv_iload_n (pc := 151) S.1 S.2.1 dX8_day_151 rfl (lv_at hl 2 rfl) ?_
    obtain ⟨hn7, h⟩ := h
    refine tp_iald (pc := 152) S E.1 hP 19 0 (cM_has a ca st2) rfl (j := x2.toNatClampNeg) rfl hn7 dX8_day_152 ?_
    refine lv_aload_n (pc := 153) S.1 S.2.1 dX8_day_153 rfl (lv_at hl 0 rfl) ?_
    refine tp_get (pc := 154) S E.1 hP iwX8 0 (cM_mo a ca st2) rfl 2 (by decide) kw_489 (v := .int (st2 1 0)) rfl dX8_day_154 ?_
    obtain ⟨hn8, h⟩ := h
    refine tp_iast (pc := 157) S E.1 hP (cM_D E st2) hS 12 0 (cM_heardDay a ca st2) rfl (j := (st2 27 x2.toNatClampNeg).toNatClampNeg) rfl hn8 (sM_heardDay a ca st2 _ _) dX8_day_157 (fun st3 H locs e9 hP hS => ?_)
    have h := h st3 e9
    exact (fun x1 st h => wk_X8_day_158 S hr hlk E post k18 hk18 k164 hk164 x1 st h) x1 st3 h _ _ _ hP hS (lv_sub hl [0, 1] rfl)
  · have h := h.1 c2
    refine lv_goto (pc := 115) S.1 S.2.1 (tgt := 158) dX8_day_115 (by decide) ?_
    exact (fun x1 st h => wk_X8_day_158 S hr hlk E post k18 hk18 k164 hk164 x1 st h) x1 st h _ _ _ hP hS (lv_sub hl [0, 1] rfl)
set_option maxHeartbeats 4000000 in
set_option maxRecDepth 100000 in
theorem wk_X8_day_89 {p : Program} {l : Launch} {e : Env} {s : State} {m : MethodId} {args : Array Value} {below : List Frame} {meth : Method} {c : Code} {dC : Nat → ClassId} {dI : Nat → Nat → Nat} {a : Nat → Nat} {ca : Nat → ClassId} {tb : Nat → Nat} {w0 : Cond} (S : CallFix p m c cX8_day 4 s args (w0 :: tWALL) RX8) (hr : meth.sig.returnType = (some .int)) (hlk : meth.locks = false) (E : tEnv 21 dC dI a ca tb s) (post : Int32 → tSt → Prop) (k18 : Int32 → tSt → Prop) (hk18 : ∀ (x1 : Int32) (st : tSt), k18 x1 st → tAt p l e rmX8_day s m args below meth c (dC, dI) (cwM a ca) (tA 21 a s.heap.size) (tQi (cwM a ca) 21 dC dI a args below s post) 4 18 [(0, .ref (a 0)), (1, .int x1)] [] st) (k164 : tSt → Prop) (hk164 : ∀  (st : tSt), k164  st → tAt p l e rmX8_day s m args below meth c (dC, dI) (cwM a ca) (tA 21 a s.heap.size) (tQi (cwM a ca) 21 dC dI a args below s post) 4 164 [(0, .ref (a 0))] [] st) : ∀ (x1 : Int32) (x2 : Int32) (st : tSt), wp_M_day_89 post k18 k164 x1 x2 st → tAt p l e rmX8_day s m args below meth c (dC, dI) (cwM a ca) (tA 21 a s.heap.size) (tQi (cwM a ca) 21 dC dI a args below s post) 4 89 [(0, .ref (a 0)), (1, .int x1), (2, .int x2)] [] st := by
  intro x1 x2 st h H locs ls hP hS hl
  refine lv_goto (pc := 89) S.1 S.2.1 (tgt := 105) dX8_day_89 (by decide) ?_
  exact (fun x1 x2 st h => wk_X8_day_105 S hr hlk E post k18 hk18 k164 hk164 x1 x2 st h) x1 x2 st h _ _ _ hP hS (lv_sub hl [0, 1, 2] rfl)
set_option maxHeartbeats 4000000 in
set_option maxRecDepth 100000 in
theorem wk_X8_day_60 {p : Program} {l : Launch} {e : Env} {s : State} {m : MethodId} {args : Array Value} {below : List Frame} {meth : Method} {c : Code} {dC : Nat → ClassId} {dI : Nat → Nat → Nat} {a : Nat → Nat} {ca : Nat → ClassId} {tb : Nat → Nat} {w0 : Cond} (S : CallFix p m c cX8_day 4 s args (w0 :: tWALL) RX8) (hr : meth.sig.returnType = (some .int)) (hlk : meth.locks = false) (E : tEnv 21 dC dI a ca tb s) (post : Int32 → tSt → Prop) (k89 : Int32 → Int32 → tSt → Prop) (hk89 : ∀ (x1 : Int32) (x2 : Int32) (st : tSt), k89 x1 x2 st → tAt p l e rmX8_day s m args below meth c (dC, dI) (cwM a ca) (tA 21 a s.heap.size) (tQi (cwM a ca) 21 dC dI a args below s post) 4 89 [(0, .ref (a 0)), (1, .int x1), (2, .int x2)] [] st) : ∀ (n : Nat) (x1 : Int32) (x2 : Int32) (x3 : Int32) (st : tSt), wp_M_day_60 post k89 n x1 x2 x3 st → tAt p l e rmX8_day s m args below meth c (dC, dI) (cwM a ca) (tA 21 a s.heap.size) (tQi (cwM a ca) 21 dC dI a args below s post) 4 60 [(0, .ref (a 0)), (1, .int x1), (2, .int x2), (3, .int x3)] [] st := by
  intro n
  induction n with
  | zero => intro x1 x2 x3 st h; exact absurd h id
  | succ n ih =>
    intro x1 x2 x3 st h H locs ls hP hS hl
    refine lv_iload_n (pc := 60) S.1 S.2.1 dX8_day_60 rfl (lv_at hl 3 rfl) ?_
    refine lv_aload_n (pc := 61) S.1 S.2.1 dX8_day_61 rfl (lv_at hl 0 rfl) ?_
    refine tp_get (pc := 62) S E.1 hP iwX8 0 (cM_mo a ca st) rfl 3 (by decide) kw_405 (v := .int (st 2 0)) rfl dX8_day_62 ?_
    refine lv_icmp_ge (pc := 65) (tgt := 89) S.1 S.2.1 dX8_day_65 (by decide) (fun c1 => ?_) (fun c1 => ?_)
    · have h := h.1 c1
      exact hk89 x1 x2 st h _ _ _ hP hS (lv_sub hl [0, 1, 2] rfl)
    · have h := h.2 c1
      refine lv_aload_n (pc := 68) S.1 S.2.1 dX8_day_68 rfl (lv_at hl 0 rfl) ?_
      refine tp_get (pc := 69) S E.1 hP iwX8 0 (cM_mo a ca st) rfl 12 (by decide) kw_511 (v := .ref (a 7)) rfl dX8_day_69 ?_
      refine lv_iload_n (pc := 72) S.1 S.2.1 dX8_day_72 rfl (lv_at hl 3 rfl) ?_
      refine lv_dup2_11 (pc := 73) S.1 S.2.1 dX8_day_73 rfl rfl ?_
      obtain ⟨hn2, h⟩ := h
      refine tp_iald (pc := 74) S E.1 hP 7 0 (cM_wages a ca st) rfl (j := x3.toNatClampNeg) rfl hn2 dX8_day_74 ?_
      refine lv_aload_n (pc := 75) S.1 S.2.1 dX8_day_75 rfl (lv_at hl 0 rfl) ?_
      refine lv_iload_n (pc := 76) S.1 S.2.1 dX8_day_76 rfl (lv_at hl 2 rfl) ?_
      refine lv_iload_n (pc := 77) S.1 S.2.1 dX8_day_77 rfl (lv_at hl 3 rfl) ?_
      refine tGi hS (tRunV (pc := 78) (As := [.int x2, .int x3]) (rest := [.int (st 15 x3.toNatClampNeg), .int x3, .ref (a 7)]) S E hP hS (mt_X8_shareOf l dC dI a ca tb _ x2 x3 st _ h) (cw_X8_shareOf ⟨Nat.le_of_ble_eq_true rfl, Nat.le_of_ble_eq_true rfl⟩) kw_507 kw_508 kw_509 0 8 rfl rfl (cM_mo a ca st) rfl hl.1 rfl (Nat.le_of_ble_eq_true rfl) dX8_day_78) (fun r2 st1 H locs h hP hS => ?_)
      refine lv_iadd (pc := 81) S.1 S.2.1 dX8_day_81 ?_
      obtain ⟨hn3, h⟩ := h
      refine tp_iast (pc := 82) S E.1 hP (cM_D E st1) hS 7 0 (cM_wages a ca st1) rfl (j := x3.toNatClampNeg) rfl hn3 (sM_wages a ca st1 _ _) dX8_day_82 (fun st3 H locs e4 hP hS => ?_)
      have h := h st3 e4
      obtain ⟨y3_4, e5⟩ : ∃ y : Int32, y = x3 + 1 := ⟨_, rfl⟩
      have h := h y3_4 e5
      refine lv_iinc (pc := 83) S.1 S.2.1 (v := y3_4) (lv' := [(3, .int y3_4), (0, .ref (a 0)), (1, .int x1), (2, .int x2)]) dX8_day_83 hl (k := 3) rfl (by rw [e5]; rfl) (by decide) rfl (fun ls hl => ?_)
      refine lv_goto (pc := 86) S.1 S.2.1 (tgt := 60) dX8_day_86 (by decide) ?_
      exact ih x1 x2 y3_4 st3 h _ _ _ hP hS (lv_sub hl [1, 2, 3, 0] rfl)
set_option maxHeartbeats 4000000 in
set_option maxRecDepth 100000 in
theorem wk_X8_day_279 {p : Program} {l : Launch} {e : Env} {s : State} {m : MethodId} {args : Array Value} {below : List Frame} {meth : Method} {c : Code} {dC : Nat → ClassId} {dI : Nat → Nat → Nat} {a : Nat → Nat} {ca : Nat → ClassId} {tb : Nat → Nat} {w0 : Cond} (S : CallFix p m c cX8_day 4 s args (w0 :: tWALL) RX8) (hr : meth.sig.returnType = (some .int)) (hlk : meth.locks = false) (E : tEnv 21 dC dI a ca tb s) (post : Int32 → tSt → Prop) (k200 : Int32 → tSt → Prop) (hk200 : ∀ (x1 : Int32) (st : tSt), k200 x1 st → tAt p l e rmX8_day s m args below meth c (dC, dI) (cwM a ca) (tA 21 a s.heap.size) (tQi (cwM a ca) 21 dC dI a args below s post) 4 200 [(0, .ref (a 0)), (1, .int x1)] [] st) : ∀ (x1 : Int32) (st : tSt), wp_M_day_279 post k200 x1 st → tAt p l e rmX8_day s m args below meth c (dC, dI) (cwM a ca) (tA 21 a s.heap.size) (tQi (cwM a ca) 21 dC dI a args below s post) 4 279 [(0, .ref (a 0)), (1, .int x1)] [] st := by
  intro x1 st h H locs ls hP hS hl
  obtain ⟨y1_1, e1⟩ : ∃ y : Int32, y = x1 + 1 := ⟨_, rfl⟩
  have h := h y1_1 e1
  refine lv_iinc (pc := 279) S.1 S.2.1 (v := y1_1) (lv' := [(1, .int y1_1), (0, .ref (a 0))]) dX8_day_279 hl (k := 1) rfl (by rw [e1]; rfl) (by decide) rfl (fun ls hl => ?_)
  refine lv_goto (pc := 282) S.1 S.2.1 (tgt := 200) dX8_day_282 (by decide) ?_
  exact hk200 y1_1 st h _ _ _ hP hS (lv_sub hl [1, 0] rfl)
set_option maxHeartbeats 4000000 in
set_option maxRecDepth 100000 in
theorem wk_X8_day_258 {p : Program} {l : Launch} {e : Env} {s : State} {m : MethodId} {args : Array Value} {below : List Frame} {meth : Method} {c : Code} {dC : Nat → ClassId} {dI : Nat → Nat → Nat} {a : Nat → Nat} {ca : Nat → ClassId} {tb : Nat → Nat} {w0 : Cond} (S : CallFix p m c cX8_day 4 s args (w0 :: tWALL) RX8) (hr : meth.sig.returnType = (some .int)) (hlk : meth.locks = false) (E : tEnv 21 dC dI a ca tb s) (post : Int32 → tSt → Prop) (k200 : Int32 → tSt → Prop) (hk200 : ∀ (x1 : Int32) (st : tSt), k200 x1 st → tAt p l e rmX8_day s m args below meth c (dC, dI) (cwM a ca) (tA 21 a s.heap.size) (tQi (cwM a ca) 21 dC dI a args below s post) 4 200 [(0, .ref (a 0)), (1, .int x1)] [] st) : ∀ (x1 : Int32) (s0 : Int32) (st : tSt), wp_M_day_258 post k200 x1 s0 st → tAt p l e rmX8_day s m args below meth c (dC, dI) (cwM a ca) (tA 21 a s.heap.size) (tQi (cwM a ca) 21 dC dI a args below s post) 4 258 [(0, .ref (a 0)), (1, .int x1)] [.int s0] st := by
  intro x1 s0 st h H locs ls hP hS hl
  refine lv_istore_n (pc := 258) S.1 S.2.1 (lv' := [(2, .int s0), (0, .ref (a 0)), (1, .int x1)]) dX8_day_258 rfl hl (by decide) rfl (fun ls hl => ?_)
  refine lv_aload_n (pc := 259) S.1 S.2.1 dX8_day_259 rfl (lv_at hl 1 rfl) ?_
  refine tp_get (pc := 260) S E.1 hP iwX8 0 (cM_mo a ca st) rfl 12 (by decide) kw_511 (v := .ref (a 7)) rfl dX8_day_260 ?_
  refine lv_iload_n (pc := 263) S.1 S.2.1 dX8_day_263 rfl (lv_at hl 2 rfl) ?_
  refine lv_dup2_11 (pc := 264) S.1 S.2.1 dX8_day_264 rfl rfl ?_
  obtain ⟨hn1, h⟩ := h
  refine tp_iald (pc := 265) S E.1 hP 7 0 (cM_wages a ca st) rfl (j := x1.toNatClampNeg) rfl hn1 dX8_day_265 ?_
  refine lv_iload_n (pc := 266) S.1 S.2.1 dX8_day_266 rfl (lv_at hl 0 rfl) ?_
  refine lv_iadd (pc := 267) S.1 S.2.1 dX8_day_267 ?_
  obtain ⟨hn2, h⟩ := h
  refine tp_iast (pc := 268) S E.1 hP (cM_D E st) hS 7 0 (cM_wages a ca st) rfl (j := x1.toNatClampNeg) rfl hn2 (sM_wages a ca st _ _) dX8_day_268 (fun st1 H locs e3 hP hS => ?_)
  have h := h st1 e3
  refine lv_aload_n (pc := 269) S.1 S.2.1 dX8_day_269 rfl (lv_at hl 1 rfl) ?_
  refine lv_dup (pc := 270) S.1 S.2.1 dX8_day_270 rfl ?_
  refine tp_get (pc := 271) S E.1 hP iwX8 0 (cM_mo a ca st1) rfl 5 (by decide) kw_512 (v := .int (st1 4 0)) rfl dX8_day_271 ?_
  refine lv_iload_n (pc := 274) S.1 S.2.1 dX8_day_274 rfl (lv_at hl 0 rfl) ?_
  refine lv_isub (pc := 275) S.1 S.2.1 dX8_day_275 ?_
  refine tp_put (pc := 276) S E.1 hP (cM_D E st1) hS iwX8 tyX8 tyX8_ok nmX8 0 (cM_mo a ca st1) rfl 5 (by decide) kw_512 rfl (v := .int ((st1 4 0) - s0)) (tyX8_ok 5 (by decide)) rfl rfl (Nat.le_of_ble_eq_true rfl) (sM_mo_fund a ca st1 _) dX8_day_276 (fun st2 H locs e4 hP hS => ?_)
  have h := h st2 e4
  exact (fun x1 st h => wk_X8_day_279 S hr hlk E post k200 hk200 x1 st h) x1 st2 h _ _ _ hP hS (lv_sub hl [1, 2] rfl)
set_option maxHeartbeats 4000000 in
set_option maxRecDepth 100000 in
theorem wk_X8_day_200 {p : Program} {l : Launch} {e : Env} {s : State} {m : MethodId} {args : Array Value} {below : List Frame} {meth : Method} {c : Code} {dC : Nat → ClassId} {dI : Nat → Nat → Nat} {a : Nat → Nat} {ca : Nat → ClassId} {tb : Nat → Nat} {w0 : Cond} (S : CallFix p m c cX8_day 4 s args (w0 :: tWALL) RX8) (hr : meth.sig.returnType = (some .int)) (hlk : meth.locks = false) (E : tEnv 21 dC dI a ca tb s) (post : Int32 → tSt → Prop) : ∀ (n : Nat) (x1 : Int32) (st : tSt), wp_M_day_200 post n x1 st → tAt p l e rmX8_day s m args below meth c (dC, dI) (cwM a ca) (tA 21 a s.heap.size) (tQi (cwM a ca) 21 dC dI a args below s post) 4 200 [(0, .ref (a 0)), (1, .int x1)] [] st := by
  intro n
  induction n with
  | zero => intro x1 st h; exact absurd h id
  | succ n ih =>
    intro x1 st h H locs ls hP hS hl
    refine lv_iload_n (pc := 200) S.1 S.2.1 dX8_day_200 rfl (lv_at hl 1 rfl) ?_
    refine lv_aload_n (pc := 201) S.1 S.2.1 dX8_day_201 rfl (lv_at hl 0 rfl) ?_
    refine tp_get (pc := 202) S E.1 hP iwX8 0 (cM_mo a ca st) rfl 3 (by decide) kw_405 (v := .int (st 2 0)) rfl dX8_day_202 ?_
    refine lv_icmp_ge (pc := 205) (tgt := 285) S.1 S.2.1 dX8_day_205 (by decide) (fun c1 => ?_) (fun c1 => ?_)
    · have h := h.1 c1
      refine lv_aload_n (pc := 285) S.1 S.2.1 dX8_day_285 rfl (lv_at hl 0 rfl) ?_
      refine tp_get (pc := 286) S E.1 hP iwX8 0 (cM_mo a ca st) rfl 2 (by decide) kw_489 (v := .int (st 1 0)) rfl dX8_day_286 ?_
      exact tRi S hr hlk hP hS h dX8_day_289
    · have h := h.2 c1
      refine lv_aload_n (pc := 208) S.1 S.2.1 dX8_day_208 rfl (lv_at hl 0 rfl) ?_
      refine tp_get (pc := 209) S E.1 hP iwX8 0 (cM_mo a ca st) rfl 2 (by decide) kw_489 (v := .int (st 1 0)) rfl dX8_day_209 ?_
      refine lv_sipush (pc := 212) S.1 S.2.1 (v := 360) dX8_day_212 (by decide) ?_
      refine lv_irem (pc := 215) S.1 S.2.1 dX8_day_215 (by decide) ?_
      refine lv_if_ne (pc := 216) (tgt := 285) S.1 S.2.1 dX8_day_216 (by decide) (fun c2 => ?_) (fun c2 => ?_)
      · have h := h.2 c2
        refine lv_aload_n (pc := 285) S.1 S.2.1 dX8_day_285 rfl (lv_at hl 0 rfl) ?_
        refine tp_get (pc := 286) S E.1 hP iwX8 0 (cM_mo a ca st) rfl 2 (by decide) kw_489 (v := .int (st 1 0)) rfl dX8_day_286 ?_
        exact tRi S hr hlk hP hS h dX8_day_289
      · have h := h.1 c2
        refine lv_aload_n (pc := 219) S.1 S.2.1 dX8_day_219 rfl (lv_at hl 0 rfl) ?_
        refine tp_get (pc := 220) S E.1 hP iwX8 0 (cM_mo a ca st) rfl 11 (by decide) kw_410 (v := .ref (a 6)) rfl dX8_day_220 ?_
        refine lv_iload_n (pc := 223) S.1 S.2.1 dX8_day_223 rfl (lv_at hl 1 rfl) ?_
        obtain ⟨hn3, h⟩ := h
        refine tp_iald (pc := 224) S E.1 hP 6 0 (cM_how a ca st) rfl (j := x1.toNatClampNeg) rfl hn3 dX8_day_224 ?_
        refine lv_iconst (pc := 225) S.1 S.2.1 (v := 2) dX8_day_225 (by decide) ?_
        refine lv_icmp_eq (pc := 226) (tgt := 232) S.1 S.2.1 dX8_day_226 (by decide) (fun c4 => ?_) (fun c4 => ?_)
        · have h := h.1 c4
          refine lv_aload_n (pc := 232) S.1 S.2.1 dX8_day_232 rfl (lv_at hl 0 rfl) ?_
          refine tp_get (pc := 233) S E.1 hP iwX8 0 (cM_mo a ca st) rfl 7 (by decide) kw_400 (v := .ref (a 2)) rfl dX8_day_233 ?_
          refine lv_iconst (pc := 236) S.1 S.2.1 (v := 2) dX8_day_236 (by decide) ?_
          refine tp_iald (pc := 237) S E.1 hP 2 0 (cM_four a ca st (j := 0) (by decide)) rfl (j := 2) (by decide +kernel) (by decide +kernel : ¬ ((2 : Int32) < 0 ∨ 4 ≤ (2 : Int32).toNatClampNeg)) dX8_day_237 ?_
          refine lv_aload_n (pc := 238) S.1 S.2.1 dX8_day_238 rfl (lv_at hl 0 rfl) ?_
          refine tp_get (pc := 239) S E.1 hP iwX8 0 (cM_mo a ca st) rfl 5 (by decide) kw_512 (v := .int (st 4 0)) rfl dX8_day_239 ?_
          refine lv_icmp_ge (pc := 242) (tgt := 254) S.1 S.2.1 dX8_day_242 (by decide) (fun c5 => ?_) (fun c5 => ?_)
          · have h := h.1 c5
            refine lv_aload_n (pc := 254) S.1 S.2.1 dX8_day_254 rfl (lv_at hl 0 rfl) ?_
            refine tp_get (pc := 255) S E.1 hP iwX8 0 (cM_mo a ca st) rfl 5 (by decide) kw_512 (v := .int (st 4 0)) rfl dX8_day_255 ?_
            exact (fun x1 s0 st h => wk_X8_day_258 S hr hlk E post (wp_M_day_200 post n) ih x1 s0 st h) x1 (st 4 0) st h _ _ _ hP hS (lv_sub hl [0, 1] rfl)
          · have h := h.2 c5
            refine lv_aload_n (pc := 245) S.1 S.2.1 dX8_day_245 rfl (lv_at hl 0 rfl) ?_
            refine tp_get (pc := 246) S E.1 hP iwX8 0 (cM_mo a ca st) rfl 7 (by decide) kw_400 (v := .ref (a 2)) rfl dX8_day_246 ?_
            refine lv_iconst (pc := 249) S.1 S.2.1 (v := 2) dX8_day_249 (by decide) ?_
            refine tp_iald (pc := 250) S E.1 hP 2 0 (cM_four a ca st (j := 0) (by decide)) rfl (j := 2) (by decide +kernel) (by decide +kernel : ¬ ((2 : Int32) < 0 ∨ 4 ≤ (2 : Int32).toNatClampNeg)) dX8_day_250 ?_
            refine lv_goto (pc := 251) S.1 S.2.1 (tgt := 258) dX8_day_251 (by decide) ?_
            exact (fun x1 s0 st h => wk_X8_day_258 S hr hlk E post (wp_M_day_200 post n) ih x1 s0 st h) x1 (st 10 2) st h _ _ _ hP hS (lv_sub hl [0, 1] rfl)
        · have h := h.2 c4
          refine lv_goto (pc := 229) S.1 S.2.1 (tgt := 279) dX8_day_229 (by decide) ?_
          exact (fun x1 st h => wk_X8_day_279 S hr hlk E post (wp_M_day_200 post n) ih x1 st h) x1 st h _ _ _ hP hS (lv_sub hl [0, 1] rfl)
set_option maxHeartbeats 4000000 in
set_option maxRecDepth 100000 in
theorem wk_X8_day_188 {p : Program} {l : Launch} {e : Env} {s : State} {m : MethodId} {args : Array Value} {below : List Frame} {meth : Method} {c : Code} {dC : Nat → ClassId} {dI : Nat → Nat → Nat} {a : Nat → Nat} {ca : Nat → ClassId} {tb : Nat → Nat} {w0 : Cond} (S : CallFix p m c cX8_day 4 s args (w0 :: tWALL) RX8) (hr : meth.sig.returnType = (some .int)) (hlk : meth.locks = false) (E : tEnv 21 dC dI a ca tb s) (post : Int32 → tSt → Prop) : ∀  (st : tSt), wp_M_day_188 post  st → tAt p l e rmX8_day s m args below meth c (dC, dI) (cwM a ca) (tA 21 a s.heap.size) (tQi (cwM a ca) 21 dC dI a args below s post) 4 188 [(0, .ref (a 0))] [] st := by
  intro  st h H locs ls hP hS hl
  refine lv_aload_n (pc := 188) S.1 S.2.1 dX8_day_188 rfl (lv_at hl 0 rfl) ?_
  refine lv_dup (pc := 189) S.1 S.2.1 dX8_day_189 rfl ?_
  refine tp_get (pc := 190) S E.1 hP iwX8 0 (cM_mo a ca st) rfl 2 (by decide) kw_489 (v := .int (st 1 0)) rfl dX8_day_190 ?_
  refine lv_iconst (pc := 193) S.1 S.2.1 (v := 1) dX8_day_193 (by decide) ?_
  refine lv_iadd (pc := 194) S.1 S.2.1 dX8_day_194 ?_
  refine tp_put (pc := 195) S E.1 hP (cM_D E st) hS iwX8 tyX8 tyX8_ok nmX8 0 (cM_mo a ca st) rfl 2 (by decide) kw_489 rfl (v := .int ((st 1 0) + (1 : Int32))) (tyX8_ok 2 (by decide)) rfl rfl (Nat.le_of_ble_eq_true rfl) (sM_mo_today a ca st _) dX8_day_195 (fun st1 H locs e1 hP hS => ?_)
  have h := h st1 e1
  refine lv_iconst (pc := 198) S.1 S.2.1 (v := 0) dX8_day_198 (by decide) ?_
  refine lv_istore_n (pc := 199) S.1 S.2.1 (lv' := [(1, .int (0 : Int32)), (0, .ref (a 0))]) dX8_day_199 rfl hl (by decide) rfl (fun ls hl => ?_)
  exact (fun x1 st h => Exists.elim h (fun q h => wk_X8_day_200 S hr hlk E post  q x1 st h)) (0 : Int32) st1 h _ _ _ hP hS (lv_sub hl [1, 0] rfl)
set_option maxHeartbeats 4000000 in
set_option maxRecDepth 100000 in
theorem wk_X8_day_166 {p : Program} {l : Launch} {e : Env} {s : State} {m : MethodId} {args : Array Value} {below : List Frame} {meth : Method} {c : Code} {dC : Nat → ClassId} {dI : Nat → Nat → Nat} {a : Nat → Nat} {ca : Nat → ClassId} {tb : Nat → Nat} {w0 : Cond} (S : CallFix p m c cX8_day 4 s args (w0 :: tWALL) RX8) (hr : meth.sig.returnType = (some .int)) (hlk : meth.locks = false) (E : tEnv 21 dC dI a ca tb s) (post : Int32 → tSt → Prop) (k188 : tSt → Prop) (hk188 : ∀  (st : tSt), k188  st → tAt p l e rmX8_day s m args below meth c (dC, dI) (cwM a ca) (tA 21 a s.heap.size) (tQi (cwM a ca) 21 dC dI a args below s post) 4 188 [(0, .ref (a 0))] [] st) : ∀ (n : Nat) (x1 : Int32) (st : tSt), wp_M_day_166 post k188 n x1 st → tAt p l e rmX8_day s m args below meth c (dC, dI) (cwM a ca) (tA 21 a s.heap.size) (tQi (cwM a ca) 21 dC dI a args below s post) 4 166 [(0, .ref (a 0)), (1, .int x1)] [] st := by
  intro n
  induction n with
  | zero => intro x1 st h; exact absurd h id
  | succ n ih =>
    intro x1 st h H locs ls hP hS hl
    refine lv_iload_n (pc := 166) S.1 S.2.1 dX8_day_166 rfl (lv_at hl 1 rfl) ?_
    refine lv_bipush (pc := 167) S.1 S.2.1 (v := 6) dX8_day_167 (by decide) ?_
    refine lv_icmp_ge (pc := 169) (tgt := 188) S.1 S.2.1 dX8_day_169 (by decide) (fun c1 => ?_) (fun c1 => ?_)
    · have h := h.1 c1
      exact hk188  st h _ _ _ hP hS (lv_sub hl [0] rfl)
    · have h := h.2 c1
      refine lv_aload_n (pc := 172) S.1 S.2.1 dX8_day_172 rfl (lv_at hl 0 rfl) ?_
      refine tp_get (pc := 173) S E.1 hP iwX8 0 (cM_mo a ca st) rfl 14 (by decide) kw_419 (v := .ref (a 9)) rfl dX8_day_173 ?_
      refine lv_bipush (pc := 176) S.1 S.2.1 (v := 8) dX8_day_176 (by decide) ?_
      refine lv_iload_n (pc := 178) S.1 S.2.1 dX8_day_178 rfl (lv_at hl 1 rfl) ?_
      refine lv_imul (pc := 179) S.1 S.2.1 dX8_day_179 ?_
      refine lv_iconst (pc := 180) S.1 S.2.1 (v := (-1)) dX8_day_180 (by decide) ?_
      obtain ⟨hn2, h⟩ := h
      refine tp_iast (pc := 181) S E.1 hP (cM_D E st) hS 9 0 (cM_call a ca st) rfl (j := ((8 : Int32) * x1).toNatClampNeg) rfl hn2 (sM_call a ca st _ _) dX8_day_181 (fun st1 H locs e3 hP hS => ?_)
      have h := h st1 e3
      obtain ⟨y1_2, e4⟩ : ∃ y : Int32, y = x1 + 1 := ⟨_, rfl⟩
      have h := h y1_2 e4
      refine lv_iinc (pc := 182) S.1 S.2.1 (v := y1_2) (lv' := [(1, .int y1_2), (0, .ref (a 0))]) dX8_day_182 hl (k := 1) rfl (by rw [e4]; rfl) (by decide) rfl (fun ls hl => ?_)
      refine lv_goto (pc := 185) S.1 S.2.1 (tgt := 166) dX8_day_185 (by decide) ?_
      exact ih y1_2 st1 h _ _ _ hP hS (lv_sub hl [1, 0] rfl)
set_option maxHeartbeats 4000000 in
set_option maxRecDepth 100000 in
theorem wk_X8_day_164 {p : Program} {l : Launch} {e : Env} {s : State} {m : MethodId} {args : Array Value} {below : List Frame} {meth : Method} {c : Code} {dC : Nat → ClassId} {dI : Nat → Nat → Nat} {a : Nat → Nat} {ca : Nat → ClassId} {tb : Nat → Nat} {w0 : Cond} (S : CallFix p m c cX8_day 4 s args (w0 :: tWALL) RX8) (hr : meth.sig.returnType = (some .int)) (hlk : meth.locks = false) (E : tEnv 21 dC dI a ca tb s) (post : Int32 → tSt → Prop) : ∀  (st : tSt), wp_M_day_164 post  st → tAt p l e rmX8_day s m args below meth c (dC, dI) (cwM a ca) (tA 21 a s.heap.size) (tQi (cwM a ca) 21 dC dI a args below s post) 4 164 [(0, .ref (a 0))] [] st := by
  intro  st h H locs ls hP hS hl
  refine lv_iconst (pc := 164) S.1 S.2.1 (v := 0) dX8_day_164 (by decide) ?_
  refine lv_istore_n (pc := 165) S.1 S.2.1 (lv' := [(1, .int (0 : Int32)), (0, .ref (a 0))]) dX8_day_165 rfl hl (by decide) rfl (fun ls hl => ?_)
  exact (fun x1 st h => Exists.elim h (fun q h => wk_X8_day_166 S hr hlk E post (wp_M_day_188 post) (fun  st h => wk_X8_day_188 S hr hlk E post   st h) q x1 st h)) (0 : Int32) st h _ _ _ hP hS (lv_sub hl [1, 0] rfl)
set_option maxHeartbeats 4000000 in
set_option maxRecDepth 100000 in
theorem wk_X8_day_18 {p : Program} {l : Launch} {e : Env} {s : State} {m : MethodId} {args : Array Value} {below : List Frame} {meth : Method} {c : Code} {dC : Nat → ClassId} {dI : Nat → Nat → Nat} {a : Nat → Nat} {ca : Nat → ClassId} {tb : Nat → Nat} {w0 : Cond} (S : CallFix p m c cX8_day 4 s args (w0 :: tWALL) RX8) (hr : meth.sig.returnType = (some .int)) (hlk : meth.locks = false) (E : tEnv 21 dC dI a ca tb s) (post : Int32 → tSt → Prop) (k164 : tSt → Prop) (hk164 : ∀  (st : tSt), k164  st → tAt p l e rmX8_day s m args below meth c (dC, dI) (cwM a ca) (tA 21 a s.heap.size) (tQi (cwM a ca) 21 dC dI a args below s post) 4 164 [(0, .ref (a 0))] [] st) : ∀ (n : Nat) (x1 : Int32) (st : tSt), wp_M_day_18 post k164 n x1 st → tAt p l e rmX8_day s m args below meth c (dC, dI) (cwM a ca) (tA 21 a s.heap.size) (tQi (cwM a ca) 21 dC dI a args below s post) 4 18 [(0, .ref (a 0)), (1, .int x1)] [] st := by
  intro n
  induction n with
  | zero => intro x1 st h; exact absurd h id
  | succ n ih =>
    intro x1 st h H locs ls hP hS hl
    refine lv_iload_n (pc := 18) S.1 S.2.1 dX8_day_18 rfl (lv_at hl 1 rfl) ?_
    refine lv_aload_n (pc := 19) S.1 S.2.1 dX8_day_19 rfl (lv_at hl 0 rfl) ?_
    refine tp_get (pc := 20) S E.1 hP iwX8 0 (cM_mo a ca st) rfl 19 (by decide) kw_433 (v := .int (st 6 0)) rfl dX8_day_20 ?_
    refine lv_icmp_ge (pc := 23) (tgt := 164) S.1 S.2.1 dX8_day_23 (by decide) (fun c1 => ?_) (fun c1 => ?_)
    · have h := h.1 c1
      exact hk164  st h _ _ _ hP hS (lv_sub hl [0] rfl)
    · have h := h.2 c1
      refine lv_aload_n (pc := 26) S.1 S.2.1 dX8_day_26 rfl (lv_at hl 0 rfl) ?_
      refine tp_get (pc := 27) S E.1 hP iwX8 0 (cM_mo a ca st) rfl 22 (by decide) kw_432 (v := .ref (a 14)) rfl dX8_day_27 ?_
      refine lv_iload_n (pc := 30) S.1 S.2.1 dX8_day_30 rfl (lv_at hl 1 rfl) ?_
      obtain ⟨hn2, h⟩ := h
      refine tp_iald (pc := 31) S E.1 hP 14 0 (cM_row a ca st) rfl (j := x1.toNatClampNeg) rfl hn2 dX8_day_31 ?_
      refine lv_topi (fun y2_1 e3 => ?_)
      have h := h y2_1 e3
      refine lv_istore_n (pc := 32) S.1 S.2.1 (lv' := [(2, .int y2_1), (0, .ref (a 0)), (1, .int x1)]) dX8_day_32 rfl hl (by decide) rfl (fun ls hl => ?_)
      refine lv_aload_n (pc := 33) S.1 S.2.1 dX8_day_33 rfl (lv_at hl 1 rfl) ?_
      refine tp_get (pc := 34) S E.1 hP iwX8 0 (cM_mo a ca st) rfl 20 (by decide) kw_443 (v := .int (st 7 0)) rfl dX8_day_34 ?_
      refine lv_iload_n (pc := 37) S.1 S.2.1 dX8_day_37 rfl (lv_at hl 0 rfl) ?_
      refine tGi hS (tRunS (pc := 38) (As := [.int (st 7 0), .int y2_1]) (rest := []) S E hP hS (mt_X8_has l dC dI a ca tb _ (st 7 0) y2_1 st _ h) (cw_X8_has ⟨Nat.le_of_ble_eq_true rfl, Nat.le_of_ble_eq_true rfl⟩) kw_445 kw_444 rfl hl.1 rfl (Nat.le_of_ble_eq_true rfl) dX8_day_38) (fun r3 st2 H locs h hP hS => ?_)
      refine lv_if_eq (pc := 41) (tgt := 92) S.1 S.2.1 dX8_day_41 (by decide) (fun c4 => ?_) (fun c4 => ?_)
      · have h := h.1 c4
        refine lv_aload_n (pc := 92) S.1 S.2.1 dX8_day_92 rfl (lv_at hl 1 rfl) ?_
        refine lv_iload_n (pc := 93) S.1 S.2.1 dX8_day_93 rfl (lv_at hl 0 rfl) ?_
        refine lv_iconst (pc := 94) S.1 S.2.1 (v := 0) dX8_day_94 (by decide) ?_
        refine tGi hS (tRunV (pc := 95) (As := [.int y2_1, .int (0 : Int32)]) (rest := []) S E hP hS (mt_X8_of l dC dI a ca tb _ y2_1 (0 : Int32) st2 _ h) (cw_X8_of ⟨Nat.le_of_ble_eq_true rfl, Nat.le_of_ble_eq_true rfl⟩) kw_429 kw_430 kw_431 0 8 rfl rfl (cM_mo a ca st2) rfl hl.1 rfl (Nat.le_of_ble_eq_true rfl) dX8_day_95) (fun r5 st4 H locs h hP hS => ?_)
        refine lv_if_ne (pc := 98) (tgt := 105) S.1 S.2.1 dX8_day_98 (by decide) (fun c5 => ?_) (fun c5 => ?_)
        · have h := h.2 c5
          exact (fun x1 x2 st h => wk_X8_day_105 S hr hlk E post (wp_M_day_18 post k164 n) ih k164 hk164 x1 x2 st h) x1 y2_1 st4 h _ _ _ hP hS (lv_sub hl [1, 2, 0] rfl)
        · have h := h.1 c5
          refine lv_aload_n (pc := 101) S.1 S.2.1 dX8_day_101 rfl (lv_at hl 1 rfl) ?_
          refine tGv hS (tRunV (pc := 102) (As := []) (rest := []) S E hP hS (mt_X8_fines l dC dI a ca tb _  st4 _ h) (cw_X8_fines ⟨Nat.le_of_ble_eq_true rfl, Nat.le_of_ble_eq_true rfl⟩) kw_514 kw_515 kw_516 0 8 rfl rfl (cM_mo a ca st4) rfl hl.1 rfl (Nat.le_of_ble_eq_true rfl) dX8_day_102) (fun st6 H locs h hP hS => ?_)
          exact (fun x1 x2 st h => wk_X8_day_105 S hr hlk E post (wp_M_day_18 post k164 n) ih k164 hk164 x1 x2 st h) x1 y2_1 st6 h _ _ _ hP hS (lv_sub hl [1, 2, 0] rfl)
      · have h := h.2 c4
        refine lv_aload_n (pc := 44) S.1 S.2.1 dX8_day_44 rfl (lv_at hl 1 rfl) ?_
        refine lv_dup (pc := 45) S.1 S.2.1 dX8_day_45 rfl ?_
        refine tp_get (pc := 46) S E.1 hP iwX8 0 (cM_mo a ca st2) rfl 5 (by decide) kw_512 (v := .int (st2 4 0)) rfl dX8_day_46 ?_
        refine lv_aload_n (pc := 49) S.1 S.2.1 dX8_day_49 rfl (lv_at hl 1 rfl) ?_
        refine lv_iload_n (pc := 50) S.1 S.2.1 dX8_day_50 rfl (lv_at hl 0 rfl) ?_
        refine tGi hS (tRunV (pc := 51) (As := [.int y2_1]) (rest := [.int (st2 4 0), .ref (a 0)]) S E hP hS (mt_X8_fundOf l dC dI a ca tb _ y2_1 st2 _ h) (cw_X8_fundOf ⟨Nat.le_of_ble_eq_true rfl, Nat.le_of_ble_eq_true rfl⟩) kw_503 kw_504 kw_505 0 8 rfl rfl (cM_mo a ca st2) rfl hl.1 rfl (Nat.le_of_ble_eq_true rfl) dX8_day_51) (fun r8 st7 H locs h hP hS => ?_)
        refine lv_iadd (pc := 54) S.1 S.2.1 dX8_day_54 ?_
        refine tp_put (pc := 55) S E.1 hP (cM_D E st7) hS iwX8 tyX8 tyX8_ok nmX8 0 (cM_mo a ca st7) rfl 5 (by decide) kw_512 rfl (v := .int ((st2 4 0) + r8)) (tyX8_ok 5 (by decide)) rfl rfl (Nat.le_of_ble_eq_true rfl) (sM_mo_fund a ca st7 _) dX8_day_55 (fun st9 H locs e6 hP hS => ?_)
        have h := h st9 e6
        refine lv_iconst (pc := 58) S.1 S.2.1 (v := 0) dX8_day_58 (by decide) ?_
        refine lv_istore_n (pc := 59) S.1 S.2.1 (lv' := [(3, .int (0 : Int32)), (2, .int y2_1), (0, .ref (a 0)), (1, .int x1)]) dX8_day_59 rfl hl (by decide) rfl (fun ls hl => ?_)
        exact (fun x1 x2 x3 st h => Exists.elim h (fun q h => wk_X8_day_60 S hr hlk E post (wp_M_day_89 post (wp_M_day_18 post k164 n) k164) (fun x1 x2 st h => wk_X8_day_89 S hr hlk E post (wp_M_day_18 post k164 n) ih k164 hk164 x1 x2 st h) q x1 x2 x3 st h)) x1 y2_1 (0 : Int32) st9 h _ _ _ hP hS (lv_sub hl [2, 3, 1, 0] rfl)
set_option maxHeartbeats 4000000 in
set_option maxRecDepth 100000 in
theorem mt_X8_day (l : Launch) (dC : Nat → ClassId) (dI : Nat → Nat → Nat) (a : Nat → Nat) (ca : Nat → ClassId) (tb : Nat → Nat) (sz : Nat) (st : tSt) (post : Int32 → tSt → Prop) (h : wp_M_day  st post) : Met l yX8_day (.code yX8_day cX8_day 4 (some .int) :: tWALL) rmX8_day (va_Pc [.ref (a 0)] (tPre 21 (cwM a ca) dC dI a ca tb sz st)) (va_Qi post (tB (cwM a ca) dC dI) (tA 21 a sz)) 0 0 (tA 21 a sz) := by
  refine tp_met (by decide) (Nat.le_of_ble_eq_true rfl) ?_
  intro p e s m below meth c ls S hr hlk hsz E hP hl
  subst hsz
  have S : CallFix p m c cX8_day 4 s _ (.code yX8_day cX8_day 4 (some .int) :: tWALL) RX8 := S
  have hl : lv_has ls 4 [(0, .ref (a 0))] := hl
  have hS : va_S (tA 21 a s.heap.size) s.heap s.heap [] := va_S.rf
  show W p l e _ s m _ below meth c s.heap [] 0 0 (tQi (cwM a ca) 21 dC dI a ([.ref (a 0)] : List Value).toArray below s post) (F0 m 0 ls [])
  refine lv_aload_n (pc := 0) S.1 S.2.1 dX8_day_0 rfl (lv_at hl 0 rfl) ?_
  refine tp_get (pc := 1) S E.1 hP iwX8 0 (cM_mo a ca st) rfl 2 (by decide) kw_489 (v := .int (st 1 0)) rfl dX8_day_1 ?_
  refine lv_sipush (pc := 4) S.1 S.2.1 (v := 9999) dX8_day_4 (by decide) ?_
  refine lv_icmp_ne (pc := 7) (tgt := 12) S.1 S.2.1 dX8_day_7 (by decide) (fun c1 => ?_) (fun c1 => ?_)
  · have h := h.2 c1
    refine lv_aload_n (pc := 12) S.1 S.2.1 dX8_day_12 rfl (lv_at hl 0 rfl) ?_
    refine tGv hS (tRunV (pc := 13) (As := []) (rest := []) S E hP hS (mt_X8_tunesOf l dC dI a ca tb _  st _ h) (cw_X8_tunesOf ⟨Nat.le_of_ble_eq_true rfl, Nat.le_of_ble_eq_true rfl⟩) kw_498 kw_499 kw_500 0 8 rfl rfl (cM_mo a ca st) rfl hl.1 rfl (Nat.le_of_ble_eq_true rfl) dX8_day_13) (fun st1 H locs h hP hS => ?_)
    refine lv_iconst (pc := 16) S.1 S.2.1 (v := 0) dX8_day_16 (by decide) ?_
    refine lv_istore_n (pc := 17) S.1 S.2.1 (lv' := [(1, .int (0 : Int32)), (0, .ref (a 0))]) dX8_day_17 rfl hl (by decide) rfl (fun ls hl => ?_)
    exact (fun x1 st h => Exists.elim h (fun q h => wk_X8_day_18 S hr hlk E post (wp_M_day_164 post) (fun  st h => wk_X8_day_164 S hr hlk E post   st h) q x1 st h)) (0 : Int32) st1 h _ _ _ hP hS (lv_sub hl [1, 0] rfl)
  · have h := h.1 c1
    refine lv_iconst (pc := 10) S.1 S.2.1 (v := (-1)) dX8_day_10 (by decide) ?_
    exact tRi S hr hlk hP hS h dX8_day_11

abbrev rmX8_lasts : Room := { frames := 0, cells := 0, slots := 0, locals := 0 }
theorem cw_X8_lasts {R : Room} {own : String} {index : Nat} (h : rmX8_lasts.frames + 1 ≤ R.frames ∧ 8 + (3 + 11) + rmX8_lasts.locals ≤ R.locals) : tCw R own index yX8_lasts cX8_lasts 3 (some .int) rmX8_lasts 0 := ⟨kw_518, kw_373, ⟨rfl, rfl, h.1, h.2⟩, by decide +kernel, by decide +kernel, by decide +kernel⟩
set_option maxHeartbeats 4000000 in
set_option maxRecDepth 100000 in
theorem wk_X8_lasts_28 {p : Program} {l : Launch} {e : Env} {s : State} {m : MethodId} {args : Array Value} {below : List Frame} {meth : Method} {c : Code} {dC : Nat → ClassId} {dI : Nat → Nat → Nat} {a : Nat → Nat} {ca : Nat → ClassId} {tb : Nat → Nat} {w0 : Cond} (S : CallFix p m c cX8_lasts 3 s args (w0 :: tWALL) RX8) (hr : meth.sig.returnType = (some .int)) (hlk : meth.locks = false) (E : tEnv 21 dC dI a ca tb s) (post : Int32 → tSt → Prop) (k4 : Int32 → Int32 → tSt → Prop) (hk4 : ∀ (x1 : Int32) (x2 : Int32) (st : tSt), k4 x1 x2 st → tAt p l e rmX8_lasts s m args below meth c (dC, dI) (cwM a ca) (tA 21 a s.heap.size) (tQi (cwM a ca) 21 dC dI a args below s post) 3 4 [(0, .ref (a 0)), (1, .int x1), (2, .int x2)] [] st) (k36 : Int32 → tSt → Prop) (hk36 : ∀ (x1 : Int32) (st : tSt), k36 x1 st → tAt p l e rmX8_lasts s m args below meth c (dC, dI) (cwM a ca) (tA 21 a s.heap.size) (tQi (cwM a ca) 21 dC dI a args below s post) 3 36 [(0, .ref (a 0)), (1, .int x1)] [] st) : ∀ (x2 : Int32) (s0 : Int32) (s1 : Int32) (st : tSt), wp_M_lasts_28 post k4 k36 x2 s0 s1 st → tAt p l e rmX8_lasts s m args below meth c (dC, dI) (cwM a ca) (tA 21 a s.heap.size) (tQi (cwM a ca) 21 dC dI a args below s post) 3 28 [(0, .ref (a 0)), (2, .int x2)] [.int s1, .int s0] st := by
  intro x2 s0 s1 st h H locs ls hP hS hl
  refine lv_iadd (pc := 28) S.1 S.2.1 dX8_lasts_28 ?_
  refine lv_topi (fun y1_1 e1 => ?_)
  have h := h y1_1 e1
  refine lv_istore_n (pc := 29) S.1 S.2.1 (lv' := [(1, .int y1_1), (0, .ref (a 0)), (2, .int x2)]) dX8_lasts_29 rfl hl (by decide) rfl (fun ls hl => ?_)
  obtain ⟨y2_2, e2⟩ : ∃ y : Int32, y = x2 + 1 := ⟨_, rfl⟩
  have h := h y2_2 e2
  refine lv_iinc (pc := 30) S.1 S.2.1 (v := y2_2) (lv' := [(2, .int y2_2), (1, .int y1_1), (0, .ref (a 0))]) dX8_lasts_30 hl (k := 2) rfl (by rw [e2]; rfl) (by decide) rfl (fun ls hl => ?_)
  refine lv_goto (pc := 33) S.1 S.2.1 (tgt := 4) dX8_lasts_33 (by decide) ?_
  exact hk4 y1_1 y2_2 st h _ _ _ hP hS (lv_sub hl [2, 1, 0] rfl)
set_option maxHeartbeats 4000000 in
set_option maxRecDepth 100000 in
theorem wk_X8_lasts_36 {p : Program} {l : Launch} {e : Env} {s : State} {m : MethodId} {args : Array Value} {below : List Frame} {meth : Method} {c : Code} {dC : Nat → ClassId} {dI : Nat → Nat → Nat} {a : Nat → Nat} {ca : Nat → ClassId} {tb : Nat → Nat} {w0 : Cond} (S : CallFix p m c cX8_lasts 3 s args (w0 :: tWALL) RX8) (hr : meth.sig.returnType = (some .int)) (hlk : meth.locks = false) (E : tEnv 21 dC dI a ca tb s) (post : Int32 → tSt → Prop) : ∀ (x1 : Int32) (st : tSt), wp_M_lasts_36 post x1 st → tAt p l e rmX8_lasts s m args below meth c (dC, dI) (cwM a ca) (tA 21 a s.heap.size) (tQi (cwM a ca) 21 dC dI a args below s post) 3 36 [(0, .ref (a 0)), (1, .int x1)] [] st := by
  intro x1 st h H locs ls hP hS hl
  refine lv_iload_n (pc := 36) S.1 S.2.1 dX8_lasts_36 rfl (lv_at hl 1 rfl) ?_
  refine lv_if_eq (pc := 37) (tgt := 49) S.1 S.2.1 dX8_lasts_37 (by decide) (fun c1 => ?_) (fun c1 => ?_)
  · have h := h.1 c1
    refine lv_sipush (pc := 49) S.1 S.2.1 (v := 9999) dX8_lasts_49 (by decide) ?_
    exact tRi S hr hlk hP hS h dX8_lasts_52
  · have h := h.2 c1
    refine lv_aload_n (pc := 40) S.1 S.2.1 dX8_lasts_40 rfl (lv_at hl 0 rfl) ?_
    refine tp_get (pc := 41) S E.1 hP iwX8 0 (cM_mo a ca st) rfl 7 (by decide) kw_400 (v := .ref (a 2)) rfl dX8_lasts_41 ?_
    refine lv_iconst (pc := 44) S.1 S.2.1 (v := 2) dX8_lasts_44 (by decide) ?_
    refine tp_iald (pc := 45) S E.1 hP 2 0 (cM_four a ca st (j := 0) (by decide)) rfl (j := 2) (by decide +kernel) (by decide +kernel : ¬ ((2 : Int32) < 0 ∨ 4 ≤ (2 : Int32).toNatClampNeg)) dX8_lasts_45 ?_
    refine lv_if_ne (pc := 46) (tgt := 53) S.1 S.2.1 dX8_lasts_46 (by decide) (fun c2 => ?_) (fun c2 => ?_)
    · have h := h.2 c2
      refine lv_aload_n (pc := 53) S.1 S.2.1 dX8_lasts_53 rfl (lv_at hl 0 rfl) ?_
      refine tp_get (pc := 54) S E.1 hP iwX8 0 (cM_mo a ca st) rfl 5 (by decide) kw_512 (v := .int (st 4 0)) rfl dX8_lasts_54 ?_
      refine lv_iload_n (pc := 57) S.1 S.2.1 dX8_lasts_57 rfl (lv_at hl 1 rfl) ?_
      refine lv_aload_n (pc := 58) S.1 S.2.1 dX8_lasts_58 rfl (lv_at hl 0 rfl) ?_
      refine tp_get (pc := 59) S E.1 hP iwX8 0 (cM_mo a ca st) rfl 7 (by decide) kw_400 (v := .ref (a 2)) rfl dX8_lasts_59 ?_
      refine lv_iconst (pc := 62) S.1 S.2.1 (v := 2) dX8_lasts_62 (by decide) ?_
      refine tp_iald (pc := 63) S E.1 hP 2 0 (cM_four a ca st (j := 0) (by decide)) rfl (j := 2) (by decide +kernel) (by decide +kernel : ¬ ((2 : Int32) < 0 ∨ 4 ≤ (2 : Int32).toNatClampNeg)) dX8_lasts_63 ?_
      refine lv_imul (pc := 64) S.1 S.2.1 dX8_lasts_64 ?_
      obtain ⟨hn3, h⟩ := h
      refine lv_idiv (pc := 65) S.1 S.2.1 dX8_lasts_65 hn3 ?_
      refine lv_topi (fun y2_1 e4 => ?_)
      have h := h y2_1 e4
      refine lv_istore_n (pc := 66) S.1 S.2.1 (lv' := [(2, .int y2_1), (0, .ref (a 0)), (1, .int x1)]) dX8_lasts_66 rfl hl (by decide) rfl (fun ls hl => ?_)
      refine lv_iload_n (pc := 67) S.1 S.2.1 dX8_lasts_67 rfl (lv_at hl 0 rfl) ?_
      refine lv_sipush (pc := 68) S.1 S.2.1 (v := 9999) dX8_lasts_68 (by decide) ?_
      refine lv_icmp_ge (pc := 71) (tgt := 78) S.1 S.2.1 dX8_lasts_71 (by decide) (fun c5 => ?_) (fun c5 => ?_)
      · have h := h.1 c5
        refine lv_sipush (pc := 78) S.1 S.2.1 (v := 9999) dX8_lasts_78 (by decide) ?_
        exact tRi S hr hlk hP hS h dX8_lasts_81
      · have h := h.2 c5
        refine lv_iload_n (pc := 74) S.1 S.2.1 dX8_lasts_74 rfl (lv_at hl 0 rfl) ?_
        refine lv_goto (pc := 75) S.1 S.2.1 (tgt := 81) dX8_lasts_75 (by decide) ?_
        exact tRi S hr hlk hP hS h dX8_lasts_81
    · have h := h.1 c2
      refine lv_sipush (pc := 49) S.1 S.2.1 (v := 9999) dX8_lasts_49 (by decide) ?_
      exact tRi S hr hlk hP hS h dX8_lasts_52
set_option maxHeartbeats 4000000 in
set_option maxRecDepth 100000 in
theorem wk_X8_lasts_4 {p : Program} {l : Launch} {e : Env} {s : State} {m : MethodId} {args : Array Value} {below : List Frame} {meth : Method} {c : Code} {dC : Nat → ClassId} {dI : Nat → Nat → Nat} {a : Nat → Nat} {ca : Nat → ClassId} {tb : Nat → Nat} {w0 : Cond} (S : CallFix p m c cX8_lasts 3 s args (w0 :: tWALL) RX8) (hr : meth.sig.returnType = (some .int)) (hlk : meth.locks = false) (E : tEnv 21 dC dI a ca tb s) (post : Int32 → tSt → Prop) (k36 : Int32 → tSt → Prop) (hk36 : ∀ (x1 : Int32) (st : tSt), k36 x1 st → tAt p l e rmX8_lasts s m args below meth c (dC, dI) (cwM a ca) (tA 21 a s.heap.size) (tQi (cwM a ca) 21 dC dI a args below s post) 3 36 [(0, .ref (a 0)), (1, .int x1)] [] st) : ∀ (n : Nat) (x1 : Int32) (x2 : Int32) (st : tSt), wp_M_lasts_4 post k36 n x1 x2 st → tAt p l e rmX8_lasts s m args below meth c (dC, dI) (cwM a ca) (tA 21 a s.heap.size) (tQi (cwM a ca) 21 dC dI a args below s post) 3 4 [(0, .ref (a 0)), (1, .int x1), (2, .int x2)] [] st := by
  intro n
  induction n with
  | zero => intro x1 x2 st h; exact absurd h id
  | succ n ih =>
    intro x1 x2 st h H locs ls hP hS hl
    refine lv_iload_n (pc := 4) S.1 S.2.1 dX8_lasts_4 rfl (lv_at hl 2 rfl) ?_
    refine lv_aload_n (pc := 5) S.1 S.2.1 dX8_lasts_5 rfl (lv_at hl 0 rfl) ?_
    refine tp_get (pc := 6) S E.1 hP iwX8 0 (cM_mo a ca st) rfl 3 (by decide) kw_405 (v := .int (st 2 0)) rfl dX8_lasts_6 ?_
    refine lv_icmp_ge (pc := 9) (tgt := 36) S.1 S.2.1 dX8_lasts_9 (by decide) (fun c1 => ?_) (fun c1 => ?_)
    · have h := h.1 c1
      exact hk36 x1 st h _ _ _ hP hS (lv_sub hl [0, 1] rfl)
    · have h := h.2 c1
      refine lv_iload_n (pc := 12) S.1 S.2.1 dX8_lasts_12 rfl (lv_at hl 1 rfl) ?_
      refine lv_aload_n (pc := 13) S.1 S.2.1 dX8_lasts_13 rfl (lv_at hl 0 rfl) ?_
      refine tp_get (pc := 14) S E.1 hP iwX8 0 (cM_mo a ca st) rfl 11 (by decide) kw_410 (v := .ref (a 6)) rfl dX8_lasts_14 ?_
      refine lv_iload_n (pc := 17) S.1 S.2.1 dX8_lasts_17 rfl (lv_at hl 2 rfl) ?_
      obtain ⟨hn2, h⟩ := h
      refine tp_iald (pc := 18) S E.1 hP 6 0 (cM_how a ca st) rfl (j := x2.toNatClampNeg) rfl hn2 dX8_lasts_18 ?_
      refine lv_iconst (pc := 19) S.1 S.2.1 (v := 2) dX8_lasts_19 (by decide) ?_
      refine lv_icmp_ne (pc := 20) (tgt := 27) S.1 S.2.1 dX8_lasts_20 (by decide) (fun c3 => ?_) (fun c3 => ?_)
      · have h := h.2 c3
        refine lv_iconst (pc := 27) S.1 S.2.1 (v := 0) dX8_lasts_27 (by decide) ?_
        exact (fun x2 s0 s1 st h => wk_X8_lasts_28 S hr hlk E post (wp_M_lasts_4 post k36 n) ih k36 hk36 x2 s0 s1 st h) x2 x1 (0 : Int32) st h _ _ _ hP hS (lv_sub hl [0, 2] rfl)
      · have h := h.1 c3
        refine lv_iconst (pc := 23) S.1 S.2.1 (v := 1) dX8_lasts_23 (by decide) ?_
        refine lv_goto (pc := 24) S.1 S.2.1 (tgt := 28) dX8_lasts_24 (by decide) ?_
        exact (fun x2 s0 s1 st h => wk_X8_lasts_28 S hr hlk E post (wp_M_lasts_4 post k36 n) ih k36 hk36 x2 s0 s1 st h) x2 x1 (1 : Int32) st h _ _ _ hP hS (lv_sub hl [0, 2] rfl)
set_option maxHeartbeats 4000000 in
set_option maxRecDepth 100000 in
theorem mt_X8_lasts (l : Launch) (dC : Nat → ClassId) (dI : Nat → Nat → Nat) (a : Nat → Nat) (ca : Nat → ClassId) (tb : Nat → Nat) (sz : Nat) (st : tSt) (post : Int32 → tSt → Prop) (h : wp_M_lasts  st post) : Met l yX8_lasts (.code yX8_lasts cX8_lasts 3 (some .int) :: tWALL) rmX8_lasts (va_Pc [.ref (a 0)] (tPre 21 (cwM a ca) dC dI a ca tb sz st)) (va_Qi post (tB (cwM a ca) dC dI) (tA 21 a sz)) 0 0 (tA 21 a sz) := by
  refine tp_met (by decide) (Nat.le_of_ble_eq_true rfl) ?_
  intro p e s m below meth c ls S hr hlk hsz E hP hl
  subst hsz
  have S : CallFix p m c cX8_lasts 3 s _ (.code yX8_lasts cX8_lasts 3 (some .int) :: tWALL) RX8 := S
  have hl : lv_has ls 3 [(0, .ref (a 0))] := hl
  have hS : va_S (tA 21 a s.heap.size) s.heap s.heap [] := va_S.rf
  show W p l e _ s m _ below meth c s.heap [] 0 0 (tQi (cwM a ca) 21 dC dI a ([.ref (a 0)] : List Value).toArray below s post) (F0 m 0 ls [])
  refine lv_iconst (pc := 0) S.1 S.2.1 (v := 0) dX8_lasts_0 (by decide) ?_
  refine lv_istore_n (pc := 1) S.1 S.2.1 (lv' := [(1, .int (0 : Int32)), (0, .ref (a 0))]) dX8_lasts_1 rfl hl (by decide) rfl (fun ls hl => ?_)
  refine lv_iconst (pc := 2) S.1 S.2.1 (v := 0) dX8_lasts_2 (by decide) ?_
  refine lv_istore_n (pc := 3) S.1 S.2.1 (lv' := [(2, .int (0 : Int32)), (1, .int (0 : Int32)), (0, .ref (a 0))]) dX8_lasts_3 rfl hl (by decide) rfl (fun ls hl => ?_)
  exact (fun x1 x2 st h => Exists.elim h (fun q h => wk_X8_lasts_4 S hr hlk E post (wp_M_lasts_36 post) (fun x1 st h => wk_X8_lasts_36 S hr hlk E post  x1 st h) q x1 x2 st h)) (0 : Int32) (0 : Int32) st h _ _ _ hP hS (lv_sub hl [2, 1, 0] rfl)

abbrev rmX8_look : Room := { frames := 6, cells := 0, slots := 0, locals := 136 }
theorem cw_X8_look {R : Room} {own : String} {index : Nat} (h : rmX8_look.frames + 1 ≤ R.frames ∧ 8 + (6 + 11) + rmX8_look.locals ≤ R.locals) : tCw R own index yX8_look cX8_look 6 (some .int) rmX8_look 2 := ⟨kw_519, kw_373, ⟨rfl, rfl, h.1, h.2⟩, by decide +kernel, by decide +kernel, by decide +kernel⟩
set_option maxHeartbeats 4000000 in
set_option maxRecDepth 100000 in
theorem wk_X8_look_99 {p : Program} {l : Launch} {e : Env} {s : State} {m : MethodId} {args : Array Value} {below : List Frame} {meth : Method} {c : Code} {dC : Nat → ClassId} {dI : Nat → Nat → Nat} {a : Nat → Nat} {ca : Nat → ClassId} {tb : Nat → Nat} {w0 : Cond} (S : CallFix p m c cX8_look 6 s args (w0 :: tWALL) RX8) (hr : meth.sig.returnType = (some .int)) (hlk : meth.locks = false) (E : tEnv 21 dC dI a ca tb s) (post : Int32 → tSt → Prop) (k72 : Int32 → Int32 → Int32 → tSt → Prop) (hk72 : ∀ (x1 : Int32) (x4 : Int32) (x5 : Int32) (st : tSt), k72 x1 x4 x5 st → tAt p l e rmX8_look s m args below meth c (dC, dI) (cwM a ca) (tA 21 a s.heap.size) (tQi (cwM a ca) 21 dC dI a args below s post) 6 72 [(0, .ref (a 0)), (1, .int x1), (4, .int x4), (5, .int x5)] [] st) : ∀ (x1 : Int32) (x5 : Int32) (s0 : Int32) (s1 : Int32) (st : tSt), wp_M_look_99 post k72 x1 x5 s0 s1 st → tAt p l e rmX8_look s m args below meth c (dC, dI) (cwM a ca) (tA 21 a s.heap.size) (tQi (cwM a ca) 21 dC dI a args below s post) 6 99 [(0, .ref (a 0)), (1, .int x1), (5, .int x5)] [.int s1, .int s0] st := by
  intro x1 x5 s0 s1 st h H locs ls hP hS hl
  refine lv_iadd (pc := 99) S.1 S.2.1 dX8_look_99 ?_
  refine lv_topi (fun y4_1 e1 => ?_)
  have h := h y4_1 e1
  refine lv_istore (pc := 100) S.1 S.2.1 (lv' := [(4, .int y4_1), (0, .ref (a 0)), (1, .int x1), (5, .int x5)]) dX8_look_100 hl (by decide) rfl (fun ls hl => ?_)
  obtain ⟨y5_2, e2⟩ : ∃ y : Int32, y = x5 + 1 := ⟨_, rfl⟩
  have h := h y5_2 e2
  refine lv_iinc (pc := 102) S.1 S.2.1 (v := y5_2) (lv' := [(5, .int y5_2), (4, .int y4_1), (0, .ref (a 0)), (1, .int x1)]) dX8_look_102 hl (k := 3) rfl (by rw [e2]; rfl) (by decide) rfl (fun ls hl => ?_)
  refine lv_goto (pc := 105) S.1 S.2.1 (tgt := 72) dX8_look_105 (by decide) ?_
  exact hk72 x1 y4_1 y5_2 st h _ _ _ hP hS (lv_sub hl [2, 3, 1, 0] rfl)
set_option maxHeartbeats 4000000 in
set_option maxRecDepth 100000 in
theorem wk_X8_look_72 {p : Program} {l : Launch} {e : Env} {s : State} {m : MethodId} {args : Array Value} {below : List Frame} {meth : Method} {c : Code} {dC : Nat → ClassId} {dI : Nat → Nat → Nat} {a : Nat → Nat} {ca : Nat → ClassId} {tb : Nat → Nat} {w0 : Cond} (S : CallFix p m c cX8_look 6 s args (w0 :: tWALL) RX8) (hr : meth.sig.returnType = (some .int)) (hlk : meth.locks = false) (E : tEnv 21 dC dI a ca tb s) (post : Int32 → tSt → Prop) : ∀ (n : Nat) (x1 : Int32) (x4 : Int32) (x5 : Int32) (st : tSt), wp_M_look_72 post n x1 x4 x5 st → tAt p l e rmX8_look s m args below meth c (dC, dI) (cwM a ca) (tA 21 a s.heap.size) (tQi (cwM a ca) 21 dC dI a args below s post) 6 72 [(0, .ref (a 0)), (1, .int x1), (4, .int x4), (5, .int x5)] [] st := by
  intro n
  induction n with
  | zero => intro x1 x4 x5 st h; exact absurd h id
  | succ n ih =>
    intro x1 x4 x5 st h H locs ls hP hS hl
    refine lv_iload (pc := 72) S.1 S.2.1 dX8_look_72 (lv_at hl 3 rfl) ?_
    refine lv_aload_n (pc := 74) S.1 S.2.1 dX8_look_74 rfl (lv_at hl 0 rfl) ?_
    refine tp_get (pc := 75) S E.1 hP iwX8 0 (cM_mo a ca st) rfl 21 (by decide) kw_439 (v := .int (st 8 0)) rfl dX8_look_75 ?_
    refine lv_icmp_ge (pc := 78) (tgt := 108) S.1 S.2.1 dX8_look_78 (by decide) (fun c1 => ?_) (fun c1 => ?_)
    · have h := h.1 c1
      refine lv_iload (pc := 108) S.1 S.2.1 dX8_look_108 (lv_at hl 2 rfl) ?_
      exact tRi S hr hlk hP hS h dX8_look_110
    · have h := h.2 c1
      refine lv_iload (pc := 81) S.1 S.2.1 dX8_look_81 (lv_at hl 2 rfl) ?_
      refine lv_aload_n (pc := 83) S.1 S.2.1 dX8_look_83 rfl (lv_at hl 0 rfl) ?_
      refine tp_get (pc := 84) S E.1 hP iwX8 0 (cM_mo a ca st) rfl 25 (by decide) kw_447 (v := .ref (a 17)) rfl dX8_look_84 ?_
      refine lv_iload (pc := 87) S.1 S.2.1 dX8_look_87 (lv_at hl 3 rfl) ?_
      obtain ⟨hn2, h⟩ := h
      refine tp_iald (pc := 89) S E.1 hP 17 0 (cM_taker a ca st) rfl (j := x5.toNatClampNeg) rfl hn2 dX8_look_89 ?_
      refine lv_iload_n (pc := 90) S.1 S.2.1 dX8_look_90 rfl (lv_at hl 1 rfl) ?_
      refine lv_icmp_ne (pc := 91) (tgt := 98) S.1 S.2.1 dX8_look_91 (by decide) (fun c3 => ?_) (fun c3 => ?_)
      · have h := h.2 c3
        refine lv_iconst (pc := 98) S.1 S.2.1 (v := 0) dX8_look_98 (by decide) ?_
        exact (fun x1 x5 s0 s1 st h => wk_X8_look_99 S hr hlk E post (wp_M_look_72 post n) ih x1 x5 s0 s1 st h) x1 x5 x4 (0 : Int32) st h _ _ _ hP hS (lv_sub hl [0, 1, 3] rfl)
      · have h := h.1 c3
        refine lv_iconst (pc := 94) S.1 S.2.1 (v := 1) dX8_look_94 (by decide) ?_
        refine lv_goto (pc := 95) S.1 S.2.1 (tgt := 99) dX8_look_95 (by decide) ?_
        exact (fun x1 x5 s0 s1 st h => wk_X8_look_99 S hr hlk E post (wp_M_look_72 post n) ih x1 x5 s0 s1 st h) x1 x5 x4 (1 : Int32) st h _ _ _ hP hS (lv_sub hl [0, 1, 3] rfl)
set_option maxHeartbeats 4000000 in
set_option maxRecDepth 100000 in
theorem mt_X8_look (l : Launch) (dC : Nat → ClassId) (dI : Nat → Nat → Nat) (a : Nat → Nat) (ca : Nat → ClassId) (tb : Nat → Nat) (sz : Nat) (x1 : Int32) (x2 : Int32) (st : tSt) (post : Int32 → tSt → Prop) (h : wp_M_look x1 x2 st post) : Met l yX8_look (.code yX8_look cX8_look 6 (some .int) :: tWALL) rmX8_look (va_Pc [.ref (a 0), .int x1, .int x2] (tPre 21 (cwM a ca) dC dI a ca tb sz st)) (va_Qi post (tB (cwM a ca) dC dI) (tA 21 a sz)) 0 0 (tA 21 a sz) := by
  refine tp_met (by decide) (Nat.le_of_ble_eq_true rfl) ?_
  intro p e s m below meth c ls S hr hlk hsz E hP hl
  subst hsz
  have S : CallFix p m c cX8_look 6 s _ (.code yX8_look cX8_look 6 (some .int) :: tWALL) RX8 := S
  have hl : lv_has ls 6 [(0, .ref (a 0)), (1, .int x1), (2, .int x2)] := hl
  have hS : va_S (tA 21 a s.heap.size) s.heap s.heap [] := va_S.rf
  show W p l e _ s m _ below meth c s.heap [] 0 0 (tQi (cwM a ca) 21 dC dI a ([.ref (a 0), .int x1, .int x2] : List Value).toArray below s post) (F0 m 0 ls [])
  refine lv_aload_n (pc := 0) S.1 S.2.1 dX8_look_0 rfl (lv_at hl 0 rfl) ?_
  refine lv_iload_n (pc := 1) S.1 S.2.1 dX8_look_1 rfl (lv_at hl 1 rfl) ?_
  refine tGi hS (tRunV (pc := 2) (As := [.int x1]) (rest := []) S E hP hS (mt_X8_isPiper l dC dI a ca tb _ x1 st _ h) (cw_X8_isPiper ⟨Nat.le_of_ble_eq_true rfl, Nat.le_of_ble_eq_true rfl⟩) kw_411 kw_412 kw_413 0 8 rfl rfl (cM_mo a ca st) rfl hl.1 rfl (Nat.le_of_ble_eq_true rfl) dX8_look_2) (fun r2 st1 H locs h hP hS => ?_)
  refine lv_if_ne (pc := 5) (tgt := 10) S.1 S.2.1 dX8_look_5 (by decide) (fun c1 => ?_) (fun c1 => ?_)
  · have h := h.2 c1
    refine lv_iload_n (pc := 10) S.1 S.2.1 dX8_look_10 rfl (lv_at hl 2 rfl) ?_
    by_cases c2 : x2 = 0
    · have h := h.1 c2
      refine lv_tableIn (pc := 11) (tgt := 40) S.1 S.2.1 dX8_look_11 (by rw [c2]; decide) (by rw [c2]; decide) (by rw [c2]; rfl) (by decide) ?_
      refine lv_aload_n (pc := 40) S.1 S.2.1 dX8_look_40 rfl (lv_at hl 0 rfl) ?_
      refine tp_get (pc := 41) S E.1 hP iwX8 0 (cM_mo a ca st1) rfl 9 (by decide) kw_407 (v := .ref (a 4)) rfl dX8_look_41 ?_
      refine lv_iload_n (pc := 44) S.1 S.2.1 dX8_look_44 rfl (lv_at hl 1 rfl) ?_
      obtain ⟨hn3, h⟩ := h
      refine tp_iald (pc := 45) S E.1 hP 4 0 (cM_rank a ca st1) rfl (j := x1.toNatClampNeg) rfl hn3 dX8_look_45 ?_
      exact tRi S hr hlk hP hS h dX8_look_46
    have h := h.2 c2
    by_cases c4 : x2 = 1
    · have h := h.1 c4
      refine lv_tableIn (pc := 11) (tgt := 47) S.1 S.2.1 dX8_look_11 (by rw [c4]; decide) (by rw [c4]; decide) (by rw [c4]; rfl) (by decide) ?_
      refine lv_aload_n (pc := 47) S.1 S.2.1 dX8_look_47 rfl (lv_at hl 0 rfl) ?_
      refine tp_get (pc := 48) S E.1 hP iwX8 0 (cM_mo a ca st1) rfl 10 (by decide) kw_408 (v := .ref (a 5)) rfl dX8_look_48 ?_
      refine lv_iload_n (pc := 51) S.1 S.2.1 dX8_look_51 rfl (lv_at hl 1 rfl) ?_
      obtain ⟨hn5, h⟩ := h
      refine tp_iald (pc := 52) S E.1 hP 5 0 (cM_plays a ca st1) rfl (j := x1.toNatClampNeg) rfl hn5 dX8_look_52 ?_
      exact tRi S hr hlk hP hS h dX8_look_53
    have h := h.2 c4
    by_cases c6 : x2 = 2
    · have h := h.1 c6
      refine lv_tableIn (pc := 11) (tgt := 54) S.1 S.2.1 dX8_look_11 (by rw [c6]; decide) (by rw [c6]; decide) (by rw [c6]; rfl) (by decide) ?_
      refine lv_aload_n (pc := 54) S.1 S.2.1 dX8_look_54 rfl (lv_at hl 0 rfl) ?_
      refine tp_get (pc := 55) S E.1 hP iwX8 0 (cM_mo a ca st1) rfl 11 (by decide) kw_410 (v := .ref (a 6)) rfl dX8_look_55 ?_
      refine lv_iload_n (pc := 58) S.1 S.2.1 dX8_look_58 rfl (lv_at hl 1 rfl) ?_
      obtain ⟨hn7, h⟩ := h
      refine tp_iald (pc := 59) S E.1 hP 6 0 (cM_how a ca st1) rfl (j := x1.toNatClampNeg) rfl hn7 dX8_look_59 ?_
      exact tRi S hr hlk hP hS h dX8_look_60
    have h := h.2 c6
    by_cases c8 : x2 = 3
    · have h := h.1 c8
      refine lv_tableIn (pc := 11) (tgt := 61) S.1 S.2.1 dX8_look_11 (by rw [c8]; decide) (by rw [c8]; decide) (by rw [c8]; rfl) (by decide) ?_
      refine lv_aload_n (pc := 61) S.1 S.2.1 dX8_look_61 rfl (lv_at hl 0 rfl) ?_
      refine tGi hS (tRunV (pc := 62) (As := []) (rest := []) S E hP hS (mt_X8_works l dC dI a ca tb _  st1 _ h) (cw_X8_works ⟨Nat.le_of_ble_eq_true rfl, Nat.le_of_ble_eq_true rfl⟩) kw_474 kw_475 kw_476 0 8 rfl rfl (cM_mo a ca st1) rfl hl.1 rfl (Nat.le_of_ble_eq_true rfl) dX8_look_62) (fun r4 st3 H locs h hP hS => ?_)
      refine lv_istore_n (pc := 65) S.1 S.2.1 (lv' := [(3, .int r4), (0, .ref (a 0)), (1, .int x1), (2, .int x2)]) dX8_look_65 rfl hl (by decide) rfl (fun ls hl => ?_)
      refine lv_iconst (pc := 66) S.1 S.2.1 (v := 0) dX8_look_66 (by decide) ?_
      refine lv_istore (pc := 67) S.1 S.2.1 (lv' := [(4, .int (0 : Int32)), (3, .int r4), (0, .ref (a 0)), (1, .int x1), (2, .int x2)]) dX8_look_67 hl (by decide) rfl (fun ls hl => ?_)
      refine lv_iconst (pc := 69) S.1 S.2.1 (v := 0) dX8_look_69 (by decide) ?_
      refine lv_istore (pc := 70) S.1 S.2.1 (lv' := [(5, .int (0 : Int32)), (4, .int (0 : Int32)), (3, .int r4), (0, .ref (a 0)), (1, .int x1), (2, .int x2)]) dX8_look_70 hl (by decide) rfl (fun ls hl => ?_)
      exact (fun x1 x4 x5 st h => Exists.elim h (fun q h => wk_X8_look_72 S hr hlk E post  q x1 x4 x5 st h)) x1 (0 : Int32) (0 : Int32) st3 h _ _ _ hP hS (lv_sub hl [3, 4, 1, 0] rfl)
    have h := h.2 c8
    refine lv_tableOut (pc := 11) (tgt := 111) S.1 S.2.1 dX8_look_11 (by have := lv_neT (a := 0) c2 rfl; have := lv_neT (a := 1) c4 rfl; have := lv_neT (a := 2) c6 rfl; have := lv_neT (a := 3) c8 rfl; omega) (by decide) ?_
    refine lv_iconst (pc := 111) S.1 S.2.1 (v := (-1)) dX8_look_111 (by decide) ?_
    exact tRi S hr hlk hP hS h dX8_look_112
  · have h := h.1 c1
    refine lv_iconst (pc := 8) S.1 S.2.1 (v := (-1)) dX8_look_8 (by decide) ?_
    exact tRi S hr hlk hP hS h dX8_look_9
