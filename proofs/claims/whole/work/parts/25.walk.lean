abbrev rmX8_wages : Room := { frames := 2, cells := 0, slots := 0, locals := 43 }
theorem cw_X8_wages {R : Room} {own : String} {index : Nat} (h : rmX8_wages.frames + 1 ≤ R.frames ∧ 8 + (2 + 11) + rmX8_wages.locals ≤ R.locals) : tCw R own index yX8_wages cX8_wages 2 (some .int) rmX8_wages 1 := ⟨kw_520, kw_373, ⟨rfl, rfl, h.1, h.2⟩, by decide +kernel, by decide +kernel, by decide +kernel⟩

set_option maxHeartbeats 4000000 in
set_option maxRecDepth 100000 in
theorem mt_X8_wages (l : Launch) (dC : Nat → ClassId) (dI : Nat → Nat → Nat) (a : Nat → Nat) (ca : Nat → ClassId) (tb : Nat → Nat) (sz : Nat) (x1 : Int32) (st : tSt) (post : Int32 → tSt → Prop) (h : wp_M_wages x1 st post) : Met l yX8_wages (.code yX8_wages cX8_wages 2 (some .int) :: tWALL) rmX8_wages (va_Pc [.ref (a 0), .int x1] (tPre 21 (cwM a ca) dC dI a ca tb sz st)) (va_Qi post (tB (cwM a ca) dC dI) (tA 21 a sz)) 0 0 (tA 21 a sz) := by
  refine tp_met (by decide) (Nat.le_of_ble_eq_true rfl) ?_
  intro p e s m below meth c ls S hr hlk hsz E hP hl
  subst hsz
  have S : CallFix p m c cX8_wages 2 s _ (.code yX8_wages cX8_wages 2 (some .int) :: tWALL) RX8 := S
  have hl : lv_has ls 2 [(0, .ref (a 0)), (1, .int x1)] := hl
  have hS : va_S (tA 21 a s.heap.size) s.heap s.heap [] := va_S.rf
  show W p l e _ s m _ below meth c s.heap [] 0 0 (tQi (cwM a ca) 21 dC dI a ([.ref (a 0), .int x1] : List Value).toArray below s post) (F0 m 0 ls [])
  refine lv_iload_n (pc := 0) S.1 S.2.1 dX8_wages_0 rfl (lv_at hl 1 rfl) ?_
  refine lv_iconst (pc := 1) S.1 S.2.1 (v := (-1)) dX8_wages_1 (by decide) ?_
  refine lv_icmp_ne (pc := 2) (tgt := 12) S.1 S.2.1 dX8_wages_2 (by decide) (fun c1 => ?_) (fun c1 => ?_)
  · have h := h.2 c1
    refine lv_aload_n (pc := 12) S.1 S.2.1 dX8_wages_12 rfl (lv_at hl 0 rfl) ?_
    refine lv_iload_n (pc := 13) S.1 S.2.1 dX8_wages_13 rfl (lv_at hl 1 rfl) ?_
    refine tGi hS (tRunV (pc := 14) (As := [.int x1]) (rest := []) S E hP hS (mt_X8_isPiper l dC dI a ca tb _ x1 st _ h) (cw_X8_isPiper ⟨Nat.le_of_ble_eq_true rfl, Nat.le_of_ble_eq_true rfl⟩) kw_411 kw_412 kw_413 0 8 rfl rfl (cM_mo a ca st) rfl hl.1 rfl (Nat.le_of_ble_eq_true rfl) dX8_wages_14) (fun r2 st1 H locs h hP hS => ?_)
    refine lv_if_eq (pc := 17) (tgt := 29) S.1 S.2.1 dX8_wages_17 (by decide) (fun c2 => ?_) (fun c2 => ?_)
    · have h := h.1 c2
      refine lv_iconst (pc := 29) S.1 S.2.1 (v := 0) dX8_wages_29 (by decide) ?_
      exact tRi S hr hlk hP hS h dX8_wages_30
    · have h := h.2 c2
      refine lv_aload_n (pc := 20) S.1 S.2.1 dX8_wages_20 rfl (lv_at hl 0 rfl) ?_
      refine tp_get (pc := 21) S E.1 hP iwX8 0 (cM_mo a ca st1) rfl 12 (by decide) kw_511 (v := .ref (a 7)) rfl dX8_wages_21 ?_
      refine lv_iload_n (pc := 24) S.1 S.2.1 dX8_wages_24 rfl (lv_at hl 1 rfl) ?_
      obtain ⟨hn3, h⟩ := h
      refine tp_iald (pc := 25) S E.1 hP 7 0 (cM_wages a ca st1) rfl (j := x1.toNatClampNeg) rfl hn3 dX8_wages_25 ?_
      refine lv_goto (pc := 26) S.1 S.2.1 (tgt := 30) dX8_wages_26 (by decide) ?_
      exact tRi S hr hlk hP hS h dX8_wages_30
  · have h := h.1 c1
    refine lv_aload_n (pc := 5) S.1 S.2.1 dX8_wages_5 rfl (lv_at hl 0 rfl) ?_
    refine tp_get (pc := 6) S E.1 hP iwX8 0 (cM_mo a ca st) rfl 5 (by decide) kw_512 (v := .int (st 4 0)) rfl dX8_wages_6 ?_
    refine lv_goto (pc := 9) S.1 S.2.1 (tgt := 30) dX8_wages_9 (by decide) ?_
    exact tRi S hr hlk hP hS h dX8_wages_30

abbrev rmX8_about : Room := { frames := 2, cells := 0, slots := 0, locals := 43 }
theorem cw_X8_about {R : Room} {own : String} {index : Nat} (h : rmX8_about.frames + 1 ≤ R.frames ∧ 8 + (3 + 11) + rmX8_about.locals ≤ R.locals) : tCw R own index yX8_about cX8_about 3 (some .int) rmX8_about 2 := ⟨kw_521, kw_373, ⟨rfl, rfl, h.1, h.2⟩, by decide +kernel, by decide +kernel, by decide +kernel⟩

set_option maxHeartbeats 4000000 in
set_option maxRecDepth 100000 in
theorem mt_X8_about (l : Launch) (dC : Nat → ClassId) (dI : Nat → Nat → Nat) (a : Nat → Nat) (ca : Nat → ClassId) (tb : Nat → Nat) (sz : Nat) (x1 : Int32) (x2 : Int32) (st : tSt) (post : Int32 → tSt → Prop) (h : wp_M_about x1 x2 st post) : Met l yX8_about (.code yX8_about cX8_about 3 (some .int) :: tWALL) rmX8_about (va_Pc [.ref (a 0), .int x1, .int x2] (tPre 21 (cwM a ca) dC dI a ca tb sz st)) (va_Qi post (tB (cwM a ca) dC dI) (tA 21 a sz)) 0 0 (tA 21 a sz) := by
  refine tp_met (by decide) (Nat.le_of_ble_eq_true rfl) ?_
  intro p e s m below meth c ls S hr hlk hsz E hP hl
  subst hsz
  have S : CallFix p m c cX8_about 3 s _ (.code yX8_about cX8_about 3 (some .int) :: tWALL) RX8 := S
  have hl : lv_has ls 3 [(0, .ref (a 0)), (1, .int x1), (2, .int x2)] := hl
  have hS : va_S (tA 21 a s.heap.size) s.heap s.heap [] := va_S.rf
  show W p l e _ s m _ below meth c s.heap [] 0 0 (tQi (cwM a ca) 21 dC dI a ([.ref (a 0), .int x1, .int x2] : List Value).toArray below s post) (F0 m 0 ls [])
  refine lv_aload_n (pc := 0) S.1 S.2.1 dX8_about_0 rfl (lv_at hl 0 rfl) ?_
  refine lv_iload_n (pc := 1) S.1 S.2.1 dX8_about_1 rfl (lv_at hl 1 rfl) ?_
  refine tGi hS (tRunV (pc := 2) (As := [.int x1]) (rest := []) S E hP hS (mt_X8_isCall l dC dI a ca tb _ x1 st _ h) (cw_X8_isCall ⟨Nat.le_of_ble_eq_true rfl, Nat.le_of_ble_eq_true rfl⟩) kw_422 kw_423 kw_424 0 8 rfl rfl (cM_mo a ca st) rfl hl.1 rfl (Nat.le_of_ble_eq_true rfl) dX8_about_2) (fun r2 st1 H locs h hP hS => ?_)
  refine lv_if_eq (pc := 5) (tgt := 27) S.1 S.2.1 dX8_about_5 (by decide) (fun c1 => ?_) (fun c1 => ?_)
  · have h := h.1 c1
    refine lv_iconst (pc := 27) S.1 S.2.1 (v := (-1)) dX8_about_27 (by decide) ?_
    exact tRi S hr hlk hP hS h dX8_about_28
  · have h := h.2 c1
    refine lv_iload_n (pc := 8) S.1 S.2.1 dX8_about_8 rfl (lv_at hl 2 rfl) ?_
    refine lv_iconst (pc := 9) S.1 S.2.1 (v := 0) dX8_about_9 (by decide) ?_
    refine lv_bipush (pc := 10) S.1 S.2.1 (v := 7) dX8_about_10 (by decide) ?_
    refine tGi hS (tRunS (pc := 12) (As := [.int x2, .int (0 : Int32), .int (7 : Int32)]) (rest := []) S E hP hS (mt_X8_lies l dC dI a ca tb _ x2 (0 : Int32) (7 : Int32) st1 _ h) (cw_X8_lies ⟨Nat.le_of_ble_eq_true rfl, Nat.le_of_ble_eq_true rfl⟩) kw_394 kw_393 rfl hl.1 rfl (Nat.le_of_ble_eq_true rfl) dX8_about_12) (fun r4 st3 H locs h hP hS => ?_)
    refine lv_if_eq (pc := 15) (tgt := 27) S.1 S.2.1 dX8_about_15 (by decide) (fun c2 => ?_) (fun c2 => ?_)
    · have h := h.1 c2
      refine lv_iconst (pc := 27) S.1 S.2.1 (v := (-1)) dX8_about_27 (by decide) ?_
      exact tRi S hr hlk hP hS h dX8_about_28
    · have h := h.2 c2
      refine lv_aload_n (pc := 18) S.1 S.2.1 dX8_about_18 rfl (lv_at hl 0 rfl) ?_
      refine lv_iload_n (pc := 19) S.1 S.2.1 dX8_about_19 rfl (lv_at hl 1 rfl) ?_
      refine lv_iload_n (pc := 20) S.1 S.2.1 dX8_about_20 rfl (lv_at hl 2 rfl) ?_
      refine tGi hS (tRunV (pc := 21) (As := [.int x1, .int x2]) (rest := []) S E hP hS (mt_X8_of l dC dI a ca tb _ x1 x2 st3 _ h) (cw_X8_of ⟨Nat.le_of_ble_eq_true rfl, Nat.le_of_ble_eq_true rfl⟩) kw_429 kw_430 kw_431 0 8 rfl rfl (cM_mo a ca st3) rfl hl.1 rfl (Nat.le_of_ble_eq_true rfl) dX8_about_21) (fun r6 st5 H locs h hP hS => ?_)
      refine lv_goto (pc := 24) S.1 S.2.1 (tgt := 28) dX8_about_24 (by decide) ?_
      exact tRi S hr hlk hP hS h dX8_about_28

abbrev rmX8_count : Room := { frames := 2, cells := 0, slots := 0, locals := 43 }
theorem cw_X8_count {R : Room} {own : String} {index : Nat} (h : rmX8_count.frames + 1 ≤ R.frames ∧ 8 + (4 + 11) + rmX8_count.locals ≤ R.locals) : tCw R own index yX8_count cX8_count 4 (some .int) rmX8_count 1 := ⟨kw_522, kw_373, ⟨rfl, rfl, h.1, h.2⟩, by decide +kernel, by decide +kernel, by decide +kernel⟩
set_option maxHeartbeats 4000000 in
set_option maxRecDepth 100000 in
theorem wk_X8_count_145 {p : Program} {l : Launch} {e : Env} {s : State} {m : MethodId} {args : Array Value} {below : List Frame} {meth : Method} {c : Code} {dC : Nat → ClassId} {dI : Nat → Nat → Nat} {a : Nat → Nat} {ca : Nat → ClassId} {tb : Nat → Nat} {w0 : Cond} (S : CallFix p m c cX8_count 4 s args (w0 :: tWALL) RX8) (hr : meth.sig.returnType = (some .int)) (hlk : meth.locks = false) (E : tEnv 21 dC dI a ca tb s) (post : Int32 → tSt → Prop) (k125 : Int32 → Int32 → tSt → Prop) (hk125 : ∀ (x2 : Int32) (x3 : Int32) (st : tSt), k125 x2 x3 st → tAt p l e rmX8_count s m args below meth c (dC, dI) (cwM a ca) (tA 21 a s.heap.size) (tQi (cwM a ca) 21 dC dI a args below s post) 4 125 [(0, .ref (a 0)), (2, .int x2), (3, .int x3)] [] st) : ∀ (x3 : Int32) (s0 : Int32) (s1 : Int32) (st : tSt), wp_M_count_145 post k125 x3 s0 s1 st → tAt p l e rmX8_count s m args below meth c (dC, dI) (cwM a ca) (tA 21 a s.heap.size) (tQi (cwM a ca) 21 dC dI a args below s post) 4 145 [(0, .ref (a 0)), (3, .int x3)] [.int s1, .int s0] st := by
  intro x3 s0 s1 st h H locs ls hP hS hl
  refine lv_iadd (pc := 145) S.1 S.2.1 dX8_count_145 ?_
  refine lv_topi (fun y2_1 e1 => ?_)
  have h := h y2_1 e1
  refine lv_istore_n (pc := 146) S.1 S.2.1 (lv' := [(2, .int y2_1), (0, .ref (a 0)), (3, .int x3)]) dX8_count_146 rfl hl (by decide) rfl (fun ls hl => ?_)
  obtain ⟨y3_2, e2⟩ : ∃ y : Int32, y = x3 + 1 := ⟨_, rfl⟩
  have h := h y3_2 e2
  refine lv_iinc (pc := 147) S.1 S.2.1 (v := y3_2) (lv' := [(3, .int y3_2), (2, .int y2_1), (0, .ref (a 0))]) dX8_count_147 hl (k := 2) rfl (by rw [e2]; rfl) (by decide) rfl (fun ls hl => ?_)
  refine lv_goto (pc := 150) S.1 S.2.1 (tgt := 125) dX8_count_150 (by decide) ?_
  exact hk125 y2_1 y3_2 st h _ _ _ hP hS (lv_sub hl [2, 1, 0] rfl)
set_option maxHeartbeats 4000000 in
set_option maxRecDepth 100000 in
theorem wk_X8_count_125 {p : Program} {l : Launch} {e : Env} {s : State} {m : MethodId} {args : Array Value} {below : List Frame} {meth : Method} {c : Code} {dC : Nat → ClassId} {dI : Nat → Nat → Nat} {a : Nat → Nat} {ca : Nat → ClassId} {tb : Nat → Nat} {w0 : Cond} (S : CallFix p m c cX8_count 4 s args (w0 :: tWALL) RX8) (hr : meth.sig.returnType = (some .int)) (hlk : meth.locks = false) (E : tEnv 21 dC dI a ca tb s) (post : Int32 → tSt → Prop) : ∀ (n : Nat) (x2 : Int32) (x3 : Int32) (st : tSt), wp_M_count_125 post n x2 x3 st → tAt p l e rmX8_count s m args below meth c (dC, dI) (cwM a ca) (tA 21 a s.heap.size) (tQi (cwM a ca) 21 dC dI a args below s post) 4 125 [(0, .ref (a 0)), (2, .int x2), (3, .int x3)] [] st := by
  intro n
  induction n with
  | zero => intro x2 x3 st h; exact absurd h id
  | succ n ih =>
    intro x2 x3 st h H locs ls hP hS hl
    refine lv_iload_n (pc := 125) S.1 S.2.1 dX8_count_125 rfl (lv_at hl 2 rfl) ?_
    refine lv_bipush (pc := 126) S.1 S.2.1 (v := 6) dX8_count_126 (by decide) ?_
    refine lv_icmp_ge (pc := 128) (tgt := 153) S.1 S.2.1 dX8_count_128 (by decide) (fun c1 => ?_) (fun c1 => ?_)
    · have h := h.1 c1
      refine lv_iload_n (pc := 153) S.1 S.2.1 dX8_count_153 rfl (lv_at hl 1 rfl) ?_
      exact tRi S hr hlk hP hS h dX8_count_154
    · have h := h.2 c1
      refine lv_iload_n (pc := 131) S.1 S.2.1 dX8_count_131 rfl (lv_at hl 1 rfl) ?_
      refine lv_aload_n (pc := 132) S.1 S.2.1 dX8_count_132 rfl (lv_at hl 0 rfl) ?_
      refine lv_iload_n (pc := 133) S.1 S.2.1 dX8_count_133 rfl (lv_at hl 2 rfl) ?_
      refine tGi hS (tRunV (pc := 134) (As := [.int x3]) (rest := [.int x2]) S E hP hS (mt_X8_isCall l dC dI a ca tb _ x3 st _ h) (cw_X8_isCall ⟨Nat.le_of_ble_eq_true rfl, Nat.le_of_ble_eq_true rfl⟩) kw_422 kw_423 kw_424 0 8 rfl rfl (cM_mo a ca st) rfl hl.1 rfl (Nat.le_of_ble_eq_true rfl) dX8_count_134) (fun r2 st1 H locs h hP hS => ?_)
      refine lv_if_eq (pc := 137) (tgt := 144) S.1 S.2.1 dX8_count_137 (by decide) (fun c2 => ?_) (fun c2 => ?_)
      · have h := h.1 c2
        refine lv_iconst (pc := 144) S.1 S.2.1 (v := 0) dX8_count_144 (by decide) ?_
        exact (fun x3 s0 s1 st h => wk_X8_count_145 S hr hlk E post (wp_M_count_125 post n) ih x3 s0 s1 st h) x3 x2 (0 : Int32) st1 h _ _ _ hP hS (lv_sub hl [0, 2] rfl)
      · have h := h.2 c2
        refine lv_iconst (pc := 140) S.1 S.2.1 (v := 1) dX8_count_140 (by decide) ?_
        refine lv_goto (pc := 141) S.1 S.2.1 (tgt := 145) dX8_count_141 (by decide) ?_
        exact (fun x3 s0 s1 st h => wk_X8_count_145 S hr hlk E post (wp_M_count_125 post n) ih x3 s0 s1 st h) x3 x2 (1 : Int32) st1 h _ _ _ hP hS (lv_sub hl [0, 2] rfl)
set_option maxHeartbeats 4000000 in
set_option maxRecDepth 100000 in
theorem mt_X8_count (l : Launch) (dC : Nat → ClassId) (dI : Nat → Nat → Nat) (a : Nat → Nat) (ca : Nat → ClassId) (tb : Nat → Nat) (sz : Nat) (x1 : Int32) (st : tSt) (post : Int32 → tSt → Prop) (h : wp_M_count x1 st post) : Met l yX8_count (.code yX8_count cX8_count 4 (some .int) :: tWALL) rmX8_count (va_Pc [.ref (a 0), .int x1] (tPre 21 (cwM a ca) dC dI a ca tb sz st)) (va_Qi post (tB (cwM a ca) dC dI) (tA 21 a sz)) 0 0 (tA 21 a sz) := by
  refine tp_met (by decide) (Nat.le_of_ble_eq_true rfl) ?_
  intro p e s m below meth c ls S hr hlk hsz E hP hl
  subst hsz
  have S : CallFix p m c cX8_count 4 s _ (.code yX8_count cX8_count 4 (some .int) :: tWALL) RX8 := S
  have hl : lv_has ls 4 [(0, .ref (a 0)), (1, .int x1)] := hl
  have hS : va_S (tA 21 a s.heap.size) s.heap s.heap [] := va_S.rf
  show W p l e _ s m _ below meth c s.heap [] 0 0 (tQi (cwM a ca) 21 dC dI a ([.ref (a 0), .int x1] : List Value).toArray below s post) (F0 m 0 ls [])
  refine lv_iload_n (pc := 0) S.1 S.2.1 dX8_count_0 rfl (lv_at hl 1 rfl) ?_
  refine lv_bipush (pc := 1) S.1 S.2.1 (v := 10) dX8_count_1 (by decide) ?_
  refine lv_bipush (pc := 3) S.1 S.2.1 (v := 13) dX8_count_3 (by decide) ?_
  refine tGi hS (tRunS (pc := 5) (As := [.int x1, .int (10 : Int32), .int (13 : Int32)]) (rest := []) S E hP hS (mt_X8_lies l dC dI a ca tb _ x1 (10 : Int32) (13 : Int32) st _ h) (cw_X8_lies ⟨Nat.le_of_ble_eq_true rfl, Nat.le_of_ble_eq_true rfl⟩) kw_394 kw_393 rfl hl.1 rfl (Nat.le_of_ble_eq_true rfl) dX8_count_5) (fun r2 st1 H locs h hP hS => ?_)
  refine lv_if_eq (pc := 8) (tgt := 21) S.1 S.2.1 dX8_count_8 (by decide) (fun c1 => ?_) (fun c1 => ?_)
  · have h := h.1 c1
    refine lv_iload_n (pc := 21) S.1 S.2.1 dX8_count_21 rfl (lv_at hl 1 rfl) ?_
    refine lv_bipush (pc := 22) S.1 S.2.1 (v := 20) dX8_count_22 (by decide) ?_
    refine lv_bipush (pc := 24) S.1 S.2.1 (v := 24) dX8_count_24 (by decide) ?_
    refine tGi hS (tRunS (pc := 26) (As := [.int x1, .int (20 : Int32), .int (24 : Int32)]) (rest := []) S E hP hS (mt_X8_lies l dC dI a ca tb _ x1 (20 : Int32) (24 : Int32) st1 _ h) (cw_X8_lies ⟨Nat.le_of_ble_eq_true rfl, Nat.le_of_ble_eq_true rfl⟩) kw_394 kw_393 rfl hl.1 rfl (Nat.le_of_ble_eq_true rfl) dX8_count_26) (fun r4 st3 H locs h hP hS => ?_)
    refine lv_if_eq (pc := 29) (tgt := 42) S.1 S.2.1 dX8_count_29 (by decide) (fun c2 => ?_) (fun c2 => ?_)
    · have h := h.1 c2
      refine lv_iload_n (pc := 42) S.1 S.2.1 dX8_count_42 rfl (lv_at hl 1 rfl) ?_
      refine lv_bipush (pc := 43) S.1 S.2.1 (v := 30) dX8_count_43 (by decide) ?_
      refine lv_bipush (pc := 45) S.1 S.2.1 (v := 29) dX8_count_45 (by decide) ?_
      refine lv_aload_n (pc := 47) S.1 S.2.1 dX8_count_47 rfl (lv_at hl 0 rfl) ?_
      refine tp_get (pc := 48) S E.1 hP iwX8 0 (cM_mo a ca st3) rfl 4 (by decide) kw_483 (v := .int (st3 3 0)) rfl dX8_count_48 ?_
      refine lv_iadd (pc := 51) S.1 S.2.1 dX8_count_51 ?_
      refine tGi hS (tRunS (pc := 52) (As := [.int x1, .int (30 : Int32), .int ((29 : Int32) + (st3 3 0))]) (rest := []) S E hP hS (mt_X8_lies l dC dI a ca tb _ x1 (30 : Int32) ((29 : Int32) + (st3 3 0)) st3 _ h) (cw_X8_lies ⟨Nat.le_of_ble_eq_true rfl, Nat.le_of_ble_eq_true rfl⟩) kw_394 kw_393 rfl hl.1 rfl (Nat.le_of_ble_eq_true rfl) dX8_count_52) (fun r6 st5 H locs h hP hS => ?_)
      refine lv_if_eq (pc := 55) (tgt := 68) S.1 S.2.1 dX8_count_55 (by decide) (fun c3 => ?_) (fun c3 => ?_)
      · have h := h.1 c3
        refine lv_iconst (pc := 68) S.1 S.2.1 (v := 0) dX8_count_68 (by decide) ?_
        refine lv_istore_n (pc := 69) S.1 S.2.1 (lv' := [(2, .int (0 : Int32)), (0, .ref (a 0)), (1, .int x1)]) dX8_count_69 rfl hl (by decide) rfl (fun ls hl => ?_)
        refine lv_iload_n (pc := 70) S.1 S.2.1 dX8_count_70 rfl (lv_at hl 2 rfl) ?_
        by_cases c4 : x1 = 0
        · have h := h.1 c4
          refine lv_tableIn (pc := 71) (tgt := 108) S.1 S.2.1 dX8_count_71 (by rw [c4]; decide) (by rw [c4]; decide) (by rw [c4]; rfl) (by decide) ?_
          refine lv_aload_n (pc := 108) S.1 S.2.1 dX8_count_108 rfl (lv_at hl 1 rfl) ?_
          refine tp_get (pc := 109) S E.1 hP iwX8 0 (cM_mo a ca st5) rfl 2 (by decide) kw_489 (v := .int (st5 1 0)) rfl dX8_count_109 ?_
          exact tRi S hr hlk hP hS h dX8_count_112
        have h := h.2 c4
        by_cases c5 : x1 = 1
        · have h := h.1 c5
          refine lv_tableIn (pc := 71) (tgt := 113) S.1 S.2.1 dX8_count_71 (by rw [c5]; decide) (by rw [c5]; decide) (by rw [c5]; rfl) (by decide) ?_
          refine lv_aload_n (pc := 113) S.1 S.2.1 dX8_count_113 rfl (lv_at hl 1 rfl) ?_
          refine tGi hS (tRunV (pc := 114) (As := []) (rest := []) S E hP hS (mt_X8_month l dC dI a ca tb _  st5 _ h) (cw_X8_month ⟨Nat.le_of_ble_eq_true rfl, Nat.le_of_ble_eq_true rfl⟩) kw_493 kw_494 kw_495 0 8 rfl rfl (cM_mo a ca st5) rfl hl.1 rfl (Nat.le_of_ble_eq_true rfl) dX8_count_114) (fun r8 st7 H locs h hP hS => ?_)
          exact tRi S hr hlk hP hS h dX8_count_117
        have h := h.2 c5
        by_cases c6 : x1 = 2
        · have h := h.1 c6
          refine lv_tableIn (pc := 71) (tgt := 118) S.1 S.2.1 dX8_count_71 (by rw [c6]; decide) (by rw [c6]; decide) (by rw [c6]; rfl) (by decide) ?_
          refine lv_aload_n (pc := 118) S.1 S.2.1 dX8_count_118 rfl (lv_at hl 1 rfl) ?_
          refine tp_get (pc := 119) S E.1 hP iwX8 0 (cM_mo a ca st5) rfl 3 (by decide) kw_405 (v := .int (st5 2 0)) rfl dX8_count_119 ?_
          exact tRi S hr hlk hP hS h dX8_count_122
        have h := h.2 c6
        by_cases c7 : x1 = 3
        · have h := h.1 c7
          refine lv_tableIn (pc := 71) (tgt := 123) S.1 S.2.1 dX8_count_71 (by rw [c7]; decide) (by rw [c7]; decide) (by rw [c7]; rfl) (by decide) ?_
          refine lv_iconst (pc := 123) S.1 S.2.1 (v := 0) dX8_count_123 (by decide) ?_
          refine lv_istore_n (pc := 124) S.1 S.2.1 (lv' := [(3, .int (0 : Int32)), (2, .int (0 : Int32)), (0, .ref (a 0)), (1, .int x1)]) dX8_count_124 rfl hl (by decide) rfl (fun ls hl => ?_)
          exact (fun x2 x3 st h => Exists.elim h (fun q h => wk_X8_count_125 S hr hlk E post  q x2 x3 st h)) (0 : Int32) (0 : Int32) st5 h _ _ _ hP hS (lv_sub hl [2, 1, 0] rfl)
        have h := h.2 c7
        by_cases c8 : x1 = 4
        · have h := h.1 c8
          refine lv_tableIn (pc := 71) (tgt := 155) S.1 S.2.1 dX8_count_71 (by rw [c8]; decide) (by rw [c8]; decide) (by rw [c8]; rfl) (by decide) ?_
          refine lv_aload_n (pc := 155) S.1 S.2.1 dX8_count_155 rfl (lv_at hl 1 rfl) ?_
          refine tp_get (pc := 156) S E.1 hP iwX8 0 (cM_mo a ca st5) rfl 4 (by decide) kw_483 (v := .int (st5 3 0)) rfl dX8_count_156 ?_
          exact tRi S hr hlk hP hS h dX8_count_159
        have h := h.2 c8
        by_cases c9 : x1 = 5
        · have h := h.1 c9
          refine lv_tableIn (pc := 71) (tgt := 160) S.1 S.2.1 dX8_count_71 (by rw [c9]; decide) (by rw [c9]; decide) (by rw [c9]; rfl) (by decide) ?_
          refine lv_aload_n (pc := 160) S.1 S.2.1 dX8_count_160 rfl (lv_at hl 1 rfl) ?_
          refine tp_get (pc := 161) S E.1 hP iwX8 0 (cM_mo a ca st5) rfl 1 (by decide) kw_377 (v := .int (st5 0 0)) rfl dX8_count_161 ?_
          exact tRi S hr hlk hP hS h dX8_count_164
        have h := h.2 c9
        refine lv_tableOut (pc := 71) (tgt := 165) S.1 S.2.1 dX8_count_71 (by have := lv_neT (a := 0) c4 rfl; have := lv_neT (a := 1) c5 rfl; have := lv_neT (a := 2) c6 rfl; have := lv_neT (a := 3) c7 rfl; have := lv_neT (a := 4) c8 rfl; have := lv_neT (a := 5) c9 rfl; omega) (by decide) ?_
        refine lv_iconst (pc := 165) S.1 S.2.1 (v := (-1)) dX8_count_165 (by decide) ?_
        exact tRi S hr hlk hP hS h dX8_count_166
      · have h := h.2 c3
        refine lv_aload_n (pc := 58) S.1 S.2.1 dX8_count_58 rfl (lv_at hl 0 rfl) ?_
        refine tp_get (pc := 59) S E.1 hP iwX8 0 (cM_mo a ca st5) rfl 17 (by decide) kw_486 (v := .ref (a 12)) rfl dX8_count_59 ?_
        refine lv_iload_n (pc := 62) S.1 S.2.1 dX8_count_62 rfl (lv_at hl 1 rfl) ?_
        refine lv_bipush (pc := 63) S.1 S.2.1 (v := 30) dX8_count_63 (by decide) ?_
        refine lv_isub (pc := 65) S.1 S.2.1 dX8_count_65 ?_
        obtain ⟨hn10, h⟩ := h
        refine tp_iald (pc := 66) S E.1 hP 12 0 (cM_heardDay a ca st5) rfl (j := (x1 - (30 : Int32)).toNatClampNeg) rfl hn10 dX8_count_66 ?_
        exact tRi S hr hlk hP hS h dX8_count_67
    · have h := h.2 c2
      refine lv_aload_n (pc := 32) S.1 S.2.1 dX8_count_32 rfl (lv_at hl 0 rfl) ?_
      refine tp_get (pc := 33) S E.1 hP iwX8 0 (cM_mo a ca st3) rfl 13 (by decide) kw_416 (v := .ref (a 8)) rfl dX8_count_33 ?_
      refine lv_iload_n (pc := 36) S.1 S.2.1 dX8_count_36 rfl (lv_at hl 1 rfl) ?_
      refine lv_bipush (pc := 37) S.1 S.2.1 (v := 20) dX8_count_37 (by decide) ?_
      refine lv_isub (pc := 39) S.1 S.2.1 dX8_count_39 ?_
      obtain ⟨hn11, h⟩ := h
      refine tp_iald (pc := 40) S E.1 hP 8 0 (cM_pieces a ca st3) rfl (j := (x1 - (20 : Int32)).toNatClampNeg) rfl hn11 dX8_count_40 ?_
      exact tRi S hr hlk hP hS h dX8_count_41
  · have h := h.2 c1
    refine lv_aload_n (pc := 11) S.1 S.2.1 dX8_count_11 rfl (lv_at hl 0 rfl) ?_
    refine tp_get (pc := 12) S E.1 hP iwX8 0 (cM_mo a ca st1) rfl 7 (by decide) kw_400 (v := .ref (a 2)) rfl dX8_count_12 ?_
    refine lv_iload_n (pc := 15) S.1 S.2.1 dX8_count_15 rfl (lv_at hl 1 rfl) ?_
    refine lv_bipush (pc := 16) S.1 S.2.1 (v := 10) dX8_count_16 (by decide) ?_
    refine lv_isub (pc := 18) S.1 S.2.1 dX8_count_18 ?_
    obtain ⟨hn12, h⟩ := h
    refine tp_iald (pc := 19) S E.1 hP 2 0 (cM_four a ca st1 (j := 0) (by decide)) rfl (j := (x1 - (10 : Int32)).toNatClampNeg) rfl hn12 dX8_count_19 ?_
    exact tRi S hr hlk hP hS h dX8_count_20
