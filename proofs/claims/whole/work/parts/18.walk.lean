abbrev rmX7_count : Room := { frames := 2, cells := 0, slots := 0, locals := 43 }
theorem cw_X7_count {R : Room} {own : String} {index : Nat} (h : rmX7_count.frames + 1 ≤ R.frames ∧ 8 + (2 + 11) + rmX7_count.locals ≤ R.locals) : tCw R own index yX7_count cX7_count 2 (some .int) rmX7_count 1 := ⟨kw_372, kw_6, ⟨rfl, rfl, h.1, h.2⟩, by decide +kernel, by decide +kernel, by decide +kernel⟩

set_option maxHeartbeats 4000000 in
set_option maxRecDepth 100000 in
theorem mt_X7_count (l : Launch) (dC : Nat → ClassId) (dI : Nat → Nat → Nat) (a : Nat → Nat) (ca : Nat → ClassId) (tb : Nat → Nat) (sz : Nat) (x1 : Int32) (st : tSt) (post : Int32 → tSt → Prop) (h : wp_T_count x1 st post) : Met l yX7_count (.code yX7_count cX7_count 2 (some .int) :: tWALL) rmX7_count (va_Pc [.ref (a 0), .int x1] (tPre 47 (cwC a ca) dC dI a ca tb sz st)) (va_Qi post (tB (cwC a ca) dC dI) (tA 47 a sz)) 0 0 (tA 47 a sz) := by
  refine tp_met (by decide) (Nat.le_of_ble_eq_true rfl) ?_
  intro p e s m below meth c ls S hr hlk hsz E hP hl
  subst hsz
  have S : CallFix p m c cX7_count 2 s _ (.code yX7_count cX7_count 2 (some .int) :: tWALL) RX7 := S
  have hl : lv_has ls 2 [(0, .ref (a 0)), (1, .int x1)] := hl
  have hS : va_S (tA 47 a s.heap.size) s.heap s.heap [] := va_S.rf
  show W p l e _ s m _ below meth c s.heap [] 0 0 (tQi (cwC a ca) 47 dC dI a ([.ref (a 0), .int x1] : List Value).toArray below s post) (F0 m 0 ls [])
  refine lv_iload_n (pc := 0) S.1 S.2.1 dX7_count_0 rfl (lv_at hl 1 rfl) ?_
  refine lv_bipush (pc := 1) S.1 S.2.1 (v := 10) dX7_count_1 (by decide) ?_
  refine lv_bipush (pc := 3) S.1 S.2.1 (v := 13) dX7_count_3 (by decide) ?_
  refine tGi hS (tRunS (pc := 5) (As := [.int x1, .int (10 : Int32), .int (13 : Int32)]) (rest := []) S E hP hS (mt_X7_within l dC dI a ca tb _ x1 (10 : Int32) (13 : Int32) st _ h) (cw_X7_within ⟨Nat.le_of_ble_eq_true rfl, Nat.le_of_ble_eq_true rfl⟩) kw_243 kw_8 rfl hl.1 rfl (Nat.le_of_ble_eq_true rfl) dX7_count_5) (fun r2 st1 H locs h hP hS => ?_)
  refine lv_if_eq (pc := 8) (tgt := 23) S.1 S.2.1 dX7_count_8 (by decide) (fun c1 => ?_) (fun c1 => ?_)
  · have h := h.1 c1
    refine lv_iload_n (pc := 23) S.1 S.2.1 dX7_count_23 rfl (lv_at hl 1 rfl) ?_
    refine lv_bipush (pc := 24) S.1 S.2.1 (v := 20) dX7_count_24 (by decide) ?_
    refine lv_bipush (pc := 26) S.1 S.2.1 (v := 24) dX7_count_26 (by decide) ?_
    refine tGi hS (tRunS (pc := 28) (As := [.int x1, .int (20 : Int32), .int (24 : Int32)]) (rest := []) S E hP hS (mt_X7_within l dC dI a ca tb _ x1 (20 : Int32) (24 : Int32) st1 _ h) (cw_X7_within ⟨Nat.le_of_ble_eq_true rfl, Nat.le_of_ble_eq_true rfl⟩) kw_243 kw_8 rfl hl.1 rfl (Nat.le_of_ble_eq_true rfl) dX7_count_28) (fun r4 st3 H locs h hP hS => ?_)
    refine lv_if_eq (pc := 31) (tgt := 44) S.1 S.2.1 dX7_count_31 (by decide) (fun c2 => ?_) (fun c2 => ?_)
    · have h := h.1 c2
      refine lv_iload_n (pc := 44) S.1 S.2.1 dX7_count_44 rfl (lv_at hl 1 rfl) ?_
      refine lv_bipush (pc := 45) S.1 S.2.1 (v := 30) dX7_count_45 (by decide) ?_
      refine lv_bipush (pc := 47) S.1 S.2.1 (v := 39) dX7_count_47 (by decide) ?_
      refine tGi hS (tRunS (pc := 49) (As := [.int x1, .int (30 : Int32), .int (39 : Int32)]) (rest := []) S E hP hS (mt_X7_within l dC dI a ca tb _ x1 (30 : Int32) (39 : Int32) st3 _ h) (cw_X7_within ⟨Nat.le_of_ble_eq_true rfl, Nat.le_of_ble_eq_true rfl⟩) kw_243 kw_8 rfl hl.1 rfl (Nat.le_of_ble_eq_true rfl) dX7_count_49) (fun r6 st5 H locs h hP hS => ?_)
      refine lv_if_eq (pc := 52) (tgt := 68) S.1 S.2.1 dX7_count_52 (by decide) (fun c3 => ?_) (fun c3 => ?_)
      · have h := h.1 c3
        refine lv_iload_n (pc := 68) S.1 S.2.1 dX7_count_68 rfl (lv_at hl 1 rfl) ?_
        by_cases c4 : x1 = 0
        · have h := h.1 c4
          refine lv_tableIn (pc := 69) (tgt := 108) S.1 S.2.1 dX7_count_69 (by rw [c4]; decide) (by rw [c4]; decide) (by rw [c4]; rfl) (by decide) ?_
          refine lv_aload_n (pc := 108) S.1 S.2.1 dX7_count_108 rfl (lv_at hl 0 rfl) ?_
          refine tp_get (pc := 109) S E.1 hP iwX7 0 (cC_tp a ca st5) rfl 10 (by decide) kw_279 (v := .int (st5 2 0)) rfl dX7_count_109 ?_
          exact tRi S hr hlk hP hS h dX7_count_112
        have h := h.2 c4
        by_cases c5 : x1 = 1
        · have h := h.1 c5
          refine lv_tableIn (pc := 69) (tgt := 113) S.1 S.2.1 dX7_count_69 (by rw [c5]; decide) (by rw [c5]; decide) (by rw [c5]; rfl) (by decide) ?_
          refine lv_aload_n (pc := 113) S.1 S.2.1 dX7_count_113 rfl (lv_at hl 0 rfl) ?_
          refine tGi hS (tRunV (pc := 114) (As := []) (rest := []) S E hP hS (mt_X7_monthOfToday l dC dI a ca tb _  st5 _ h) (cw_X7_monthOfToday ⟨Nat.le_of_ble_eq_true rfl, Nat.le_of_ble_eq_true rfl⟩) kw_289 kw_290 kw_291 0 7 rfl rfl (cC_tp a ca st5) rfl hl.1 rfl (Nat.le_of_ble_eq_true rfl) dX7_count_114) (fun r8 st7 H locs h hP hS => ?_)
          exact tRi S hr hlk hP hS h dX7_count_117
        have h := h.2 c5
        by_cases c6 : x1 = 2
        · have h := h.1 c6
          refine lv_tableIn (pc := 69) (tgt := 118) S.1 S.2.1 dX7_count_69 (by rw [c6]; decide) (by rw [c6]; decide) (by rw [c6]; rfl) (by decide) ?_
          refine lv_aload_n (pc := 118) S.1 S.2.1 dX7_count_118 rfl (lv_at hl 0 rfl) ?_
          refine tp_get (pc := 119) S E.1 hP iwX7 0 (cC_tp a ca st5) rfl 8 (by decide) kw_242 (v := .int (st5 0 0)) rfl dX7_count_119 ?_
          exact tRi S hr hlk hP hS h dX7_count_122
        have h := h.2 c6
        by_cases c7 : x1 = 3
        · have h := h.1 c7
          refine lv_tableIn (pc := 69) (tgt := 123) S.1 S.2.1 dX7_count_69 (by rw [c7]; decide) (by rw [c7]; decide) (by rw [c7]; rfl) (by decide) ?_
          refine lv_aload_n (pc := 123) S.1 S.2.1 dX7_count_123 rfl (lv_at hl 0 rfl) ?_
          refine tGi hS (tRunV (pc := 124) (As := []) (rest := []) S E hP hS (mt_X7_callCount l dC dI a ca tb _  st5 _ h) (cw_X7_callCount ⟨Nat.le_of_ble_eq_true rfl, Nat.le_of_ble_eq_true rfl⟩) kw_366 kw_367 kw_368 0 7 rfl rfl (cC_tp a ca st5) rfl hl.1 rfl (Nat.le_of_ble_eq_true rfl) dX7_count_124) (fun r10 st9 H locs h hP hS => ?_)
          exact tRi S hr hlk hP hS h dX7_count_127
        have h := h.2 c7
        by_cases c8 : x1 = 4
        · have h := h.1 c8
          refine lv_tableIn (pc := 69) (tgt := 128) S.1 S.2.1 dX7_count_69 (by rw [c8]; decide) (by rw [c8]; decide) (by rw [c8]; rfl) (by decide) ?_
          refine lv_aload_n (pc := 128) S.1 S.2.1 dX7_count_128 rfl (lv_at hl 0 rfl) ?_
          refine tp_get (pc := 129) S E.1 hP iwX7 0 (cC_tp a ca st5) rfl 9 (by decide) kw_307 (v := .int (st5 1 0)) rfl dX7_count_129 ?_
          exact tRi S hr hlk hP hS h dX7_count_132
        have h := h.2 c8
        by_cases c9 : x1 = 5
        · have h := h.1 c9
          refine lv_tableIn (pc := 69) (tgt := 133) S.1 S.2.1 dX7_count_69 (by rw [c9]; decide) (by rw [c9]; decide) (by rw [c9]; rfl) (by decide) ?_
          refine lv_aload_n (pc := 133) S.1 S.2.1 dX7_count_133 rfl (lv_at hl 0 rfl) ?_
          refine tp_get (pc := 134) S E.1 hP iwX7 0 (cC_tp a ca st5) rfl 0 (by decide) kw_222 (v := .ref (a 1)) rfl dX7_count_134 ?_
          refine tGi hS (tRunV (pc := 137) (As := []) (rest := []) S E hP hS (mt_X4_size l dC dI a ca tb _  st5 _ h) (cw_X4_size ⟨Nat.le_of_ble_eq_true rfl, Nat.le_of_ble_eq_true rfl⟩) kw_229 kw_230 kw_231 1 4 rfl rfl (cC_tape a ca st5) rfl hl.1 rfl (Nat.le_of_ble_eq_true rfl) dX7_count_137) (fun r12 st11 H locs h hP hS => ?_)
          exact tRi S hr hlk hP hS h dX7_count_140
        have h := h.2 c9
        refine lv_tableOut (pc := 69) (tgt := 141) S.1 S.2.1 dX7_count_69 (by have := lv_neT (a := 0) c4 rfl; have := lv_neT (a := 1) c5 rfl; have := lv_neT (a := 2) c6 rfl; have := lv_neT (a := 3) c7 rfl; have := lv_neT (a := 4) c8 rfl; have := lv_neT (a := 5) c9 rfl; omega) (by decide) ?_
        refine lv_iconst (pc := 141) S.1 S.2.1 (v := (-1)) dX7_count_141 (by decide) ?_
        exact tRi S hr hlk hP hS h dX7_count_142
      · have h := h.2 c3
        refine lv_aload_n (pc := 55) S.1 S.2.1 dX7_count_55 rfl (lv_at hl 0 rfl) ?_
        refine tp_get (pc := 56) S E.1 hP iwX7 0 (cC_tp a ca st5) rfl 4 (by decide) kw_288 (v := .ref (a 26)) rfl dX7_count_56 ?_
        refine lv_iload_n (pc := 59) S.1 S.2.1 dX7_count_59 rfl (lv_at hl 1 rfl) ?_
        refine lv_bipush (pc := 60) S.1 S.2.1 (v := 30) dX7_count_60 (by decide) ?_
        refine lv_isub (pc := 62) S.1 S.2.1 dX7_count_62 ?_
        obtain ⟨hn10, h⟩ := h
        refine tp_aald (pc := 63) S E.1 hP 26 3 (cC_tunesA a ca st5) rfl (j := (x1 - (30 : Int32)).toNatClampNeg) (d := a (27 + (x1 - (30 : Int32)).toNatClampNeg)) rfl rfl hn10 dX7_count_63 ?_
        have hj11 := t_lt hn10
        refine tGi hS (tRunV (pc := 64) (As := []) (rest := []) S E hP hS (mt_X6_dayHeard l dC dI a ca tb _ hj11 st5 _ h) (cw_X6_dayHeard ⟨Nat.le_of_ble_eq_true rfl, Nat.le_of_ble_eq_true rfl⟩) kw_369 kw_370 kw_371 (27 + (x1 - (30 : Int32)).toNatClampNeg) 6 rfl rfl (cC_tune a ca st5 hj11) rfl hl.1 rfl (Nat.le_of_ble_eq_true rfl) dX7_count_64) (fun r14 st13 H locs h hP hS => ?_)
        exact tRi S hr hlk hP hS h dX7_count_67
    · have h := h.2 c2
      refine lv_aload_n (pc := 34) S.1 S.2.1 dX7_count_34 rfl (lv_at hl 0 rfl) ?_
      refine tp_get (pc := 35) S E.1 hP iwX7 0 (cC_tp a ca st3) rfl 5 (by decide) kw_256 (v := .ref (a 37)) rfl dX7_count_35 ?_
      refine lv_iload_n (pc := 38) S.1 S.2.1 dX7_count_38 rfl (lv_at hl 1 rfl) ?_
      refine lv_bipush (pc := 39) S.1 S.2.1 (v := 20) dX7_count_39 (by decide) ?_
      refine lv_isub (pc := 41) S.1 S.2.1 dX7_count_41 ?_
      obtain ⟨hn12, h⟩ := h
      refine tp_iald (pc := 42) S E.1 hP 37 0 (cC_piecesOf a ca st3) rfl (j := (x1 - (20 : Int32)).toNatClampNeg) rfl hn12 dX7_count_42 ?_
      exact tRi S hr hlk hP hS h dX7_count_43
  · have h := h.2 c1
    refine lv_aload_n (pc := 11) S.1 S.2.1 dX7_count_11 rfl (lv_at hl 0 rfl) ?_
    refine tp_get (pc := 12) S E.1 hP iwX7 0 (cC_tp a ca st1) rfl 1 (by decide) kw_233 (v := .ref (a 3)) rfl dX7_count_12 ?_
    refine lv_iload_n (pc := 15) S.1 S.2.1 dX7_count_15 rfl (lv_at hl 1 rfl) ?_
    refine lv_bipush (pc := 16) S.1 S.2.1 (v := 10) dX7_count_16 (by decide) ?_
    refine lv_isub (pc := 18) S.1 S.2.1 dX7_count_18 ?_
    refine tGi hS (tRunV (pc := 19) (As := [.int (x1 - (10 : Int32))]) (rest := []) S E hP hS (mt_X5_number l dC dI a ca tb _ (x1 - (10 : Int32)) st1 _ h) (cw_X5_number ⟨Nat.le_of_ble_eq_true rfl, Nat.le_of_ble_eq_true rfl⟩) kw_282 kw_283 kw_284 3 5 rfl rfl (cC_tw a ca st1) rfl hl.1 rfl (Nat.le_of_ble_eq_true rfl) dX7_count_19) (fun r16 st15 H locs h hP hS => ?_)
    exact tRi S hr hlk hP hS h dX7_count_22

abbrev rmX8_lies : Room := { frames := 0, cells := 0, slots := 0, locals := 0 }
theorem cw_X8_lies {R : Room} {own : String} {index : Nat} (h : rmX8_lies.frames + 1 ≤ R.frames ∧ 8 + (3 + 11) + rmX8_lies.locals ≤ R.locals) : tCw R own index yX8_lies cX8_lies 3 (some .boolean) rmX8_lies 3 := ⟨kw_374, kw_373, ⟨rfl, rfl, h.1, h.2⟩, by decide +kernel, by decide +kernel, by decide +kernel⟩

set_option maxHeartbeats 4000000 in
set_option maxRecDepth 100000 in
theorem mt_X8_lies (l : Launch) (dC : Nat → ClassId) (dI : Nat → Nat → Nat) (a : Nat → Nat) (ca : Nat → ClassId) (tb : Nat → Nat) (sz : Nat) (x0 : Int32) (x1 : Int32) (x2 : Int32) (st : tSt) (post : Int32 → tSt → Prop) (h : wp_M_lies x0 x1 x2 st post) : Met l yX8_lies (.code yX8_lies cX8_lies 3 (some .boolean) :: tWALL) rmX8_lies (va_Pc [.int x0, .int x1, .int x2] (tPre 21 (cwM a ca) dC dI a ca tb sz st)) (va_Qi post (tB (cwM a ca) dC dI) (tA 21 a sz)) 0 0 (tA 21 a sz) := by
  refine tp_met (by decide) (Nat.le_of_ble_eq_true rfl) ?_
  intro p e s m below meth c ls S hr hlk hsz E hP hl
  subst hsz
  have S : CallFix p m c cX8_lies 3 s _ (.code yX8_lies cX8_lies 3 (some .boolean) :: tWALL) RX8 := S
  have hl : lv_has ls 3 [(0, .int x0), (1, .int x1), (2, .int x2)] := hl
  have hS : va_S (tA 21 a s.heap.size) s.heap s.heap [] := va_S.rf
  show W p l e _ s m _ below meth c s.heap [] 0 0 (tQi (cwM a ca) 21 dC dI a ([.int x0, .int x1, .int x2] : List Value).toArray below s post) (F0 m 0 ls [])
  refine lv_iload_n (pc := 0) S.1 S.2.1 dX8_lies_0 rfl (lv_at hl 0 rfl) ?_
  refine lv_iload_n (pc := 1) S.1 S.2.1 dX8_lies_1 rfl (lv_at hl 1 rfl) ?_
  refine lv_icmp_lt (pc := 2) (tgt := 14) S.1 S.2.1 dX8_lies_2 (by decide) (fun c1 => ?_) (fun c1 => ?_)
  · have h := h.1 c1
    refine lv_iconst (pc := 14) S.1 S.2.1 (v := 0) dX8_lies_14 (by decide) ?_
    exact tRz S hr hlk hP hS (Or.inl rfl) h dX8_lies_15
  · have h := h.2 c1
    refine lv_iload_n (pc := 5) S.1 S.2.1 dX8_lies_5 rfl (lv_at hl 0 rfl) ?_
    refine lv_iload_n (pc := 6) S.1 S.2.1 dX8_lies_6 rfl (lv_at hl 2 rfl) ?_
    refine lv_icmp_gt (pc := 7) (tgt := 14) S.1 S.2.1 dX8_lies_7 (by decide) (fun c2 => ?_) (fun c2 => ?_)
    · have h := h.1 c2
      refine lv_iconst (pc := 14) S.1 S.2.1 (v := 0) dX8_lies_14 (by decide) ?_
      exact tRz S hr hlk hP hS (Or.inl rfl) h dX8_lies_15
    · have h := h.2 c2
      refine lv_iconst (pc := 10) S.1 S.2.1 (v := 1) dX8_lies_10 (by decide) ?_
      refine lv_goto (pc := 11) S.1 S.2.1 (tgt := 15) dX8_lies_11 (by decide) ?_
      exact tRz S hr hlk hP hS (Or.inr rfl) h dX8_lies_15

abbrev rmX8_has : Room := { frames := 0, cells := 0, slots := 0, locals := 0 }
theorem cw_X8_has {R : Room} {own : String} {index : Nat} (h : rmX8_has.frames + 1 ≤ R.frames ∧ 8 + (2 + 11) + rmX8_has.locals ≤ R.locals) : tCw R own index yX8_has cX8_has 2 (some .boolean) rmX8_has 2 := ⟨kw_375, kw_373, ⟨rfl, rfl, h.1, h.2⟩, by decide +kernel, by decide +kernel, by decide +kernel⟩

set_option maxHeartbeats 4000000 in
set_option maxRecDepth 100000 in
theorem mt_X8_has (l : Launch) (dC : Nat → ClassId) (dI : Nat → Nat → Nat) (a : Nat → Nat) (ca : Nat → ClassId) (tb : Nat → Nat) (sz : Nat) (x0 : Int32) (x1 : Int32) (st : tSt) (post : Int32 → tSt → Prop) (h : wp_M_has x0 x1 st post) : Met l yX8_has (.code yX8_has cX8_has 2 (some .boolean) :: tWALL) rmX8_has (va_Pc [.int x0, .int x1] (tPre 21 (cwM a ca) dC dI a ca tb sz st)) (va_Qi post (tB (cwM a ca) dC dI) (tA 21 a sz)) 0 0 (tA 21 a sz) := by
  refine tp_met (by decide) (Nat.le_of_ble_eq_true rfl) ?_
  intro p e s m below meth c ls S hr hlk hsz E hP hl
  subst hsz
  have S : CallFix p m c cX8_has 2 s _ (.code yX8_has cX8_has 2 (some .boolean) :: tWALL) RX8 := S
  have hl : lv_has ls 2 [(0, .int x0), (1, .int x1)] := hl
  have hS : va_S (tA 21 a s.heap.size) s.heap s.heap [] := va_S.rf
  show W p l e _ s m _ below meth c s.heap [] 0 0 (tQi (cwM a ca) 21 dC dI a ([.int x0, .int x1] : List Value).toArray below s post) (F0 m 0 ls [])
  refine lv_iload_n (pc := 0) S.1 S.2.1 dX8_has_0 rfl (lv_at hl 0 rfl) ?_
  refine lv_iload_n (pc := 1) S.1 S.2.1 dX8_has_1 rfl (lv_at hl 1 rfl) ?_
  refine lv_ishr (pc := 2) S.1 S.2.1 dX8_has_2 ?_
  refine lv_iconst (pc := 3) S.1 S.2.1 (v := 1) dX8_has_3 (by decide) ?_
  refine lv_iand (pc := 4) S.1 S.2.1 dX8_has_4 ?_
  refine lv_iconst (pc := 5) S.1 S.2.1 (v := 1) dX8_has_5 (by decide) ?_
  refine lv_icmp_ne (pc := 6) (tgt := 13) S.1 S.2.1 dX8_has_6 (by decide) (fun c1 => ?_) (fun c1 => ?_)
  · have h := h.2 c1
    refine lv_iconst (pc := 13) S.1 S.2.1 (v := 0) dX8_has_13 (by decide) ?_
    exact tRz S hr hlk hP hS (Or.inl rfl) h dX8_has_14
  · have h := h.1 c1
    refine lv_iconst (pc := 9) S.1 S.2.1 (v := 1) dX8_has_9 (by decide) ?_
    refine lv_goto (pc := 10) S.1 S.2.1 (tgt := 14) dX8_has_10 (by decide) ?_
    exact tRz S hr hlk hP hS (Or.inr rfl) h dX8_has_14

abbrev rmX8_push : Room := { frames := 0, cells := 0, slots := 0, locals := 0 }
theorem cw_X8_push {R : Room} {own : String} {index : Nat} (h : rmX8_push.frames + 1 ≤ R.frames ∧ 8 + (3 + 11) + rmX8_push.locals ≤ R.locals) : tCw R own index yX8_push cX8_push 3 none rmX8_push 1 := ⟨kw_378, kw_373, ⟨rfl, rfl, h.1, h.2⟩, by decide +kernel, by decide +kernel, by decide +kernel⟩
set_option maxHeartbeats 4000000 in
set_option maxRecDepth 100000 in
theorem wk_X8_push_3 {p : Program} {l : Launch} {e : Env} {s : State} {m : MethodId} {args : Array Value} {below : List Frame} {meth : Method} {c : Code} {dC : Nat → ClassId} {dI : Nat → Nat → Nat} {a : Nat → Nat} {ca : Nat → ClassId} {tb : Nat → Nat} {w0 : Cond} (S : CallFix p m c cX8_push 3 s args (w0 :: tWALL) RX8) (hr : meth.sig.returnType = none) (hlk : meth.locks = false) (E : tEnv 21 dC dI a ca tb s) (post : tSt → Prop) : ∀ (n : Nat) (x1 : Int32) (x2 : Int32) (st : tSt), wp_M_push_3 post n x1 x2 st → tAt p l e rmX8_push s m args below meth c (dC, dI) (cwM a ca) (tA 21 a s.heap.size) (tQv (cwM a ca) 21 dC dI a args below s post) 3 3 [(0, .ref (a 0)), (1, .int x1), (2, .int x2)] [] st := by
  intro n
  induction n with
  | zero => intro x1 x2 st h; exact absurd h id
  | succ n ih =>
    intro x1 x2 st h H locs ls hP hS hl
    refine lv_iload_n (pc := 3) S.1 S.2.1 dX8_push_3 rfl (lv_at hl 2 rfl) ?_
    refine lv_if_lt (pc := 4) (tgt := 36) S.1 S.2.1 dX8_push_4 (by decide) (fun c1 => ?_) (fun c1 => ?_)
    · have h := h.1 c1
      exact tRv S hr hlk hP hS h dX8_push_36
    · have h := h.2 c1
      refine lv_aload_n (pc := 7) S.1 S.2.1 dX8_push_7 rfl (lv_at hl 0 rfl) ?_
      refine tp_get (pc := 8) S E.1 hP iwX8 0 (cM_mo a ca st) rfl 0 (by decide) kw_376 (v := .ref (a 1)) rfl dX8_push_8 ?_
      refine lv_aload_n (pc := 11) S.1 S.2.1 dX8_push_11 rfl (lv_at hl 0 rfl) ?_
      refine tp_get (pc := 12) S E.1 hP iwX8 0 (cM_mo a ca st) rfl 1 (by decide) kw_377 (v := .int (st 0 0)) rfl dX8_push_12 ?_
      refine lv_iload_n (pc := 15) S.1 S.2.1 dX8_push_15 rfl (lv_at hl 1 rfl) ?_
      refine lv_iload_n (pc := 16) S.1 S.2.1 dX8_push_16 rfl (lv_at hl 2 rfl) ?_
      refine lv_ishr (pc := 17) S.1 S.2.1 dX8_push_17 ?_
      refine lv_i2b (pc := 18) S.1 S.2.1 dX8_push_18 rfl ?_
      obtain ⟨hn2, h⟩ := h
      refine tp_bast (pc := 19) S E.1 hP (cM_D E st) hS 1 4 (cM_tape a ca st) rfl (j := (st 0 0).toNatClampNeg) rfl hn2 (sM_tape a ca st _ _) dX8_push_19 (fun st1 H locs e3 hP hS => ?_)
      have h := h st1 e3
      refine lv_aload_n (pc := 20) S.1 S.2.1 dX8_push_20 rfl (lv_at hl 0 rfl) ?_
      refine lv_dup (pc := 21) S.1 S.2.1 dX8_push_21 rfl ?_
      refine tp_get (pc := 22) S E.1 hP iwX8 0 (cM_mo a ca st1) rfl 1 (by decide) kw_377 (v := .int (st1 0 0)) rfl dX8_push_22 ?_
      refine lv_iconst (pc := 25) S.1 S.2.1 (v := 1) dX8_push_25 (by decide) ?_
      refine lv_iadd (pc := 26) S.1 S.2.1 dX8_push_26 ?_
      refine tp_put (pc := 27) S E.1 hP (cM_D E st1) hS iwX8 tyX8 tyX8_ok nmX8 0 (cM_mo a ca st1) rfl 1 (by decide) kw_377 rfl (v := .int ((st1 0 0) + (1 : Int32))) (tyX8_ok 1 (by decide)) rfl rfl (Nat.le_of_ble_eq_true rfl) (sM_mo_taped a ca st1 _) dX8_push_27 (fun st2 H locs e4 hP hS => ?_)
      have h := h st2 e4
      obtain ⟨y2_3, e5⟩ : ∃ y : Int32, y = x2 + (-8) := ⟨_, rfl⟩
      have h := h y2_3 e5
      refine lv_iinc (pc := 30) S.1 S.2.1 (v := y2_3) (lv' := [(2, .int y2_3), (0, .ref (a 0)), (1, .int x1)]) dX8_push_30 hl (k := 2) rfl (by rw [e5]; rfl) (by decide) rfl (fun ls hl => ?_)
      refine lv_goto (pc := 33) S.1 S.2.1 (tgt := 3) dX8_push_33 (by decide) ?_
      exact ih x1 y2_3 st2 h _ _ _ hP hS (lv_sub hl [1, 2, 0] rfl)
set_option maxHeartbeats 4000000 in
set_option maxRecDepth 100000 in
theorem mt_X8_push (l : Launch) (dC : Nat → ClassId) (dI : Nat → Nat → Nat) (a : Nat → Nat) (ca : Nat → ClassId) (tb : Nat → Nat) (sz : Nat) (x1 : Int32) (st : tSt) (post : tSt → Prop) (h : wp_M_push x1 st post) : Met l yX8_push (.code yX8_push cX8_push 3 none :: tWALL) rmX8_push (va_Pc [.ref (a 0), .int x1] (tPre 21 (cwM a ca) dC dI a ca tb sz st)) (va_Qv post (tB (cwM a ca) dC dI) (tA 21 a sz)) 0 0 (tA 21 a sz) := by
  refine tp_met (by decide) (Nat.le_of_ble_eq_true rfl) ?_
  intro p e s m below meth c ls S hr hlk hsz E hP hl
  subst hsz
  have S : CallFix p m c cX8_push 3 s _ (.code yX8_push cX8_push 3 none :: tWALL) RX8 := S
  have hl : lv_has ls 3 [(0, .ref (a 0)), (1, .int x1)] := hl
  have hS : va_S (tA 21 a s.heap.size) s.heap s.heap [] := va_S.rf
  show W p l e _ s m _ below meth c s.heap [] 0 0 (tQv (cwM a ca) 21 dC dI a ([.ref (a 0), .int x1] : List Value).toArray below s post) (F0 m 0 ls [])
  refine lv_bipush (pc := 0) S.1 S.2.1 (v := 24) dX8_push_0 (by decide) ?_
  refine lv_istore_n (pc := 2) S.1 S.2.1 (lv' := [(2, .int (24 : Int32)), (0, .ref (a 0)), (1, .int x1)]) dX8_push_2 rfl hl (by decide) rfl (fun ls hl => ?_)
  exact (fun x1 x2 st h => Exists.elim h (fun q h => wk_X8_push_3 S hr hlk E post  q x1 x2 st h)) x1 (24 : Int32) st h _ _ _ hP hS (lv_sub hl [1, 2, 0] rfl)

abbrev rmX8_feed : Room := { frames := 1, cells := 0, slots := 0, locals := 22 }
theorem cw_X8_feed {R : Room} {own : String} {index : Nat} (h : rmX8_feed.frames + 1 ≤ R.frames ∧ 8 + (6 + 11) + rmX8_feed.locals ≤ R.locals) : tCw R own index yX8_feed cX8_feed 6 (some .int) rmX8_feed 5 := ⟨kw_382, kw_373, ⟨rfl, rfl, h.1, h.2⟩, by decide +kernel, by decide +kernel, by decide +kernel⟩

set_option maxHeartbeats 4000000 in
set_option maxRecDepth 100000 in
theorem mt_X8_feed (l : Launch) (dC : Nat → ClassId) (dI : Nat → Nat → Nat) (a : Nat → Nat) (ca : Nat → ClassId) (tb : Nat → Nat) (sz : Nat) (x1 : Int32) (x2 : Int32) (x3 : Int32) (x4 : Int32) (x5 : Int32) (st : tSt) (post : Int32 → tSt → Prop) (h : wp_M_feed x1 x2 x3 x4 x5 st post) : Met l yX8_feed (.code yX8_feed cX8_feed 6 (some .int) :: tWALL) rmX8_feed (va_Pc [.ref (a 0), .int x1, .int x2, .int x3, .int x4, .int x5] (tPre 21 (cwM a ca) dC dI a ca tb sz st)) (va_Qi post (tB (cwM a ca) dC dI) (tA 21 a sz)) 0 0 (tA 21 a sz) := by
  refine tp_met (by decide) (Nat.le_of_ble_eq_true rfl) ?_
  intro p e s m below meth c ls S hr hlk hsz E hP hl
  subst hsz
  have S : CallFix p m c cX8_feed 6 s _ (.code yX8_feed cX8_feed 6 (some .int) :: tWALL) RX8 := S
  have hl : lv_has ls 6 [(0, .ref (a 0)), (1, .int x1), (2, .int x2), (3, .int x3), (4, .int x4), (5, .int x5)] := hl
  have hS : va_S (tA 21 a s.heap.size) s.heap s.heap [] := va_S.rf
  show W p l e _ s m _ below meth c s.heap [] 0 0 (tQi (cwM a ca) 21 dC dI a ([.ref (a 0), .int x1, .int x2, .int x3, .int x4, .int x5] : List Value).toArray below s post) (F0 m 0 ls [])
  refine lv_aload_n (pc := 0) S.1 S.2.1 dX8_feed_0 rfl (lv_at hl 0 rfl) ?_
  refine tp_get (pc := 1) S E.1 hP iwX8 0 (cM_mo a ca st) rfl 1 (by decide) kw_377 (v := .int (st 0 0)) rfl dX8_feed_1 ?_
  refine lv_bipush (pc := 4) S.1 S.2.1 (v := 20) dX8_feed_4 (by decide) ?_
  refine lv_iadd (pc := 6) S.1 S.2.1 dX8_feed_6 ?_
  refine lv_bipush (pc := 7) S.1 S.2.1 (v := 40) dX8_feed_7 (by decide) ?_
  refine lv_icmp_le (pc := 9) (tgt := 14) S.1 S.2.1 dX8_feed_9 (by decide) (fun c1 => ?_) (fun c1 => ?_)
  · have h := h.1 c1
    refine lv_aload_n (pc := 14) S.1 S.2.1 dX8_feed_14 rfl (lv_at hl 0 rfl) ?_
    refine lv_iload_n (pc := 15) S.1 S.2.1 dX8_feed_15 rfl (lv_at hl 1 rfl) ?_
    refine tGv hS (tRunV (pc := 16) (As := [.int x1]) (rest := []) S E hP hS (mt_X8_push l dC dI a ca tb _ x1 st _ h) (cw_X8_push ⟨Nat.le_of_ble_eq_true rfl, Nat.le_of_ble_eq_true rfl⟩) kw_379 kw_380 kw_381 0 8 rfl rfl (cM_mo a ca st) rfl hl.1 rfl (Nat.le_of_ble_eq_true rfl) dX8_feed_16) (fun st1 H locs h hP hS => ?_)
    refine lv_aload_n (pc := 19) S.1 S.2.1 dX8_feed_19 rfl (lv_at hl 0 rfl) ?_
    refine lv_iload_n (pc := 20) S.1 S.2.1 dX8_feed_20 rfl (lv_at hl 2 rfl) ?_
    refine tGv hS (tRunV (pc := 21) (As := [.int x2]) (rest := []) S E hP hS (mt_X8_push l dC dI a ca tb _ x2 st1 _ h) (cw_X8_push ⟨Nat.le_of_ble_eq_true rfl, Nat.le_of_ble_eq_true rfl⟩) kw_379 kw_380 kw_381 0 8 rfl rfl (cM_mo a ca st1) rfl hl.1 rfl (Nat.le_of_ble_eq_true rfl) dX8_feed_21) (fun st2 H locs h hP hS => ?_)
    refine lv_aload_n (pc := 24) S.1 S.2.1 dX8_feed_24 rfl (lv_at hl 0 rfl) ?_
    refine lv_iload_n (pc := 25) S.1 S.2.1 dX8_feed_25 rfl (lv_at hl 3 rfl) ?_
    refine tGv hS (tRunV (pc := 26) (As := [.int x3]) (rest := []) S E hP hS (mt_X8_push l dC dI a ca tb _ x3 st2 _ h) (cw_X8_push ⟨Nat.le_of_ble_eq_true rfl, Nat.le_of_ble_eq_true rfl⟩) kw_379 kw_380 kw_381 0 8 rfl rfl (cM_mo a ca st2) rfl hl.1 rfl (Nat.le_of_ble_eq_true rfl) dX8_feed_26) (fun st3 H locs h hP hS => ?_)
    refine lv_aload_n (pc := 29) S.1 S.2.1 dX8_feed_29 rfl (lv_at hl 0 rfl) ?_
    refine lv_iload (pc := 30) S.1 S.2.1 dX8_feed_30 (lv_at hl 4 rfl) ?_
    refine tGv hS (tRunV (pc := 32) (As := [.int x4]) (rest := []) S E hP hS (mt_X8_push l dC dI a ca tb _ x4 st3 _ h) (cw_X8_push ⟨Nat.le_of_ble_eq_true rfl, Nat.le_of_ble_eq_true rfl⟩) kw_379 kw_380 kw_381 0 8 rfl rfl (cM_mo a ca st3) rfl hl.1 rfl (Nat.le_of_ble_eq_true rfl) dX8_feed_32) (fun st4 H locs h hP hS => ?_)
    refine lv_aload_n (pc := 35) S.1 S.2.1 dX8_feed_35 rfl (lv_at hl 0 rfl) ?_
    refine lv_iload (pc := 36) S.1 S.2.1 dX8_feed_36 (lv_at hl 5 rfl) ?_
    refine tGv hS (tRunV (pc := 38) (As := [.int x5]) (rest := []) S E hP hS (mt_X8_push l dC dI a ca tb _ x5 st4 _ h) (cw_X8_push ⟨Nat.le_of_ble_eq_true rfl, Nat.le_of_ble_eq_true rfl⟩) kw_379 kw_380 kw_381 0 8 rfl rfl (cM_mo a ca st4) rfl hl.1 rfl (Nat.le_of_ble_eq_true rfl) dX8_feed_38) (fun st5 H locs h hP hS => ?_)
    refine lv_aload_n (pc := 41) S.1 S.2.1 dX8_feed_41 rfl (lv_at hl 0 rfl) ?_
    refine tp_get (pc := 42) S E.1 hP iwX8 0 (cM_mo a ca st5) rfl 1 (by decide) kw_377 (v := .int (st5 0 0)) rfl dX8_feed_42 ?_
    exact tRi S hr hlk hP hS h dX8_feed_45
  · have h := h.2 c1
    refine lv_iconst (pc := 12) S.1 S.2.1 (v := (-1)) dX8_feed_12 (by decide) ?_
    exact tRi S hr hlk hP hS h dX8_feed_13

abbrev rmX8_asAtFirst : Room := { frames := 0, cells := 0, slots := 0, locals := 0 }
theorem cw_X8_asAtFirst {R : Room} {own : String} {index : Nat} (h : rmX8_asAtFirst.frames + 1 ≤ R.frames ∧ 8 + (1 + 11) + rmX8_asAtFirst.locals ≤ R.locals) : tCw R own index yX8_asAtFirst cX8_asAtFirst 1 none rmX8_asAtFirst 1 := ⟨kw_383, kw_373, ⟨rfl, rfl, h.1, h.2⟩, by decide +kernel, by decide +kernel, by decide +kernel⟩

set_option maxHeartbeats 4000000 in
set_option maxRecDepth 100000 in
theorem mt_X8_asAtFirst (l : Launch) (dC : Nat → ClassId) (dI : Nat → Nat → Nat) (a : Nat → Nat) (ca : Nat → ClassId) (tb : Nat → Nat) (sz : Nat) {j : Nat} (hj : j < 2) (st : tSt) (post : tSt → Prop) (h : wp_M_asAtFirst j  st post) : Met l yX8_asAtFirst (.code yX8_asAtFirst cX8_asAtFirst 1 none :: tWALL) rmX8_asAtFirst (va_Pc [.ref (a (2 + j))] (tPre 21 (cwM a ca) dC dI a ca tb sz st)) (va_Qv post (tB (cwM a ca) dC dI) (tA 21 a sz)) 0 0 (tA 21 a sz) := by
  refine tp_met (by decide) (Nat.le_of_ble_eq_true rfl) ?_
  intro p e s m below meth c ls S hr hlk hsz E hP hl
  subst hsz
  have S : CallFix p m c cX8_asAtFirst 1 s _ (.code yX8_asAtFirst cX8_asAtFirst 1 none :: tWALL) RX8 := S
  have hl : lv_has ls 1 [(0, .ref (a (2 + j)))] := hl
  have hS : va_S (tA 21 a s.heap.size) s.heap s.heap [] := va_S.rf
  show W p l e _ s m _ below meth c s.heap [] 0 0 (tQv (cwM a ca) 21 dC dI a ([.ref (a (2 + j))] : List Value).toArray below s post) (F0 m 0 ls [])
  refine lv_aload_n (pc := 0) S.1 S.2.1 dX8_asAtFirst_0 rfl (lv_at hl 0 rfl) ?_
  refine lv_iconst (pc := 1) S.1 S.2.1 (v := 0) dX8_asAtFirst_1 (by decide) ?_
  refine lv_iconst (pc := 2) S.1 S.2.1 (v := 1) dX8_asAtFirst_2 (by decide) ?_
  refine tp_iast (pc := 3) S E.1 hP (cM_D E st) hS (2 + j) 0 (cM_four a ca st hj) rfl (j := 0) (by decide +kernel) (by decide +kernel : ¬ ((0 : Int32) < 0 ∨ 4 ≤ (0 : Int32).toNatClampNeg)) (sM_four a ca st hj _ _) dX8_asAtFirst_3 (fun st1 H locs e1 hP hS => ?_)
  have h := h st1 e1
  refine lv_aload_n (pc := 4) S.1 S.2.1 dX8_asAtFirst_4 rfl (lv_at hl 0 rfl) ?_
  refine lv_iconst (pc := 5) S.1 S.2.1 (v := 1) dX8_asAtFirst_5 (by decide) ?_
  refine lv_bipush (pc := 6) S.1 S.2.1 (v := 10) dX8_asAtFirst_6 (by decide) ?_
  refine tp_iast (pc := 8) S E.1 hP (cM_D E st1) hS (2 + j) 0 (cM_four a ca st1 hj) rfl (j := 1) (by decide +kernel) (by decide +kernel : ¬ ((1 : Int32) < 0 ∨ 4 ≤ (1 : Int32).toNatClampNeg)) (sM_four a ca st1 hj _ _) dX8_asAtFirst_8 (fun st2 H locs e2 hP hS => ?_)
  have h := h st2 e2
  refine lv_aload_n (pc := 9) S.1 S.2.1 dX8_asAtFirst_9 rfl (lv_at hl 0 rfl) ?_
  refine lv_iconst (pc := 10) S.1 S.2.1 (v := 2) dX8_asAtFirst_10 (by decide) ?_
  refine lv_bipush (pc := 11) S.1 S.2.1 (v := 100) dX8_asAtFirst_11 (by decide) ?_
  refine tp_iast (pc := 13) S E.1 hP (cM_D E st2) hS (2 + j) 0 (cM_four a ca st2 hj) rfl (j := 2) (by decide +kernel) (by decide +kernel : ¬ ((2 : Int32) < 0 ∨ 4 ≤ (2 : Int32).toNatClampNeg)) (sM_four a ca st2 hj _ _) dX8_asAtFirst_13 (fun st3 H locs e3 hP hS => ?_)
  have h := h st3 e3
  refine lv_aload_n (pc := 14) S.1 S.2.1 dX8_asAtFirst_14 rfl (lv_at hl 0 rfl) ?_
  refine lv_iconst (pc := 15) S.1 S.2.1 (v := 3) dX8_asAtFirst_15 (by decide) ?_
  refine lv_bipush (pc := 16) S.1 S.2.1 (v := 50) dX8_asAtFirst_16 (by decide) ?_
  refine tp_iast (pc := 18) S E.1 hP (cM_D E st3) hS (2 + j) 0 (cM_four a ca st3 hj) rfl (j := 3) (by decide +kernel) (by decide +kernel : ¬ ((3 : Int32) < 0 ∨ 4 ≤ (3 : Int32).toNatClampNeg)) (sM_four a ca st3 hj _ _) dX8_asAtFirst_18 (fun st4 H locs e4 hP hS => ?_)
  have h := h st4 e4
  exact tRv S hr hlk hP hS h dX8_asAtFirst_19

abbrev rmX8_letter : Room := { frames := 0, cells := 0, slots := 0, locals := 0 }
theorem cw_X8_letter {R : Room} {own : String} {index : Nat} (h : rmX8_letter.frames + 1 ≤ R.frames ∧ 8 + (1 + 11) + rmX8_letter.locals ≤ R.locals) : tCw R own index yX8_letter cX8_letter 1 (some .int) rmX8_letter 1 := ⟨kw_384, kw_373, ⟨rfl, rfl, h.1, h.2⟩, by decide +kernel, by decide +kernel, by decide +kernel⟩

set_option maxHeartbeats 4000000 in
set_option maxRecDepth 100000 in
theorem mt_X8_letter (l : Launch) (dC : Nat → ClassId) (dI : Nat → Nat → Nat) (a : Nat → Nat) (ca : Nat → ClassId) (tb : Nat → Nat) (sz : Nat) (x0 : Int32) (st : tSt) (post : Int32 → tSt → Prop) (h : wp_M_letter x0 st post) : Met l yX8_letter (.code yX8_letter cX8_letter 1 (some .int) :: tWALL) rmX8_letter (va_Pc [.int x0] (tPre 21 (cwM a ca) dC dI a ca tb sz st)) (va_Qi post (tB (cwM a ca) dC dI) (tA 21 a sz)) 0 0 (tA 21 a sz) := by
  refine tp_met (by decide) (Nat.le_of_ble_eq_true rfl) ?_
  intro p e s m below meth c ls S hr hlk hsz E hP hl
  subst hsz
  have S : CallFix p m c cX8_letter 1 s _ (.code yX8_letter cX8_letter 1 (some .int) :: tWALL) RX8 := S
  have hl : lv_has ls 1 [(0, .int x0)] := hl
  have hS : va_S (tA 21 a s.heap.size) s.heap s.heap [] := va_S.rf
  show W p l e _ s m _ below meth c s.heap [] 0 0 (tQi (cwM a ca) 21 dC dI a ([.int x0] : List Value).toArray below s post) (F0 m 0 ls [])
  refine lv_iload_n (pc := 0) S.1 S.2.1 dX8_letter_0 rfl (lv_at hl 0 rfl) ?_
  refine lv_bipush (pc := 1) S.1 S.2.1 (v := 119) dX8_letter_1 (by decide) ?_
  refine lv_icmp_ne (pc := 3) (tgt := 10) S.1 S.2.1 dX8_letter_3 (by decide) (fun c1 => ?_) (fun c1 => ?_)
  · have h := h.2 c1
    refine lv_iload_n (pc := 10) S.1 S.2.1 dX8_letter_10 rfl (lv_at hl 0 rfl) ?_
    refine lv_bipush (pc := 11) S.1 S.2.1 (v := 102) dX8_letter_11 (by decide) ?_
    refine lv_icmp_ne (pc := 13) (tgt := 20) S.1 S.2.1 dX8_letter_13 (by decide) (fun c2 => ?_) (fun c2 => ?_)
    · have h := h.2 c2
      refine lv_iload_n (pc := 20) S.1 S.2.1 dX8_letter_20 rfl (lv_at hl 0 rfl) ?_
      refine lv_bipush (pc := 21) S.1 S.2.1 (v := 112) dX8_letter_21 (by decide) ?_
      refine lv_icmp_ne (pc := 23) (tgt := 30) S.1 S.2.1 dX8_letter_23 (by decide) (fun c3 => ?_) (fun c3 => ?_)
      · have h := h.2 c3
        refine lv_iload_n (pc := 30) S.1 S.2.1 dX8_letter_30 rfl (lv_at hl 0 rfl) ?_
        refine lv_bipush (pc := 31) S.1 S.2.1 (v := 103) dX8_letter_31 (by decide) ?_
        refine lv_icmp_ne (pc := 33) (tgt := 40) S.1 S.2.1 dX8_letter_33 (by decide) (fun c4 => ?_) (fun c4 => ?_)
        · have h := h.2 c4
          refine lv_iconst (pc := 40) S.1 S.2.1 (v := (-1)) dX8_letter_40 (by decide) ?_
          exact tRi S hr hlk hP hS h dX8_letter_41
        · have h := h.1 c4
          refine lv_iconst (pc := 36) S.1 S.2.1 (v := 3) dX8_letter_36 (by decide) ?_
          refine lv_goto (pc := 37) S.1 S.2.1 (tgt := 41) dX8_letter_37 (by decide) ?_
          exact tRi S hr hlk hP hS h dX8_letter_41
      · have h := h.1 c3
        refine lv_iconst (pc := 26) S.1 S.2.1 (v := 2) dX8_letter_26 (by decide) ?_
        refine lv_goto (pc := 27) S.1 S.2.1 (tgt := 41) dX8_letter_27 (by decide) ?_
        exact tRi S hr hlk hP hS h dX8_letter_41
    · have h := h.1 c2
      refine lv_iconst (pc := 16) S.1 S.2.1 (v := 1) dX8_letter_16 (by decide) ?_
      refine lv_goto (pc := 17) S.1 S.2.1 (tgt := 41) dX8_letter_17 (by decide) ?_
      exact tRi S hr hlk hP hS h dX8_letter_41
  · have h := h.1 c1
    refine lv_iconst (pc := 6) S.1 S.2.1 (v := 0) dX8_letter_6 (by decide) ?_
    refine lv_goto (pc := 7) S.1 S.2.1 (tgt := 41) dX8_letter_7 (by decide) ?_
    exact tRi S hr hlk hP hS h dX8_letter_41

abbrev rmX8_canBe : Room := { frames := 0, cells := 0, slots := 0, locals := 0 }
theorem cw_X8_canBe {R : Room} {own : String} {index : Nat} (h : rmX8_canBe.frames + 1 ≤ R.frames ∧ 8 + (2 + 11) + rmX8_canBe.locals ≤ R.locals) : tCw R own index yX8_canBe cX8_canBe 2 (some .boolean) rmX8_canBe 2 := ⟨kw_385, kw_373, ⟨rfl, rfl, h.1, h.2⟩, by decide +kernel, by decide +kernel, by decide +kernel⟩

set_option maxHeartbeats 4000000 in
set_option maxRecDepth 100000 in
theorem mt_X8_canBe (l : Launch) (dC : Nat → ClassId) (dI : Nat → Nat → Nat) (a : Nat → Nat) (ca : Nat → ClassId) (tb : Nat → Nat) (sz : Nat) (x0 : Int32) (x1 : Int32) (st : tSt) (post : Int32 → tSt → Prop) (h : wp_M_canBe x0 x1 st post) : Met l yX8_canBe (.code yX8_canBe cX8_canBe 2 (some .boolean) :: tWALL) rmX8_canBe (va_Pc [.int x0, .int x1] (tPre 21 (cwM a ca) dC dI a ca tb sz st)) (va_Qi post (tB (cwM a ca) dC dI) (tA 21 a sz)) 0 0 (tA 21 a sz) := by
  refine tp_met (by decide) (Nat.le_of_ble_eq_true rfl) ?_
  intro p e s m below meth c ls S hr hlk hsz E hP hl
  subst hsz
  have S : CallFix p m c cX8_canBe 2 s _ (.code yX8_canBe cX8_canBe 2 (some .boolean) :: tWALL) RX8 := S
  have hl : lv_has ls 2 [(0, .int x0), (1, .int x1)] := hl
  have hS : va_S (tA 21 a s.heap.size) s.heap s.heap [] := va_S.rf
  show W p l e _ s m _ below meth c s.heap [] 0 0 (tQi (cwM a ca) 21 dC dI a ([.int x0, .int x1] : List Value).toArray below s post) (F0 m 0 ls [])
  refine lv_iload_n (pc := 0) S.1 S.2.1 dX8_canBe_0 rfl (lv_at hl 0 rfl) ?_
  refine lv_if_ne (pc := 1) (tgt := 18) S.1 S.2.1 dX8_canBe_1 (by decide) (fun c1 => ?_) (fun c1 => ?_)
  · have h := h.2 c1
    refine lv_iload_n (pc := 18) S.1 S.2.1 dX8_canBe_18 rfl (lv_at hl 0 rfl) ?_
    refine lv_iconst (pc := 19) S.1 S.2.1 (v := 1) dX8_canBe_19 (by decide) ?_
    refine lv_icmp_ne (pc := 20) (tgt := 29) S.1 S.2.1 dX8_canBe_20 (by decide) (fun c2 => ?_) (fun c2 => ?_)
    · have h := h.2 c2
      refine lv_iconst (pc := 29) S.1 S.2.1 (v := 1) dX8_canBe_29 (by decide) ?_
      refine lv_goto (pc := 30) S.1 S.2.1 (tgt := 34) dX8_canBe_30 (by decide) ?_
      exact tRz S hr hlk hP hS (Or.inr rfl) h dX8_canBe_34
    · have h := h.1 c2
      refine lv_iload_n (pc := 23) S.1 S.2.1 dX8_canBe_23 rfl (lv_at hl 1 rfl) ?_
      refine lv_bipush (pc := 24) S.1 S.2.1 (v := 100) dX8_canBe_24 (by decide) ?_
      refine lv_icmp_gt (pc := 26) (tgt := 33) S.1 S.2.1 dX8_canBe_26 (by decide) (fun c3 => ?_) (fun c3 => ?_)
      · have h := h.1 c3
        refine lv_iconst (pc := 33) S.1 S.2.1 (v := 0) dX8_canBe_33 (by decide) ?_
        exact tRz S hr hlk hP hS (Or.inl rfl) h dX8_canBe_34
      · have h := h.2 c3
        refine lv_iconst (pc := 29) S.1 S.2.1 (v := 1) dX8_canBe_29 (by decide) ?_
        refine lv_goto (pc := 30) S.1 S.2.1 (tgt := 34) dX8_canBe_30 (by decide) ?_
        exact tRz S hr hlk hP hS (Or.inr rfl) h dX8_canBe_34
  · have h := h.1 c1
    refine lv_iload_n (pc := 4) S.1 S.2.1 dX8_canBe_4 rfl (lv_at hl 1 rfl) ?_
    refine lv_bipush (pc := 5) S.1 S.2.1 (v := 20) dX8_canBe_5 (by decide) ?_
    refine lv_icmp_gt (pc := 7) (tgt := 14) S.1 S.2.1 dX8_canBe_7 (by decide) (fun c4 => ?_) (fun c4 => ?_)
    · have h := h.1 c4
      refine lv_iconst (pc := 14) S.1 S.2.1 (v := 0) dX8_canBe_14 (by decide) ?_
      refine lv_goto (pc := 15) S.1 S.2.1 (tgt := 34) dX8_canBe_15 (by decide) ?_
      exact tRz S hr hlk hP hS (Or.inl rfl) h dX8_canBe_34
    · have h := h.2 c4
      refine lv_iconst (pc := 10) S.1 S.2.1 (v := 1) dX8_canBe_10 (by decide) ?_
      refine lv_goto (pc := 11) S.1 S.2.1 (tgt := 34) dX8_canBe_11 (by decide) ?_
      exact tRz S hr hlk hP hS (Or.inr rfl) h dX8_canBe_34

abbrev rmX8_at : Room := { frames := 0, cells := 0, slots := 0, locals := 0 }
theorem cw_X8_at {R : Room} {own : String} {index : Nat} (h : rmX8_at.frames + 1 ≤ R.frames ∧ 8 + (3 + 11) + rmX8_at.locals ≤ R.locals) : tCw R own index yX8_at cX8_at 3 (some .int) rmX8_at 2 := ⟨kw_386, kw_373, ⟨rfl, rfl, h.1, h.2⟩, by decide +kernel, by decide +kernel, by decide +kernel⟩

set_option maxHeartbeats 4000000 in
set_option maxRecDepth 100000 in
theorem mt_X8_at (l : Launch) (dC : Nat → ClassId) (dI : Nat → Nat → Nat) (a : Nat → Nat) (ca : Nat → ClassId) (tb : Nat → Nat) (sz : Nat) (x1 : Int32) (x2 : Int32) (st : tSt) (post : Int32 → tSt → Prop) (h : wp_M_at x1 x2 st post) : Met l yX8_at (.code yX8_at cX8_at 3 (some .int) :: tWALL) rmX8_at (va_Pc [.ref (a 0), .int x1, .int x2] (tPre 21 (cwM a ca) dC dI a ca tb sz st)) (va_Qi post (tB (cwM a ca) dC dI) (tA 21 a sz)) 0 0 (tA 21 a sz) := by
  refine tp_met (by decide) (Nat.le_of_ble_eq_true rfl) ?_
  intro p e s m below meth c ls S hr hlk hsz E hP hl
  subst hsz
  have S : CallFix p m c cX8_at 3 s _ (.code yX8_at cX8_at 3 (some .int) :: tWALL) RX8 := S
  have hl : lv_has ls 3 [(0, .ref (a 0)), (1, .int x1), (2, .int x2)] := hl
  have hS : va_S (tA 21 a s.heap.size) s.heap s.heap [] := va_S.rf
  show W p l e _ s m _ below meth c s.heap [] 0 0 (tQi (cwM a ca) 21 dC dI a ([.ref (a 0), .int x1, .int x2] : List Value).toArray below s post) (F0 m 0 ls [])
  refine lv_iload_n (pc := 0) S.1 S.2.1 dX8_at_0 rfl (lv_at hl 1 rfl) ?_
  refine lv_iload_n (pc := 1) S.1 S.2.1 dX8_at_1 rfl (lv_at hl 2 rfl) ?_
  refine lv_icmp_ge (pc := 2) (tgt := 18) S.1 S.2.1 dX8_at_2 (by decide) (fun c1 => ?_) (fun c1 => ?_)
  · have h := h.1 c1
    refine lv_iconst (pc := 18) S.1 S.2.1 (v := 0) dX8_at_18 (by decide) ?_
    exact tRi S hr hlk hP hS h dX8_at_19
  · have h := h.2 c1
    refine lv_aload_n (pc := 5) S.1 S.2.1 dX8_at_5 rfl (lv_at hl 0 rfl) ?_
    refine tp_get (pc := 6) S E.1 hP iwX8 0 (cM_mo a ca st) rfl 0 (by decide) kw_376 (v := .ref (a 1)) rfl dX8_at_6 ?_
    refine lv_iload_n (pc := 9) S.1 S.2.1 dX8_at_9 rfl (lv_at hl 1 rfl) ?_
    obtain ⟨hn2, h⟩ := h
    refine tp_bald (pc := 10) S E.1 hP 1 4 (cM_tape a ca st) rfl (j := x1.toNatClampNeg) rfl hn2 dX8_at_10 ?_
    refine lv_sipush (pc := 11) S.1 S.2.1 (v := 255) dX8_at_11 (by decide) ?_
    refine lv_iand (pc := 14) S.1 S.2.1 dX8_at_14 ?_
    refine lv_goto (pc := 15) S.1 S.2.1 (tgt := 19) dX8_at_15 (by decide) ?_
    exact tRi S hr hlk hP hS h dX8_at_19
