abbrev rmX7_planOfToday : Room := { frames := 33, cells := 0, slots := 0, locals := 952 }
theorem cw_X7_planOfToday {R : Room} {own : String} {index : Nat} (h : rmX7_planOfToday.frames + 1 ≤ R.frames ∧ 8 + (1 + 11) + rmX7_planOfToday.locals ≤ R.locals) : tCw R own index yX7_planOfToday cX7_planOfToday 1 (some (.object "TowerPipers$Plan")) rmX7_planOfToday 0 := ⟨kw_295, kw_6, ⟨rfl, rfl, h.1, h.2⟩, by decide +kernel, by decide +kernel, by decide +kernel⟩

set_option maxHeartbeats 4000000 in
set_option maxRecDepth 100000 in
theorem mt_X7_planOfToday (l : Launch) (dC : Nat → ClassId) (dI : Nat → Nat → Nat) (a : Nat → Nat) (ca : Nat → ClassId) (tb : Nat → Nat) (sz : Nat) (st : tSt) (post : tSt → Prop) (h : wp_T_planOfToday  st post) : Met l yX7_planOfToday (.code yX7_planOfToday cX7_planOfToday 1 (some (.object "TowerPipers$Plan")) :: tWALL) rmX7_planOfToday (va_Pc [.ref (a 0)] (tPre 47 (cwC a ca) dC dI a ca tb sz st)) (va_Qr post (fun u x t => x = a 39 ∧ tB (cwC a ca) dC dI u t) (tA 47 a sz)) 0 0 (tA 47 a sz) := by
  refine tp_met (by decide) (Nat.le_of_ble_eq_true rfl) ?_
  intro p e s m below meth c ls S hr hlk hsz E hP hl
  subst hsz
  have S : CallFix p m c cX7_planOfToday 1 s _ (.code yX7_planOfToday cX7_planOfToday 1 (some (.object "TowerPipers$Plan")) :: tWALL) RX7 := S
  have hl : lv_has ls 1 [(0, .ref (a 0))] := hl
  have hS : va_S (tA 47 a s.heap.size) s.heap s.heap [] := va_S.rf
  show W p l e _ s m _ below meth c s.heap [] 0 0 (tQr (cwC a ca) 47 dC dI a ([.ref (a 0)] : List Value).toArray below s (a 39) post) (F0 m 0 ls [])
  refine lv_aload_n (pc := 0) S.1 S.2.1 dX7_planOfToday_0 rfl (lv_at hl 0 rfl) ?_
  refine tp_get (pc := 1) S E.1 hP iwX7 0 (cC_tp a ca st) rfl 12 (by decide) kw_240 (v := .int (st 4 0)) rfl dX7_planOfToday_1 ?_
  refine lv_if_ne (pc := 4) (tgt := 65) S.1 S.2.1 dX7_planOfToday_4 (by decide) (fun c1 => ?_) (fun c1 => ?_)
  · have h := h.2 c1
    refine lv_aload_n (pc := 65) S.1 S.2.1 dX7_planOfToday_65 rfl (lv_at hl 0 rfl) ?_
    refine tp_get (pc := 66) S E.1 hP iwX7 0 (cC_tp a ca st) rfl 7 (by decide) kw_281 (v := .ref (a 39)) rfl dX7_planOfToday_66 ?_
    exact tRr S hr hlk hP hS h dX7_planOfToday_69
  · have h := h.1 c1
    refine lv_aload_n (pc := 7) S.1 S.2.1 dX7_planOfToday_7 rfl (lv_at hl 0 rfl) ?_
    refine tp_get (pc := 8) S E.1 hP iwX7 0 (cC_tp a ca st) rfl 7 (by decide) kw_281 (v := .ref (a 39)) rfl dX7_planOfToday_8 ?_
    refine lv_aload_n (pc := 11) S.1 S.2.1 dX7_planOfToday_11 rfl (lv_at hl 0 rfl) ?_
    refine tp_get (pc := 12) S E.1 hP iwX7 0 (cC_tp a ca st) rfl 3 (by decide) kw_258 (v := .ref (a 13)) rfl dX7_planOfToday_12 ?_
    refine lv_aload_n (pc := 15) S.1 S.2.1 dX7_planOfToday_15 rfl (lv_at hl 0 rfl) ?_
    refine tp_get (pc := 16) S E.1 hP iwX7 0 (cC_tp a ca st) rfl 2 (by decide) kw_244 (v := .ref (a 6)) rfl dX7_planOfToday_16 ?_
    refine lv_aload_n (pc := 19) S.1 S.2.1 dX7_planOfToday_19 rfl (lv_at hl 0 rfl) ?_
    refine tp_get (pc := 20) S E.1 hP iwX7 0 (cC_tp a ca st) rfl 5 (by decide) kw_256 (v := .ref (a 37)) rfl dX7_planOfToday_20 ?_
    refine lv_aload_n (pc := 23) S.1 S.2.1 dX7_planOfToday_23 rfl (lv_at hl 0 rfl) ?_
    refine tp_get (pc := 24) S E.1 hP iwX7 0 (cC_tp a ca st) rfl 1 (by decide) kw_233 (v := .ref (a 3)) rfl dX7_planOfToday_24 ?_
    refine lv_iconst (pc := 27) S.1 S.2.1 (v := 0) dX7_planOfToday_27 (by decide) ?_
    refine tGi hS (tRunV (pc := 28) (As := [.int (0 : Int32)]) (rest := [.ref (a 37), .ref (a 6), .ref (a 13), .ref (a 39)]) S E hP hS (mt_X5_number l dC dI a ca tb _ (0 : Int32) st _ h) (cw_X5_number ⟨Nat.le_of_ble_eq_true rfl, Nat.le_of_ble_eq_true rfl⟩) kw_282 kw_283 kw_284 3 5 rfl rfl (cC_tw a ca st) rfl hl.1 rfl (Nat.le_of_ble_eq_true rfl) dX7_planOfToday_28) (fun r2 st1 H locs h hP hS => ?_)
    refine tGv hS (tRunV (pc := 31) (As := [.ref (a 13), .ref (a 6), .ref (a 37), .int r2]) (rest := []) S E hP hS (mt_X3_castCalls l dC dI a ca tb _ r2 st1 _ h) (cw_X3_castCalls ⟨Nat.le_of_ble_eq_true rfl, Nat.le_of_ble_eq_true rfl⟩) kw_285 kw_286 kw_287 39 3 rfl rfl (cC_plan a ca st1) rfl hl.1 rfl (Nat.le_of_ble_eq_true rfl) dX7_planOfToday_31) (fun st3 H locs h hP hS => ?_)
    refine lv_aload_n (pc := 34) S.1 S.2.1 dX7_planOfToday_34 rfl (lv_at hl 0 rfl) ?_
    refine tp_get (pc := 35) S E.1 hP iwX7 0 (cC_tp a ca st3) rfl 7 (by decide) kw_281 (v := .ref (a 39)) rfl dX7_planOfToday_35 ?_
    refine lv_aload_n (pc := 38) S.1 S.2.1 dX7_planOfToday_38 rfl (lv_at hl 0 rfl) ?_
    refine tp_get (pc := 39) S E.1 hP iwX7 0 (cC_tp a ca st3) rfl 3 (by decide) kw_258 (v := .ref (a 13)) rfl dX7_planOfToday_39 ?_
    refine lv_aload_n (pc := 42) S.1 S.2.1 dX7_planOfToday_42 rfl (lv_at hl 0 rfl) ?_
    refine tp_get (pc := 43) S E.1 hP iwX7 0 (cC_tp a ca st3) rfl 4 (by decide) kw_288 (v := .ref (a 26)) rfl dX7_planOfToday_43 ?_
    refine lv_aload_n (pc := 46) S.1 S.2.1 dX7_planOfToday_46 rfl (lv_at hl 0 rfl) ?_
    refine tGi hS (tRunV (pc := 47) (As := []) (rest := [.ref (a 26), .ref (a 13), .ref (a 39)]) S E hP hS (mt_X7_monthOfToday l dC dI a ca tb _  st3 _ h) (cw_X7_monthOfToday ⟨Nat.le_of_ble_eq_true rfl, Nat.le_of_ble_eq_true rfl⟩) kw_289 kw_290 kw_291 0 7 rfl rfl (cC_tp a ca st3) rfl hl.1 rfl (Nat.le_of_ble_eq_true rfl) dX7_planOfToday_47) (fun r5 st4 H locs h hP hS => ?_)
    refine lv_aload_n (pc := 50) S.1 S.2.1 dX7_planOfToday_50 rfl (lv_at hl 0 rfl) ?_
    refine tp_get (pc := 51) S E.1 hP iwX7 0 (cC_tp a ca st4) rfl 10 (by decide) kw_279 (v := .int (st4 2 0)) rfl dX7_planOfToday_51 ?_
    refine lv_bipush (pc := 54) S.1 S.2.1 (v := 6) dX7_planOfToday_54 (by decide) ?_
    refine lv_imul (pc := 56) S.1 S.2.1 dX7_planOfToday_56 ?_
    refine tGv hS (tRunV (pc := 57) (As := [.ref (a 13), .ref (a 26), .int r5, .int ((st4 2 0) * (6 : Int32))]) (rest := []) S E hP hS (mt_X3_chooseTunes l dC dI a ca tb _ r5 ((st4 2 0) * (6 : Int32)) st4 _ h) (cw_X3_chooseTunes ⟨Nat.le_of_ble_eq_true rfl, Nat.le_of_ble_eq_true rfl⟩) kw_292 kw_293 kw_294 39 3 rfl rfl (cC_plan a ca st4) rfl hl.1 rfl (Nat.le_of_ble_eq_true rfl) dX7_planOfToday_57) (fun st6 H locs h hP hS => ?_)
    refine lv_aload_n (pc := 60) S.1 S.2.1 dX7_planOfToday_60 rfl (lv_at hl 0 rfl) ?_
    refine lv_iconst (pc := 61) S.1 S.2.1 (v := 1) dX7_planOfToday_61 (by decide) ?_
    refine tp_put (pc := 62) S E.1 hP (cC_D E st6) hS iwX7 tyX7 tyX7_ok nmX7 0 (cC_tp a ca st6) rfl 12 (by decide) kw_240 rfl (v := .int (1 : Int32)) (tyX7_ok 12 (by decide)) (by decide +kernel) rfl (Nat.le_of_ble_eq_true rfl) (sC_tp_planned a ca st6 _) dX7_planOfToday_62 (fun st7 H locs e2 hP hS => ?_)
    have h := h st7 e2
    refine lv_aload_n (pc := 65) S.1 S.2.1 dX7_planOfToday_65 rfl (lv_at hl 0 rfl) ?_
    refine tp_get (pc := 66) S E.1 hP iwX7 0 (cC_tp a ca st7) rfl 7 (by decide) kw_281 (v := .ref (a 39)) rfl dX7_planOfToday_66 ?_
    exact tRr S hr hlk hP hS h dX7_planOfToday_69

abbrev rmX7_played : Room := { frames := 34, cells := 0, slots := 0, locals := 972 }
theorem cw_X7_played {R : Room} {own : String} {index : Nat} (h : rmX7_played.frames + 1 ≤ R.frames ∧ 8 + (1 + 11) + rmX7_played.locals ≤ R.locals) : tCw R own index yX7_played cX7_played 1 (some .int) rmX7_played 0 := ⟨kw_302, kw_6, ⟨rfl, rfl, h.1, h.2⟩, by decide +kernel, by decide +kernel, by decide +kernel⟩

set_option maxHeartbeats 4000000 in
set_option maxRecDepth 100000 in
theorem mt_X7_played (l : Launch) (dC : Nat → ClassId) (dI : Nat → Nat → Nat) (a : Nat → Nat) (ca : Nat → ClassId) (tb : Nat → Nat) (sz : Nat) (st : tSt) (post : Int32 → tSt → Prop) (h : wp_T_played  st post) : Met l yX7_played (.code yX7_played cX7_played 1 (some .int) :: tWALL) rmX7_played (va_Pc [.ref (a 0)] (tPre 47 (cwC a ca) dC dI a ca tb sz st)) (va_Qi post (tB (cwC a ca) dC dI) (tA 47 a sz)) 0 0 (tA 47 a sz) := by
  refine tp_met (by decide) (Nat.le_of_ble_eq_true rfl) ?_
  intro p e s m below meth c ls S hr hlk hsz E hP hl
  subst hsz
  have S : CallFix p m c cX7_played 1 s _ (.code yX7_played cX7_played 1 (some .int) :: tWALL) RX7 := S
  have hl : lv_has ls 1 [(0, .ref (a 0))] := hl
  have hS : va_S (tA 47 a s.heap.size) s.heap s.heap [] := va_S.rf
  show W p l e _ s m _ below meth c s.heap [] 0 0 (tQi (cwC a ca) 47 dC dI a ([.ref (a 0)] : List Value).toArray below s post) (F0 m 0 ls [])
  refine lv_aload_n (pc := 0) S.1 S.2.1 dX7_played_0 rfl (lv_at hl 0 rfl) ?_
  refine tGr hS (tRunV (pc := 1) (As := []) (rest := []) S E hP hS (mt_X7_planOfToday l dC dI a ca tb _  st _ h) (cw_X7_planOfToday ⟨Nat.le_of_ble_eq_true rfl, Nat.le_of_ble_eq_true rfl⟩) kw_296 kw_297 kw_298 0 7 rfl rfl (cC_tp a ca st) rfl hl.1 rfl (Nat.le_of_ble_eq_true rfl) dX7_played_1) (fun st1 H locs h hP hS => ?_)
  refine tGi hS (tRunV (pc := 4) (As := []) (rest := []) S E hP hS (mt_X3_playedBits l dC dI a ca tb _  st1 _ h) (cw_X3_playedBits ⟨Nat.le_of_ble_eq_true rfl, Nat.le_of_ble_eq_true rfl⟩) kw_299 kw_300 kw_301 39 3 rfl rfl (cC_plan a ca st1) rfl hl.1 rfl (Nat.le_of_ble_eq_true rfl) dX7_played_4) (fun r3 st2 H locs h hP hS => ?_)
  exact tRi S hr hlk hP hS h dX7_played_7

abbrev rmX7_who : Room := { frames := 34, cells := 0, slots := 0, locals := 972 }
theorem cw_X7_who {R : Room} {own : String} {index : Nat} (h : rmX7_who.frames + 1 ≤ R.frames ∧ 8 + (3 + 11) + rmX7_who.locals ≤ R.locals) : tCw R own index yX7_who cX7_who 3 (some .int) rmX7_who 2 := ⟨kw_306, kw_6, ⟨rfl, rfl, h.1, h.2⟩, by decide +kernel, by decide +kernel, by decide +kernel⟩

set_option maxHeartbeats 4000000 in
set_option maxRecDepth 100000 in
theorem mt_X7_who (l : Launch) (dC : Nat → ClassId) (dI : Nat → Nat → Nat) (a : Nat → Nat) (ca : Nat → ClassId) (tb : Nat → Nat) (sz : Nat) (x1 : Int32) (x2 : Int32) (st : tSt) (post : Int32 → tSt → Prop) (h : wp_T_who x1 x2 st post) : Met l yX7_who (.code yX7_who cX7_who 3 (some .int) :: tWALL) rmX7_who (va_Pc [.ref (a 0), .int x1, .int x2] (tPre 47 (cwC a ca) dC dI a ca tb sz st)) (va_Qi post (tB (cwC a ca) dC dI) (tA 47 a sz)) 0 0 (tA 47 a sz) := by
  refine tp_met (by decide) (Nat.le_of_ble_eq_true rfl) ?_
  intro p e s m below meth c ls S hr hlk hsz E hP hl
  subst hsz
  have S : CallFix p m c cX7_who 3 s _ (.code yX7_who cX7_who 3 (some .int) :: tWALL) RX7 := S
  have hl : lv_has ls 3 [(0, .ref (a 0)), (1, .int x1), (2, .int x2)] := hl
  have hS : va_S (tA 47 a s.heap.size) s.heap s.heap [] := va_S.rf
  show W p l e _ s m _ below meth c s.heap [] 0 0 (tQi (cwC a ca) 47 dC dI a ([.ref (a 0), .int x1, .int x2] : List Value).toArray below s post) (F0 m 0 ls [])
  refine lv_aload_n (pc := 0) S.1 S.2.1 dX7_who_0 rfl (lv_at hl 0 rfl) ?_
  refine tGr hS (tRunV (pc := 1) (As := []) (rest := []) S E hP hS (mt_X7_planOfToday l dC dI a ca tb _  st _ h) (cw_X7_planOfToday ⟨Nat.le_of_ble_eq_true rfl, Nat.le_of_ble_eq_true rfl⟩) kw_296 kw_297 kw_298 0 7 rfl rfl (cC_tp a ca st) rfl hl.1 rfl (Nat.le_of_ble_eq_true rfl) dX7_who_1) (fun st1 H locs h hP hS => ?_)
  refine lv_iload_n (pc := 4) S.1 S.2.1 dX7_who_4 rfl (lv_at hl 1 rfl) ?_
  refine lv_iload_n (pc := 5) S.1 S.2.1 dX7_who_5 rfl (lv_at hl 2 rfl) ?_
  refine tGi hS (tRunV (pc := 6) (As := [.int x1, .int x2]) (rest := []) S E hP hS (mt_X3_piperOf l dC dI a ca tb _ x1 x2 st1 _ h) (cw_X3_piperOf ⟨Nat.le_of_ble_eq_true rfl, Nat.le_of_ble_eq_true rfl⟩) kw_303 kw_304 kw_305 39 3 rfl rfl (cC_plan a ca st1) rfl hl.1 rfl (Nat.le_of_ble_eq_true rfl) dX7_who_6) (fun r3 st2 H locs h hP hS => ?_)
  exact tRi S hr hlk hP hS h dX7_who_9

abbrev rmX7_tune : Room := { frames := 1, cells := 0, slots := 0, locals := 22 }
theorem cw_X7_tune {R : Room} {own : String} {index : Nat} (h : rmX7_tune.frames + 1 ≤ R.frames ∧ 8 + (4 + 11) + rmX7_tune.locals ≤ R.locals) : tCw R own index yX7_tune cX7_tune 4 (some .int) rmX7_tune 2 := ⟨kw_311, kw_6, ⟨rfl, rfl, h.1, h.2⟩, by decide +kernel, by decide +kernel, by decide +kernel⟩

set_option maxHeartbeats 4000000 in
set_option maxRecDepth 100000 in
theorem mt_X7_tune (l : Launch) (dC : Nat → ClassId) (dI : Nat → Nat → Nat) (a : Nat → Nat) (ca : Nat → ClassId) (tb : Nat → Nat) (sz : Nat) (x1 : Int32) (x2 : Int32) (st : tSt) (post : Int32 → tSt → Prop) (h : wp_T_tune x1 x2 st post) : Met l yX7_tune (.code yX7_tune cX7_tune 4 (some .int) :: tWALL) rmX7_tune (va_Pc [.ref (a 0), .int x1, .int x2] (tPre 47 (cwC a ca) dC dI a ca tb sz st)) (va_Qi post (tB (cwC a ca) dC dI) (tA 47 a sz)) 0 0 (tA 47 a sz) := by
  refine tp_met (by decide) (Nat.le_of_ble_eq_true rfl) ?_
  intro p e s m below meth c ls S hr hlk hsz E hP hl
  subst hsz
  have S : CallFix p m c cX7_tune 4 s _ (.code yX7_tune cX7_tune 4 (some .int) :: tWALL) RX7 := S
  have hl : lv_has ls 4 [(0, .ref (a 0)), (1, .int x1), (2, .int x2)] := hl
  have hS : va_S (tA 47 a s.heap.size) s.heap s.heap [] := va_S.rf
  show W p l e _ s m _ below meth c s.heap [] 0 0 (tQi (cwC a ca) 47 dC dI a ([.ref (a 0), .int x1, .int x2] : List Value).toArray below s post) (F0 m 0 ls [])
  refine lv_aload_n (pc := 0) S.1 S.2.1 dX7_tune_0 rfl (lv_at hl 0 rfl) ?_
  refine tp_get (pc := 1) S E.1 hP iwX7 0 (cC_tp a ca st) rfl 9 (by decide) kw_307 (v := .int (st 1 0)) rfl dX7_tune_1 ?_
  refine lv_bipush (pc := 4) S.1 S.2.1 (v := 10) dX7_tune_4 (by decide) ?_
  refine lv_icmp_ge (pc := 6) (tgt := 30) S.1 S.2.1 dX7_tune_6 (by decide) (fun c1 => ?_) (fun c1 => ?_)
  · have h := h.1 c1
    refine lv_iconst (pc := 30) S.1 S.2.1 (v := (-1)) dX7_tune_30 (by decide) ?_
    exact tRi S hr hlk hP hS h dX7_tune_31
  · have h := h.2 c1
    refine lv_iload_n (pc := 9) S.1 S.2.1 dX7_tune_9 rfl (lv_at hl 1 rfl) ?_
    refine lv_iconst (pc := 10) S.1 S.2.1 (v := 0) dX7_tune_10 (by decide) ?_
    refine lv_bipush (pc := 11) S.1 S.2.1 (v := 63) dX7_tune_11 (by decide) ?_
    refine tGi hS (tRunS (pc := 13) (As := [.int x1, .int (0 : Int32), .int (63 : Int32)]) (rest := []) S E hP hS (mt_X7_within l dC dI a ca tb _ x1 (0 : Int32) (63 : Int32) st _ h) (cw_X7_within ⟨Nat.le_of_ble_eq_true rfl, Nat.le_of_ble_eq_true rfl⟩) kw_243 kw_8 rfl hl.1 rfl (Nat.le_of_ble_eq_true rfl) dX7_tune_13) (fun r2 st1 H locs h hP hS => ?_)
    refine lv_if_eq (pc := 16) (tgt := 30) S.1 S.2.1 dX7_tune_16 (by decide) (fun c2 => ?_) (fun c2 => ?_)
    · have h := h.1 c2
      refine lv_iconst (pc := 30) S.1 S.2.1 (v := (-1)) dX7_tune_30 (by decide) ?_
      exact tRi S hr hlk hP hS h dX7_tune_31
    · have h := h.2 c2
      refine lv_iload_n (pc := 19) S.1 S.2.1 dX7_tune_19 rfl (lv_at hl 2 rfl) ?_
      refine lv_iconst (pc := 20) S.1 S.2.1 (v := 0) dX7_tune_20 (by decide) ?_
      refine lv_sipush (pc := 21) S.1 S.2.1 (v := 4095) dX7_tune_21 (by decide) ?_
      refine tGi hS (tRunS (pc := 24) (As := [.int x2, .int (0 : Int32), .int (4095 : Int32)]) (rest := []) S E hP hS (mt_X7_within l dC dI a ca tb _ x2 (0 : Int32) (4095 : Int32) st1 _ h) (cw_X7_within ⟨Nat.le_of_ble_eq_true rfl, Nat.le_of_ble_eq_true rfl⟩) kw_243 kw_8 rfl hl.1 rfl (Nat.le_of_ble_eq_true rfl) dX7_tune_24) (fun r4 st3 H locs h hP hS => ?_)
      refine lv_if_ne (pc := 27) (tgt := 32) S.1 S.2.1 dX7_tune_27 (by decide) (fun c3 => ?_) (fun c3 => ?_)
      · have h := h.2 c3
        refine lv_aload_n (pc := 32) S.1 S.2.1 dX7_tune_32 rfl (lv_at hl 0 rfl) ?_
        refine tp_get (pc := 33) S E.1 hP iwX7 0 (cC_tp a ca st3) rfl 9 (by decide) kw_307 (v := .int (st3 1 0)) rfl dX7_tune_33 ?_
        refine lv_topi (fun y3_5 e4 => ?_)
        have h := h y3_5 e4
        refine lv_istore_n (pc := 36) S.1 S.2.1 (lv' := [(3, .int y3_5), (0, .ref (a 0)), (1, .int x1), (2, .int x2)]) dX7_tune_36 rfl hl (by decide) rfl (fun ls hl => ?_)
        refine lv_aload_n (pc := 37) S.1 S.2.1 dX7_tune_37 rfl (lv_at hl 1 rfl) ?_
        refine tp_get (pc := 38) S E.1 hP iwX7 0 (cC_tp a ca st3) rfl 4 (by decide) kw_288 (v := .ref (a 26)) rfl dX7_tune_38 ?_
        refine lv_iload_n (pc := 41) S.1 S.2.1 dX7_tune_41 rfl (lv_at hl 0 rfl) ?_
        obtain ⟨hn5, h⟩ := h
        refine tp_aald (pc := 42) S E.1 hP 26 3 (cC_tunesA a ca st3) rfl (j := y3_5.toNatClampNeg) (d := a (27 + y3_5.toNatClampNeg)) rfl rfl hn5 dX7_tune_42 ?_
        have hj6 := t_lt hn5
        refine lv_iload_n (pc := 43) S.1 S.2.1 dX7_tune_43 rfl (lv_at hl 2 rfl) ?_
        refine lv_iload_n (pc := 44) S.1 S.2.1 dX7_tune_44 rfl (lv_at hl 3 rfl) ?_
        refine tGv hS (tRunV (pc := 45) (As := [.int x1, .int x2]) (rest := []) S E hP hS (mt_X6_learn l dC dI a ca tb _ hj6 x1 x2 st3 _ h) (cw_X6_learn ⟨Nat.le_of_ble_eq_true rfl, Nat.le_of_ble_eq_true rfl⟩) kw_308 kw_309 kw_310 (27 + y3_5.toNatClampNeg) 6 rfl rfl (cC_tune a ca st3 hj6) rfl hl.1 rfl (Nat.le_of_ble_eq_true rfl) dX7_tune_45) (fun st6 H locs h hP hS => ?_)
        refine lv_aload_n (pc := 48) S.1 S.2.1 dX7_tune_48 rfl (lv_at hl 1 rfl) ?_
        refine lv_dup (pc := 49) S.1 S.2.1 dX7_tune_49 rfl ?_
        refine tp_get (pc := 50) S E.1 hP iwX7 0 (cC_tp a ca st6) rfl 9 (by decide) kw_307 (v := .int (st6 1 0)) rfl dX7_tune_50 ?_
        refine lv_iconst (pc := 53) S.1 S.2.1 (v := 1) dX7_tune_53 (by decide) ?_
        refine lv_iadd (pc := 54) S.1 S.2.1 dX7_tune_54 ?_
        refine tp_put (pc := 55) S E.1 hP (cC_D E st6) hS iwX7 tyX7 tyX7_ok nmX7 0 (cC_tp a ca st6) rfl 9 (by decide) kw_307 rfl (v := .int ((st6 1 0) + (1 : Int32))) (tyX7_ok 9 (by decide)) rfl rfl (Nat.le_of_ble_eq_true rfl) (sC_tp_tuneCount a ca st6 _) dX7_tune_55 (fun st7 H locs e7 hP hS => ?_)
        have h := h st7 e7
        refine lv_aload_n (pc := 58) S.1 S.2.1 dX7_tune_58 rfl (lv_at hl 1 rfl) ?_
        refine lv_iconst (pc := 59) S.1 S.2.1 (v := 0) dX7_tune_59 (by decide) ?_
        refine tp_put (pc := 60) S E.1 hP (cC_D E st7) hS iwX7 tyX7 tyX7_ok nmX7 0 (cC_tp a ca st7) rfl 12 (by decide) kw_240 rfl (v := .int (0 : Int32)) (tyX7_ok 12 (by decide)) (by decide +kernel) rfl (Nat.le_of_ble_eq_true rfl) (sC_tp_planned a ca st7 _) dX7_tune_60 (fun st8 H locs e8 hP hS => ?_)
        have h := h st8 e8
        refine lv_iload_n (pc := 63) S.1 S.2.1 dX7_tune_63 rfl (lv_at hl 0 rfl) ?_
        exact tRi S hr hlk hP hS h dX7_tune_64
      · have h := h.1 c3
        refine lv_iconst (pc := 30) S.1 S.2.1 (v := (-1)) dX7_tune_30 (by decide) ?_
        exact tRi S hr hlk hP hS h dX7_tune_31

abbrev rmX7_heard : Room := { frames := 34, cells := 0, slots := 0, locals := 972 }
theorem cw_X7_heard {R : Room} {own : String} {index : Nat} (h : rmX7_heard.frames + 1 ≤ R.frames ∧ 8 + (2 + 11) + rmX7_heard.locals ≤ R.locals) : tCw R own index yX7_heard cX7_heard 2 (some .int) rmX7_heard 1 := ⟨kw_315, kw_6, ⟨rfl, rfl, h.1, h.2⟩, by decide +kernel, by decide +kernel, by decide +kernel⟩

set_option maxHeartbeats 4000000 in
set_option maxRecDepth 100000 in
theorem mt_X7_heard (l : Launch) (dC : Nat → ClassId) (dI : Nat → Nat → Nat) (a : Nat → Nat) (ca : Nat → ClassId) (tb : Nat → Nat) (sz : Nat) (x1 : Int32) (st : tSt) (post : Int32 → tSt → Prop) (h : wp_T_heard x1 st post) : Met l yX7_heard (.code yX7_heard cX7_heard 2 (some .int) :: tWALL) rmX7_heard (va_Pc [.ref (a 0), .int x1] (tPre 47 (cwC a ca) dC dI a ca tb sz st)) (va_Qi post (tB (cwC a ca) dC dI) (tA 47 a sz)) 0 0 (tA 47 a sz) := by
  refine tp_met (by decide) (Nat.le_of_ble_eq_true rfl) ?_
  intro p e s m below meth c ls S hr hlk hsz E hP hl
  subst hsz
  have S : CallFix p m c cX7_heard 2 s _ (.code yX7_heard cX7_heard 2 (some .int) :: tWALL) RX7 := S
  have hl : lv_has ls 2 [(0, .ref (a 0)), (1, .int x1)] := hl
  have hS : va_S (tA 47 a s.heap.size) s.heap s.heap [] := va_S.rf
  show W p l e _ s m _ below meth c s.heap [] 0 0 (tQi (cwC a ca) 47 dC dI a ([.ref (a 0), .int x1] : List Value).toArray below s post) (F0 m 0 ls [])
  refine lv_aload_n (pc := 0) S.1 S.2.1 dX7_heard_0 rfl (lv_at hl 0 rfl) ?_
  refine tGr hS (tRunV (pc := 1) (As := []) (rest := []) S E hP hS (mt_X7_planOfToday l dC dI a ca tb _  st _ h) (cw_X7_planOfToday ⟨Nat.le_of_ble_eq_true rfl, Nat.le_of_ble_eq_true rfl⟩) kw_296 kw_297 kw_298 0 7 rfl rfl (cC_tp a ca st) rfl hl.1 rfl (Nat.le_of_ble_eq_true rfl) dX7_heard_1) (fun st1 H locs h hP hS => ?_)
  refine lv_iload_n (pc := 4) S.1 S.2.1 dX7_heard_4 rfl (lv_at hl 1 rfl) ?_
  refine tGi hS (tRunV (pc := 5) (As := [.int x1]) (rest := []) S E hP hS (mt_X3_tuneOf l dC dI a ca tb _ x1 st1 _ h) (cw_X3_tuneOf ⟨Nat.le_of_ble_eq_true rfl, Nat.le_of_ble_eq_true rfl⟩) kw_312 kw_313 kw_314 39 3 rfl rfl (cC_plan a ca st1) rfl hl.1 rfl (Nat.le_of_ble_eq_true rfl) dX7_heard_5) (fun r3 st2 H locs h hP hS => ?_)
  exact tRi S hr hlk hP hS h dX7_heard_8

abbrev rmX7_fundShare : Room := { frames := 2, cells := 0, slots := 0, locals := 43 }
theorem cw_X7_fundShare {R : Room} {own : String} {index : Nat} (h : rmX7_fundShare.frames + 1 ≤ R.frames ∧ 8 + (2 + 11) + rmX7_fundShare.locals ≤ R.locals) : tCw R own index yX7_fundShare cX7_fundShare 2 (some .int) rmX7_fundShare 1 := ⟨kw_317, kw_6, ⟨rfl, rfl, h.1, h.2⟩, by decide +kernel, by decide +kernel, by decide +kernel⟩

set_option maxHeartbeats 4000000 in
set_option maxRecDepth 100000 in
theorem mt_X7_fundShare (l : Launch) (dC : Nat → ClassId) (dI : Nat → Nat → Nat) (a : Nat → Nat) (ca : Nat → ClassId) (tb : Nat → Nat) (sz : Nat) (x1 : Int32) (st : tSt) (post : Int32 → tSt → Prop) (h : wp_T_fundShare x1 st post) : Met l yX7_fundShare (.code yX7_fundShare cX7_fundShare 2 (some .int) :: tWALL) rmX7_fundShare (va_Pc [.ref (a 0), .int x1] (tPre 47 (cwC a ca) dC dI a ca tb sz st)) (va_Qi post (tB (cwC a ca) dC dI) (tA 47 a sz)) 0 0 (tA 47 a sz) := by
  refine tp_met (by decide) (Nat.le_of_ble_eq_true rfl) ?_
  intro p e s m below meth c ls S hr hlk hsz E hP hl
  subst hsz
  have S : CallFix p m c cX7_fundShare 2 s _ (.code yX7_fundShare cX7_fundShare 2 (some .int) :: tWALL) RX7 := S
  have hl : lv_has ls 2 [(0, .ref (a 0)), (1, .int x1)] := hl
  have hS : va_S (tA 47 a s.heap.size) s.heap s.heap [] := va_S.rf
  show W p l e _ s m _ below meth c s.heap [] 0 0 (tQi (cwC a ca) 47 dC dI a ([.ref (a 0), .int x1] : List Value).toArray below s post) (F0 m 0 ls [])
  refine lv_aload_n (pc := 0) S.1 S.2.1 dX7_fundShare_0 rfl (lv_at hl 0 rfl) ?_
  refine tp_get (pc := 1) S E.1 hP iwX7 0 (cC_tp a ca st) rfl 3 (by decide) kw_258 (v := .ref (a 13)) rfl dX7_fundShare_1 ?_
  refine lv_iload_n (pc := 4) S.1 S.2.1 dX7_fundShare_4 rfl (lv_at hl 1 rfl) ?_
  obtain ⟨hn1, h⟩ := h
  refine tp_aald (pc := 5) S E.1 hP 13 2 (cC_callsA a ca st) rfl (j := x1.toNatClampNeg) (d := a (14 + x1.toNatClampNeg)) rfl rfl hn1 dX7_fundShare_5 ?_
  have hj2 := t_lt hn1
  refine lv_bipush (pc := 6) S.1 S.2.1 (v := 7) dX7_fundShare_6 (by decide) ?_
  refine tGi hS (tRunV (pc := 8) (As := [.int (7 : Int32)]) (rest := []) S E hP hS (mt_X0_fact l dC dI a ca tb _ hj2 (7 : Int32) st _ h) (cw_X0_fact ⟨Nat.le_of_ble_eq_true rfl, Nat.le_of_ble_eq_true rfl⟩) kw_316 kw_146 kw_147 (14 + x1.toNatClampNeg) 0 rfl rfl (cC_call a ca st hj2) rfl hl.1 rfl (Nat.le_of_ble_eq_true rfl) dX7_fundShare_8) (fun r2 st1 H locs h hP hS => ?_)
  refine lv_aload_n (pc := 11) S.1 S.2.1 dX7_fundShare_11 rfl (lv_at hl 0 rfl) ?_
  refine tp_get (pc := 12) S E.1 hP iwX7 0 (cC_tp a ca st1) rfl 1 (by decide) kw_233 (v := .ref (a 3)) rfl dX7_fundShare_12 ?_
  refine lv_iconst (pc := 15) S.1 S.2.1 (v := 1) dX7_fundShare_15 (by decide) ?_
  refine tGi hS (tRunV (pc := 16) (As := [.int (1 : Int32)]) (rest := [.int r2]) S E hP hS (mt_X5_number l dC dI a ca tb _ (1 : Int32) st1 _ h) (cw_X5_number ⟨Nat.le_of_ble_eq_true rfl, Nat.le_of_ble_eq_true rfl⟩) kw_282 kw_283 kw_284 3 5 rfl rfl (cC_tw a ca st1) rfl hl.1 rfl (Nat.le_of_ble_eq_true rfl) dX7_fundShare_16) (fun r4 st3 H locs h hP hS => ?_)
  refine lv_imul (pc := 19) S.1 S.2.1 dX7_fundShare_19 ?_
  refine lv_bipush (pc := 20) S.1 S.2.1 (v := 100) dX7_fundShare_20 (by decide) ?_
  refine lv_idiv (pc := 22) S.1 S.2.1 dX7_fundShare_22 (by decide) ?_
  exact tRi S hr hlk hP hS h dX7_fundShare_23

abbrev rmX7_partOfTwo : Room := { frames := 2, cells := 0, slots := 0, locals := 43 }
theorem cw_X7_partOfTwo {R : Room} {own : String} {index : Nat} (h : rmX7_partOfTwo.frames + 1 ≤ R.frames ∧ 8 + (9 + 11) + rmX7_partOfTwo.locals ≤ R.locals) : tCw R own index yX7_partOfTwo cX7_partOfTwo 9 (some .int) rmX7_partOfTwo 3 := ⟨kw_322, kw_6, ⟨rfl, rfl, h.1, h.2⟩, by decide +kernel, by decide +kernel, by decide +kernel⟩
set_option maxHeartbeats 4000000 in
set_option maxRecDepth 100000 in
theorem wk_X7_partOfTwo_120 {p : Program} {l : Launch} {e : Env} {s : State} {m : MethodId} {args : Array Value} {below : List Frame} {meth : Method} {c : Code} {dC : Nat → ClassId} {dI : Nat → Nat → Nat} {a : Nat → Nat} {ca : Nat → ClassId} {tb : Nat → Nat} {w0 : Cond} (S : CallFix p m c cX7_partOfTwo 9 s args (w0 :: tWALL) RX7) (hr : meth.sig.returnType = (some .int)) (hlk : meth.locks = false) (E : tEnv 47 dC dI a ca tb s) (post : Int32 → tSt → Prop) : ∀ (x4 : Int32) (x5 : Int32) (x7 : Int32) (s0 : Int32) (st : tSt), wp_T_partOfTwo_120 post x4 x5 x7 s0 st → tAt p l e rmX7_partOfTwo s m args below meth c (dC, dI) (cwC a ca) (tA 47 a s.heap.size) (tQi (cwC a ca) 47 dC dI a args below s post) 9 120 [(4, .int x4), (5, .int x5), (7, .int x7)] [.int s0] st := by
  intro x4 x5 x7 s0 st h H locs ls hP hS hl
  refine lv_istore (pc := 120) S.1 S.2.1 (lv' := [(8, .int s0), (4, .int x4), (5, .int x5), (7, .int x7)]) dX7_partOfTwo_120 hl (by decide) rfl (fun ls hl => ?_)
  refine lv_iload (pc := 122) S.1 S.2.1 dX7_partOfTwo_122 (lv_at hl 2 rfl) ?_
  refine lv_iload (pc := 124) S.1 S.2.1 dX7_partOfTwo_124 (lv_at hl 1 rfl) ?_
  obtain ⟨hn1, h⟩ := h
  refine lv_idiv (pc := 126) S.1 S.2.1 dX7_partOfTwo_126 hn1 ?_
  refine lv_iload (pc := 127) S.1 S.2.1 dX7_partOfTwo_127 (lv_at hl 0 rfl) ?_
  refine lv_if_eq (pc := 129) (tgt := 137) S.1 S.2.1 dX7_partOfTwo_129 (by decide) (fun c2 => ?_) (fun c2 => ?_)
  · have h := h.1 c2
    refine lv_iconst (pc := 137) S.1 S.2.1 (v := 0) dX7_partOfTwo_137 (by decide) ?_
    refine lv_iadd (pc := 138) S.1 S.2.1 dX7_partOfTwo_138 ?_
    exact tRi S hr hlk hP hS h dX7_partOfTwo_139
  · have h := h.2 c2
    refine lv_iload (pc := 132) S.1 S.2.1 dX7_partOfTwo_132 (lv_at hl 3 rfl) ?_
    refine lv_goto (pc := 134) S.1 S.2.1 (tgt := 138) dX7_partOfTwo_134 (by decide) ?_
    refine lv_iadd (pc := 138) S.1 S.2.1 dX7_partOfTwo_138 ?_
    exact tRi S hr hlk hP hS h dX7_partOfTwo_139
set_option maxHeartbeats 4000000 in
set_option maxRecDepth 100000 in
theorem wk_X7_partOfTwo_115 {p : Program} {l : Launch} {e : Env} {s : State} {m : MethodId} {args : Array Value} {below : List Frame} {meth : Method} {c : Code} {dC : Nat → ClassId} {dI : Nat → Nat → Nat} {a : Nat → Nat} {ca : Nat → ClassId} {tb : Nat → Nat} {w0 : Cond} (S : CallFix p m c cX7_partOfTwo 9 s args (w0 :: tWALL) RX7) (hr : meth.sig.returnType = (some .int)) (hlk : meth.locks = false) (E : tEnv 47 dC dI a ca tb s) (post : Int32 → tSt → Prop) : ∀ (x4 : Int32) (x5 : Int32) (x7 : Int32) (st : tSt), wp_T_partOfTwo_115 post x4 x5 x7 st → tAt p l e rmX7_partOfTwo s m args below meth c (dC, dI) (cwC a ca) (tA 47 a s.heap.size) (tQi (cwC a ca) 47 dC dI a args below s post) 9 115 [(4, .int x4), (5, .int x5), (7, .int x7)] [] st := by
  intro x4 x5 x7 st h H locs ls hP hS hl
  refine lv_iconst (pc := 115) S.1 S.2.1 (v := 1) dX7_partOfTwo_115 (by decide) ?_
  refine lv_goto (pc := 116) S.1 S.2.1 (tgt := 120) dX7_partOfTwo_116 (by decide) ?_
  exact (fun x4 x5 x7 s0 st h => wk_X7_partOfTwo_120 S hr hlk E post  x4 x5 x7 s0 st h) x4 x5 x7 (1 : Int32) st h _ _ _ hP hS (lv_sub hl [0, 1, 2] rfl)
set_option maxHeartbeats 4000000 in
set_option maxRecDepth 100000 in
theorem wk_X7_partOfTwo_119 {p : Program} {l : Launch} {e : Env} {s : State} {m : MethodId} {args : Array Value} {below : List Frame} {meth : Method} {c : Code} {dC : Nat → ClassId} {dI : Nat → Nat → Nat} {a : Nat → Nat} {ca : Nat → ClassId} {tb : Nat → Nat} {w0 : Cond} (S : CallFix p m c cX7_partOfTwo 9 s args (w0 :: tWALL) RX7) (hr : meth.sig.returnType = (some .int)) (hlk : meth.locks = false) (E : tEnv 47 dC dI a ca tb s) (post : Int32 → tSt → Prop) : ∀ (x4 : Int32) (x5 : Int32) (x7 : Int32) (st : tSt), wp_T_partOfTwo_119 post x4 x5 x7 st → tAt p l e rmX7_partOfTwo s m args below meth c (dC, dI) (cwC a ca) (tA 47 a s.heap.size) (tQi (cwC a ca) 47 dC dI a args below s post) 9 119 [(4, .int x4), (5, .int x5), (7, .int x7)] [] st := by
  intro x4 x5 x7 st h H locs ls hP hS hl
  refine lv_iconst (pc := 119) S.1 S.2.1 (v := 0) dX7_partOfTwo_119 (by decide) ?_
  exact (fun x4 x5 x7 s0 st h => wk_X7_partOfTwo_120 S hr hlk E post  x4 x5 x7 s0 st h) x4 x5 x7 (0 : Int32) st h _ _ _ hP hS (lv_sub hl [0, 1, 2] rfl)
set_option maxHeartbeats 4000000 in
set_option maxRecDepth 100000 in
theorem mt_X7_partOfTwo (l : Launch) (dC : Nat → ClassId) (dI : Nat → Nat → Nat) (a : Nat → Nat) (ca : Nat → ClassId) (tb : Nat → Nat) (sz : Nat) (x1 : Int32) (x2 : Int32) (x3 : Int32) (st : tSt) (post : Int32 → tSt → Prop) (h : wp_T_partOfTwo x1 x2 x3 st post) : Met l yX7_partOfTwo (.code yX7_partOfTwo cX7_partOfTwo 9 (some .int) :: tWALL) rmX7_partOfTwo (va_Pc [.ref (a 0), .int x1, .int x2, .int x3] (tPre 47 (cwC a ca) dC dI a ca tb sz st)) (va_Qi post (tB (cwC a ca) dC dI) (tA 47 a sz)) 0 0 (tA 47 a sz) := by
  refine tp_met (by decide) (Nat.le_of_ble_eq_true rfl) ?_
  intro p e s m below meth c ls S hr hlk hsz E hP hl
  subst hsz
  have S : CallFix p m c cX7_partOfTwo 9 s _ (.code yX7_partOfTwo cX7_partOfTwo 9 (some .int) :: tWALL) RX7 := S
  have hl : lv_has ls 9 [(0, .ref (a 0)), (1, .int x1), (2, .int x2), (3, .int x3)] := hl
  have hS : va_S (tA 47 a s.heap.size) s.heap s.heap [] := va_S.rf
  show W p l e _ s m _ below meth c s.heap [] 0 0 (tQi (cwC a ca) 47 dC dI a ([.ref (a 0), .int x1, .int x2, .int x3] : List Value).toArray below s post) (F0 m 0 ls [])
  refine lv_aload_n (pc := 0) S.1 S.2.1 dX7_partOfTwo_0 rfl (lv_at hl 0 rfl) ?_
  refine lv_iload_n (pc := 1) S.1 S.2.1 dX7_partOfTwo_1 rfl (lv_at hl 2 rfl) ?_
  refine tGi hS (tRunV (pc := 2) (As := [.int x2]) (rest := []) S E hP hS (mt_X7_isPiper l dC dI a ca tb _ x2 st _ h) (cw_X7_isPiper ⟨Nat.le_of_ble_eq_true rfl, Nat.le_of_ble_eq_true rfl⟩) kw_250 kw_251 kw_252 0 7 rfl rfl (cC_tp a ca st) rfl hl.1 rfl (Nat.le_of_ble_eq_true rfl) dX7_partOfTwo_2) (fun r2 st1 H locs h hP hS => ?_)
  refine lv_if_eq (pc := 5) (tgt := 16) S.1 S.2.1 dX7_partOfTwo_5 (by decide) (fun c1 => ?_) (fun c1 => ?_)
  · have h := h.1 c1
    refine lv_iconst (pc := 16) S.1 S.2.1 (v := 0) dX7_partOfTwo_16 (by decide) ?_
    exact tRi S hr hlk hP hS h dX7_partOfTwo_17
  · have h := h.2 c1
    refine lv_aload_n (pc := 8) S.1 S.2.1 dX7_partOfTwo_8 rfl (lv_at hl 0 rfl) ?_
    refine lv_iload_n (pc := 9) S.1 S.2.1 dX7_partOfTwo_9 rfl (lv_at hl 3 rfl) ?_
    refine tGi hS (tRunV (pc := 10) (As := [.int x3]) (rest := []) S E hP hS (mt_X7_isPiper l dC dI a ca tb _ x3 st1 _ h) (cw_X7_isPiper ⟨Nat.le_of_ble_eq_true rfl, Nat.le_of_ble_eq_true rfl⟩) kw_250 kw_251 kw_252 0 7 rfl rfl (cC_tp a ca st1) rfl hl.1 rfl (Nat.le_of_ble_eq_true rfl) dX7_partOfTwo_10) (fun r4 st3 H locs h hP hS => ?_)
    refine lv_if_ne (pc := 13) (tgt := 18) S.1 S.2.1 dX7_partOfTwo_13 (by decide) (fun c2 => ?_) (fun c2 => ?_)
    · have h := h.2 c2
      refine lv_iconst (pc := 18) S.1 S.2.1 (v := 1) dX7_partOfTwo_18 (by decide) ?_
      refine lv_aload_n (pc := 19) S.1 S.2.1 dX7_partOfTwo_19 rfl (lv_at hl 0 rfl) ?_
      refine tp_get (pc := 20) S E.1 hP iwX7 0 (cC_tp a ca st3) rfl 2 (by decide) kw_244 (v := .ref (a 6)) rfl dX7_partOfTwo_20 ?_
      refine lv_iload_n (pc := 23) S.1 S.2.1 dX7_partOfTwo_23 rfl (lv_at hl 2 rfl) ?_
      obtain ⟨hn3, h⟩ := h
      refine tp_aald (pc := 24) S E.1 hP 6 1 (cC_pipersA a ca st3) rfl (j := x2.toNatClampNeg) (d := a (7 + x2.toNatClampNeg)) rfl rfl hn3 dX7_partOfTwo_24 ?_
      have hj4 := t_lt hn3
      refine tp_getN (pc := 25) S E.2.1 E.1 hP iwX2 (7 + x2.toNatClampNeg) (cC_piper a ca st3 hj4) rfl 0 (by decide) kw_318 (v := .int (st3 9 x2.toNatClampNeg)) rfl dX7_partOfTwo_25 ?_
      refine lv_aload_n (pc := 28) S.1 S.2.1 dX7_partOfTwo_28 rfl (lv_at hl 0 rfl) ?_
      refine tp_get (pc := 29) S E.1 hP iwX7 0 (cC_tp a ca st3) rfl 2 (by decide) kw_244 (v := .ref (a 6)) rfl dX7_partOfTwo_29 ?_
      refine lv_iload_n (pc := 32) S.1 S.2.1 dX7_partOfTwo_32 rfl (lv_at hl 3 rfl) ?_
      obtain ⟨hn5, h⟩ := h
      refine tp_aald (pc := 33) S E.1 hP 6 1 (cC_pipersA a ca st3) rfl (j := x3.toNatClampNeg) (d := a (7 + x3.toNatClampNeg)) rfl rfl hn5 dX7_partOfTwo_33 ?_
      have hj6 := t_lt hn5
      refine tp_getN (pc := 34) S E.2.1 E.1 hP iwX2 (7 + x3.toNatClampNeg) (cC_piper a ca st3 hj6) rfl 0 (by decide) kw_318 (v := .int (st3 9 x3.toNatClampNeg)) rfl dX7_partOfTwo_34 ?_
      refine lv_iadd (pc := 37) S.1 S.2.1 dX7_partOfTwo_37 ?_
      refine va_mmax (pc := 38) S.1 S.2.1 (by rw [hl.1]; exact S.2.2.1) S.2.2.2.1 (S.2.2.2.2 _ (List.mem_cons_of_mem _ kw_319)) (S.2.2.2.2 _ (List.mem_cons_of_mem _ kw_320)) (S.2.2.2.2 _ (List.mem_cons_of_mem _ kw_81)) (S.2.2.2.2 _ (List.mem_cons_of_mem _ kw_321)) (Nat.le_of_ble_eq_true rfl) (Nat.le_of_ble_eq_true rfl) (Nat.zero_le _) (Nat.zero_le _) dX7_partOfTwo_38 ?_
      refine lv_topi (fun y4_5 e7 => ?_)
      have h := h y4_5 e7
      refine lv_istore (pc := 41) S.1 S.2.1 (lv' := [(4, .int y4_5), (0, .ref (a 0)), (1, .int x1), (2, .int x2), (3, .int x3)]) dX7_partOfTwo_41 hl (by decide) rfl (fun ls hl => ?_)
      refine lv_iload_n (pc := 43) S.1 S.2.1 dX7_partOfTwo_43 rfl (lv_at hl 2 rfl) ?_
      refine lv_aload_n (pc := 44) S.1 S.2.1 dX7_partOfTwo_44 rfl (lv_at hl 1 rfl) ?_
      refine tp_get (pc := 45) S E.1 hP iwX7 0 (cC_tp a ca st3) rfl 2 (by decide) kw_244 (v := .ref (a 6)) rfl dX7_partOfTwo_45 ?_
      refine lv_iload_n (pc := 48) S.1 S.2.1 dX7_partOfTwo_48 rfl (lv_at hl 3 rfl) ?_
      obtain ⟨hn8, h⟩ := h
      refine tp_aald (pc := 49) S E.1 hP 6 1 (cC_pipersA a ca st3) rfl (j := x2.toNatClampNeg) (d := a (7 + x2.toNatClampNeg)) rfl rfl hn8 dX7_partOfTwo_49 ?_
      refine tp_getN (pc := 50) S E.2.1 E.1 hP iwX2 (7 + x2.toNatClampNeg) (cC_piper a ca st3 hj4) rfl 0 (by decide) kw_318 (v := .int (st3 9 x2.toNatClampNeg)) rfl dX7_partOfTwo_50 ?_
      refine lv_imul (pc := 53) S.1 S.2.1 dX7_partOfTwo_53 ?_
      refine lv_topi (fun y5_6 e9 => ?_)
      have h := h y5_6 e9
      refine lv_istore (pc := 54) S.1 S.2.1 (lv' := [(5, .int y5_6), (4, .int y4_5), (0, .ref (a 0)), (1, .int x1), (2, .int x2), (3, .int x3)]) dX7_partOfTwo_54 hl (by decide) rfl (fun ls hl => ?_)
      refine lv_iload_n (pc := 56) S.1 S.2.1 dX7_partOfTwo_56 rfl (lv_at hl 3 rfl) ?_
      refine lv_aload_n (pc := 57) S.1 S.2.1 dX7_partOfTwo_57 rfl (lv_at hl 2 rfl) ?_
      refine tp_get (pc := 58) S E.1 hP iwX7 0 (cC_tp a ca st3) rfl 2 (by decide) kw_244 (v := .ref (a 6)) rfl dX7_partOfTwo_58 ?_
      refine lv_iload_n (pc := 61) S.1 S.2.1 dX7_partOfTwo_61 rfl (lv_at hl 5 rfl) ?_
      obtain ⟨hn10, h⟩ := h
      refine tp_aald (pc := 62) S E.1 hP 6 1 (cC_pipersA a ca st3) rfl (j := x3.toNatClampNeg) (d := a (7 + x3.toNatClampNeg)) rfl rfl hn10 dX7_partOfTwo_62 ?_
      refine tp_getN (pc := 63) S E.2.1 E.1 hP iwX2 (7 + x3.toNatClampNeg) (cC_piper a ca st3 hj6) rfl 0 (by decide) kw_318 (v := .int (st3 9 x3.toNatClampNeg)) rfl dX7_partOfTwo_63 ?_
      refine lv_imul (pc := 66) S.1 S.2.1 dX7_partOfTwo_66 ?_
      refine lv_topi (fun y6_7 e11 => ?_)
      have h := h y6_7 e11
      refine lv_istore (pc := 67) S.1 S.2.1 (lv' := [(6, .int y6_7), (5, .int y5_6), (4, .int y4_5), (0, .ref (a 0)), (1, .int x1), (2, .int x2), (3, .int x3)]) dX7_partOfTwo_67 hl (by decide) rfl (fun ls hl => ?_)
      refine lv_iload_n (pc := 69) S.1 S.2.1 dX7_partOfTwo_69 rfl (lv_at hl 4 rfl) ?_
      refine lv_iload (pc := 70) S.1 S.2.1 dX7_partOfTwo_70 (lv_at hl 1 rfl) ?_
      refine lv_iload (pc := 72) S.1 S.2.1 dX7_partOfTwo_72 (lv_at hl 2 rfl) ?_
      obtain ⟨hn12, h⟩ := h
      refine lv_idiv (pc := 74) S.1 S.2.1 dX7_partOfTwo_74 hn12 ?_
      refine lv_isub (pc := 75) S.1 S.2.1 dX7_partOfTwo_75 ?_
      refine lv_iload (pc := 76) S.1 S.2.1 dX7_partOfTwo_76 (lv_at hl 0 rfl) ?_
      refine lv_iload (pc := 78) S.1 S.2.1 dX7_partOfTwo_78 (lv_at hl 2 rfl) ?_
      obtain ⟨hn13, h⟩ := h
      refine lv_idiv (pc := 80) S.1 S.2.1 dX7_partOfTwo_80 hn13 ?_
      refine lv_isub (pc := 81) S.1 S.2.1 dX7_partOfTwo_81 ?_
      refine lv_topi (fun y7_8 e14 => ?_)
      have h := h y7_8 e14
      refine lv_istore (pc := 82) S.1 S.2.1 (lv' := [(7, .int y7_8), (6, .int y6_7), (5, .int y5_6), (4, .int y4_5), (0, .ref (a 0)), (1, .int x1), (2, .int x2), (3, .int x3)]) dX7_partOfTwo_82 hl (by decide) rfl (fun ls hl => ?_)
      refine lv_iload (pc := 84) S.1 S.2.1 dX7_partOfTwo_84 (lv_at hl 2 rfl) ?_
      refine lv_iload (pc := 86) S.1 S.2.1 dX7_partOfTwo_86 (lv_at hl 3 rfl) ?_
      obtain ⟨hn15, h⟩ := h
      refine lv_irem (pc := 88) S.1 S.2.1 dX7_partOfTwo_88 hn15 ?_
      refine lv_iload (pc := 89) S.1 S.2.1 dX7_partOfTwo_89 (lv_at hl 1 rfl) ?_
      refine lv_iload (pc := 91) S.1 S.2.1 dX7_partOfTwo_91 (lv_at hl 3 rfl) ?_
      obtain ⟨hn16, h⟩ := h
      refine lv_irem (pc := 93) S.1 S.2.1 dX7_partOfTwo_93 hn16 ?_
      refine lv_icmp_gt (pc := 94) (tgt := 115) S.1 S.2.1 dX7_partOfTwo_94 (by decide) (fun c17 => ?_) (fun c17 => ?_)
      · have h := h.1 c17
        exact (fun x4 x5 x7 st h => wk_X7_partOfTwo_115 S hr hlk E post  x4 x5 x7 st h) y4_5 y5_6 y7_8 st3 h _ _ _ hP hS (lv_sub hl [3, 2, 0] rfl)
      · have h := h.2 c17
        refine lv_iload (pc := 97) S.1 S.2.1 dX7_partOfTwo_97 (lv_at hl 2 rfl) ?_
        refine lv_iload (pc := 99) S.1 S.2.1 dX7_partOfTwo_99 (lv_at hl 3 rfl) ?_
        obtain ⟨hn18, h⟩ := h
        refine lv_irem (pc := 101) S.1 S.2.1 dX7_partOfTwo_101 hn18 ?_
        refine lv_iload (pc := 102) S.1 S.2.1 dX7_partOfTwo_102 (lv_at hl 1 rfl) ?_
        refine lv_iload (pc := 104) S.1 S.2.1 dX7_partOfTwo_104 (lv_at hl 3 rfl) ?_
        obtain ⟨hn19, h⟩ := h
        refine lv_irem (pc := 106) S.1 S.2.1 dX7_partOfTwo_106 hn19 ?_
        refine lv_icmp_ne (pc := 107) (tgt := 119) S.1 S.2.1 dX7_partOfTwo_107 (by decide) (fun c20 => ?_) (fun c20 => ?_)
        · have h := h.2 c20
          exact (fun x4 x5 x7 st h => wk_X7_partOfTwo_119 S hr hlk E post  x4 x5 x7 st h) y4_5 y5_6 y7_8 st3 h _ _ _ hP hS (lv_sub hl [3, 2, 0] rfl)
        · have h := h.1 c20
          refine lv_iload_n (pc := 110) S.1 S.2.1 dX7_partOfTwo_110 rfl (lv_at hl 6 rfl) ?_
          refine lv_iload_n (pc := 111) S.1 S.2.1 dX7_partOfTwo_111 rfl (lv_at hl 7 rfl) ?_
          refine lv_icmp_ge (pc := 112) (tgt := 119) S.1 S.2.1 dX7_partOfTwo_112 (by decide) (fun c21 => ?_) (fun c21 => ?_)
          · have h := h.1 c21
            exact (fun x4 x5 x7 st h => wk_X7_partOfTwo_119 S hr hlk E post  x4 x5 x7 st h) y4_5 y5_6 y7_8 st3 h _ _ _ hP hS (lv_sub hl [3, 2, 0] rfl)
          · have h := h.2 c21
            exact (fun x4 x5 x7 st h => wk_X7_partOfTwo_115 S hr hlk E post  x4 x5 x7 st h) y4_5 y5_6 y7_8 st3 h _ _ _ hP hS (lv_sub hl [3, 2, 0] rfl)
    · have h := h.1 c2
      refine lv_iconst (pc := 16) S.1 S.2.1 (v := 0) dX7_partOfTwo_16 (by decide) ?_
      exact tRi S hr hlk hP hS h dX7_partOfTwo_17

abbrev rmX7_piperShare : Room := { frames := 3, cells := 0, slots := 0, locals := 71 }
theorem cw_X7_piperShare {R : Room} {own : String} {index : Nat} (h : rmX7_piperShare.frames + 1 ≤ R.frames ∧ 8 + (7 + 11) + rmX7_piperShare.locals ≤ R.locals) : tCw R own index yX7_piperShare cX7_piperShare 7 (some .int) rmX7_piperShare 3 := ⟨kw_329, kw_6, ⟨rfl, rfl, h.1, h.2⟩, by decide +kernel, by decide +kernel, by decide +kernel⟩

set_option maxHeartbeats 4000000 in
set_option maxRecDepth 100000 in
theorem mt_X7_piperShare (l : Launch) (dC : Nat → ClassId) (dI : Nat → Nat → Nat) (a : Nat → Nat) (ca : Nat → ClassId) (tb : Nat → Nat) (sz : Nat) (x2 : Int32) (x3 : Int32) (st : tSt) (post : Int32 → tSt → Prop) (h : wp_T_piperShare x2 x3 st post) : Met l yX7_piperShare (.code yX7_piperShare cX7_piperShare 7 (some .int) :: tWALL) rmX7_piperShare (va_Pc [.ref (a 0), .ref (a 39), .int x2, .int x3] (tPre 47 (cwC a ca) dC dI a ca tb sz st)) (va_Qi post (tB (cwC a ca) dC dI) (tA 47 a sz)) 0 0 (tA 47 a sz) := by
  refine tp_met (by decide) (Nat.le_of_ble_eq_true rfl) ?_
  intro p e s m below meth c ls S hr hlk hsz E hP hl
  subst hsz
  have S : CallFix p m c cX7_piperShare 7 s _ (.code yX7_piperShare cX7_piperShare 7 (some .int) :: tWALL) RX7 := S
  have hl : lv_has ls 7 [(0, .ref (a 0)), (1, .ref (a 39)), (2, .int x2), (3, .int x3)] := hl
  have hS : va_S (tA 47 a s.heap.size) s.heap s.heap [] := va_S.rf
  show W p l e _ s m _ below meth c s.heap [] 0 0 (tQi (cwC a ca) 47 dC dI a ([.ref (a 0), .ref (a 39), .int x2, .int x3] : List Value).toArray below s post) (F0 m 0 ls [])
  refine lv_aload_n (pc := 0) S.1 S.2.1 dX7_piperShare_0 rfl (lv_at hl 1 rfl) ?_
  refine lv_iload_n (pc := 1) S.1 S.2.1 dX7_piperShare_1 rfl (lv_at hl 2 rfl) ?_
  refine lv_iconst (pc := 2) S.1 S.2.1 (v := 0) dX7_piperShare_2 (by decide) ?_
  refine tGi hS (tRunV (pc := 3) (As := [.int x2, .int (0 : Int32)]) (rest := []) S E hP hS (mt_X3_piperOf l dC dI a ca tb _ x2 (0 : Int32) st _ h) (cw_X3_piperOf ⟨Nat.le_of_ble_eq_true rfl, Nat.le_of_ble_eq_true rfl⟩) kw_303 kw_304 kw_305 39 3 rfl rfl (cC_plan a ca st) rfl hl.1 rfl (Nat.le_of_ble_eq_true rfl) dX7_piperShare_3) (fun r2 st1 H locs h hP hS => ?_)
  refine lv_istore (pc := 6) S.1 S.2.1 (lv' := [(4, .int r2), (0, .ref (a 0)), (1, .ref (a 39)), (2, .int x2), (3, .int x3)]) dX7_piperShare_6 hl (by decide) rfl (fun ls hl => ?_)
  refine lv_aload_n (pc := 8) S.1 S.2.1 dX7_piperShare_8 rfl (lv_at hl 2 rfl) ?_
  refine lv_iload_n (pc := 9) S.1 S.2.1 dX7_piperShare_9 rfl (lv_at hl 3 rfl) ?_
  refine lv_iconst (pc := 10) S.1 S.2.1 (v := 1) dX7_piperShare_10 (by decide) ?_
  refine tGi hS (tRunV (pc := 11) (As := [.int x2, .int (1 : Int32)]) (rest := []) S E hP hS (mt_X3_piperOf l dC dI a ca tb _ x2 (1 : Int32) st1 _ h) (cw_X3_piperOf ⟨Nat.le_of_ble_eq_true rfl, Nat.le_of_ble_eq_true rfl⟩) kw_303 kw_304 kw_305 39 3 rfl rfl (cC_plan a ca st1) rfl hl.1 rfl (Nat.le_of_ble_eq_true rfl) dX7_piperShare_11) (fun r4 st3 H locs h hP hS => ?_)
  refine lv_istore (pc := 14) S.1 S.2.1 (lv' := [(5, .int r4), (4, .int r2), (0, .ref (a 0)), (1, .ref (a 39)), (2, .int x2), (3, .int x3)]) dX7_piperShare_14 hl (by decide) rfl (fun ls hl => ?_)
  refine lv_aload_n (pc := 16) S.1 S.2.1 dX7_piperShare_16 rfl (lv_at hl 2 rfl) ?_
  refine tp_get (pc := 17) S E.1 hP iwX7 0 (cC_tp a ca st3) rfl 3 (by decide) kw_258 (v := .ref (a 13)) rfl dX7_piperShare_17 ?_
  refine lv_iload_n (pc := 20) S.1 S.2.1 dX7_piperShare_20 rfl (lv_at hl 4 rfl) ?_
  obtain ⟨hn1, h⟩ := h
  refine tp_aald (pc := 21) S E.1 hP 13 2 (cC_callsA a ca st3) rfl (j := x2.toNatClampNeg) (d := a (14 + x2.toNatClampNeg)) rfl rfl hn1 dX7_piperShare_21 ?_
  have hj2 := t_lt hn1
  refine lv_bipush (pc := 22) S.1 S.2.1 (v := 7) dX7_piperShare_22 (by decide) ?_
  refine tGi hS (tRunV (pc := 24) (As := [.int (7 : Int32)]) (rest := []) S E hP hS (mt_X0_fact l dC dI a ca tb _ hj2 (7 : Int32) st3 _ h) (cw_X0_fact ⟨Nat.le_of_ble_eq_true rfl, Nat.le_of_ble_eq_true rfl⟩) kw_316 kw_146 kw_147 (14 + x2.toNatClampNeg) 0 rfl rfl (cC_call a ca st3 hj2) rfl hl.1 rfl (Nat.le_of_ble_eq_true rfl) dX7_piperShare_24) (fun r6 st5 H locs h hP hS => ?_)
  refine lv_aload_n (pc := 27) S.1 S.2.1 dX7_piperShare_27 rfl (lv_at hl 2 rfl) ?_
  refine lv_iload_n (pc := 28) S.1 S.2.1 dX7_piperShare_28 rfl (lv_at hl 4 rfl) ?_
  refine tGi hS (tRunV (pc := 29) (As := [.int x2]) (rest := [.int r6]) S E hP hS (mt_X7_fundShare l dC dI a ca tb _ x2 st5 _ h) (cw_X7_fundShare ⟨Nat.le_of_ble_eq_true rfl, Nat.le_of_ble_eq_true rfl⟩) kw_323 kw_324 kw_325 0 7 rfl rfl (cC_tp a ca st5) rfl hl.1 rfl (Nat.le_of_ble_eq_true rfl) dX7_piperShare_29) (fun r8 st7 H locs h hP hS => ?_)
  refine lv_isub (pc := 32) S.1 S.2.1 dX7_piperShare_32 ?_
  refine lv_topi (fun y6_9 e3 => ?_)
  have h := h y6_9 e3
  refine lv_istore (pc := 33) S.1 S.2.1 (lv' := [(6, .int y6_9), (5, .int r4), (4, .int r2), (0, .ref (a 0)), (1, .ref (a 39)), (2, .int x2), (3, .int x3)]) dX7_piperShare_33 hl (by decide) rfl (fun ls hl => ?_)
  refine lv_iload_n (pc := 35) S.1 S.2.1 dX7_piperShare_35 rfl (lv_at hl 6 rfl) ?_
  refine lv_iload (pc := 36) S.1 S.2.1 dX7_piperShare_36 (lv_at hl 2 rfl) ?_
  refine lv_icmp_ne (pc := 38) (tgt := 62) S.1 S.2.1 dX7_piperShare_38 (by decide) (fun c4 => ?_) (fun c4 => ?_)
  · have h := h.2 c4
    refine lv_iload_n (pc := 62) S.1 S.2.1 dX7_piperShare_62 rfl (lv_at hl 6 rfl) ?_
    refine lv_iload (pc := 63) S.1 S.2.1 dX7_piperShare_63 (lv_at hl 1 rfl) ?_
    refine lv_icmp_ne (pc := 65) (tgt := 80) S.1 S.2.1 dX7_piperShare_65 (by decide) (fun c5 => ?_) (fun c5 => ?_)
    · have h := h.2 c5
      refine lv_iconst (pc := 80) S.1 S.2.1 (v := 0) dX7_piperShare_80 (by decide) ?_
      exact tRi S hr hlk hP hS h dX7_piperShare_81
    · have h := h.1 c5
      refine lv_aload_n (pc := 68) S.1 S.2.1 dX7_piperShare_68 rfl (lv_at hl 3 rfl) ?_
      refine lv_iload (pc := 69) S.1 S.2.1 dX7_piperShare_69 (lv_at hl 0 rfl) ?_
      refine lv_iload_n (pc := 71) S.1 S.2.1 dX7_piperShare_71 rfl (lv_at hl 6 rfl) ?_
      refine lv_iload (pc := 72) S.1 S.2.1 dX7_piperShare_72 (lv_at hl 2 rfl) ?_
      refine tGi hS (tRunV (pc := 74) (As := [.int y6_9, .int x3, .int r2]) (rest := []) S E hP hS (mt_X7_partOfTwo l dC dI a ca tb _ y6_9 x3 r2 st7 _ h) (cw_X7_partOfTwo ⟨Nat.le_of_ble_eq_true rfl, Nat.le_of_ble_eq_true rfl⟩) kw_326 kw_327 kw_328 0 7 rfl rfl (cC_tp a ca st7) rfl hl.1 rfl (Nat.le_of_ble_eq_true rfl) dX7_piperShare_74) (fun r11 st10 H locs h hP hS => ?_)
      refine lv_goto (pc := 77) S.1 S.2.1 (tgt := 81) dX7_piperShare_77 (by decide) ?_
      exact tRi S hr hlk hP hS h dX7_piperShare_81
  · have h := h.1 c4
    refine lv_iload (pc := 41) S.1 S.2.1 dX7_piperShare_41 (lv_at hl 1 rfl) ?_
    refine lv_iconst (pc := 43) S.1 S.2.1 (v := (-1)) dX7_piperShare_43 (by decide) ?_
    refine lv_icmp_ne (pc := 44) (tgt := 52) S.1 S.2.1 dX7_piperShare_44 (by decide) (fun c6 => ?_) (fun c6 => ?_)
    · have h := h.2 c6
      refine lv_aload_n (pc := 52) S.1 S.2.1 dX7_piperShare_52 rfl (lv_at hl 3 rfl) ?_
      refine lv_iload (pc := 53) S.1 S.2.1 dX7_piperShare_53 (lv_at hl 0 rfl) ?_
      refine lv_iload_n (pc := 55) S.1 S.2.1 dX7_piperShare_55 rfl (lv_at hl 6 rfl) ?_
      refine lv_iload (pc := 56) S.1 S.2.1 dX7_piperShare_56 (lv_at hl 1 rfl) ?_
      refine tGi hS (tRunV (pc := 58) (As := [.int y6_9, .int x3, .int r4]) (rest := []) S E hP hS (mt_X7_partOfTwo l dC dI a ca tb _ y6_9 x3 r4 st7 _ h) (cw_X7_partOfTwo ⟨Nat.le_of_ble_eq_true rfl, Nat.le_of_ble_eq_true rfl⟩) kw_326 kw_327 kw_328 0 7 rfl rfl (cC_tp a ca st7) rfl hl.1 rfl (Nat.le_of_ble_eq_true rfl) dX7_piperShare_58) (fun r13 st12 H locs h hP hS => ?_)
      exact tRi S hr hlk hP hS h dX7_piperShare_61
    · have h := h.1 c6
      refine lv_iload (pc := 47) S.1 S.2.1 dX7_piperShare_47 (lv_at hl 0 rfl) ?_
      refine lv_goto (pc := 49) S.1 S.2.1 (tgt := 61) dX7_piperShare_49 (by decide) ?_
      exact tRi S hr hlk hP hS h dX7_piperShare_61

abbrev rmX7_share : Room := { frames := 34, cells := 0, slots := 0, locals := 972 }
theorem cw_X7_share {R : Room} {own : String} {index : Nat} (h : rmX7_share.frames + 1 ≤ R.frames ∧ 8 + (4 + 11) + rmX7_share.locals ≤ R.locals) : tCw R own index yX7_share cX7_share 4 (some .int) rmX7_share 2 := ⟨kw_334, kw_6, ⟨rfl, rfl, h.1, h.2⟩, by decide +kernel, by decide +kernel, by decide +kernel⟩

set_option maxHeartbeats 4000000 in
set_option maxRecDepth 100000 in
theorem mt_X7_share (l : Launch) (dC : Nat → ClassId) (dI : Nat → Nat → Nat) (a : Nat → Nat) (ca : Nat → ClassId) (tb : Nat → Nat) (sz : Nat) (x1 : Int32) (x2 : Int32) (st : tSt) (post : Int32 → tSt → Prop) (h : wp_T_share x1 x2 st post) : Met l yX7_share (.code yX7_share cX7_share 4 (some .int) :: tWALL) rmX7_share (va_Pc [.ref (a 0), .int x1, .int x2] (tPre 47 (cwC a ca) dC dI a ca tb sz st)) (va_Qi post (tB (cwC a ca) dC dI) (tA 47 a sz)) 0 0 (tA 47 a sz) := by
  refine tp_met (by decide) (Nat.le_of_ble_eq_true rfl) ?_
  intro p e s m below meth c ls S hr hlk hsz E hP hl
  subst hsz
  have S : CallFix p m c cX7_share 4 s _ (.code yX7_share cX7_share 4 (some .int) :: tWALL) RX7 := S
  have hl : lv_has ls 4 [(0, .ref (a 0)), (1, .int x1), (2, .int x2)] := hl
  have hS : va_S (tA 47 a s.heap.size) s.heap s.heap [] := va_S.rf
  show W p l e _ s m _ below meth c s.heap [] 0 0 (tQi (cwC a ca) 47 dC dI a ([.ref (a 0), .int x1, .int x2] : List Value).toArray below s post) (F0 m 0 ls [])
  refine lv_aload_n (pc := 0) S.1 S.2.1 dX7_share_0 rfl (lv_at hl 0 rfl) ?_
  refine tGr hS (tRunV (pc := 1) (As := []) (rest := []) S E hP hS (mt_X7_planOfToday l dC dI a ca tb _  st _ h) (cw_X7_planOfToday ⟨Nat.le_of_ble_eq_true rfl, Nat.le_of_ble_eq_true rfl⟩) kw_296 kw_297 kw_298 0 7 rfl rfl (cC_tp a ca st) rfl hl.1 rfl (Nat.le_of_ble_eq_true rfl) dX7_share_1) (fun st1 H locs h hP hS => ?_)
  refine lv_astore_n (pc := 4) S.1 S.2.1 (lv' := [(3, .ref (a 39)), (0, .ref (a 0)), (1, .int x1), (2, .int x2)]) dX7_share_4 rfl hl (by decide) rfl (fun ls hl => ?_)
  refine lv_aload_n (pc := 5) S.1 S.2.1 dX7_share_5 rfl (lv_at hl 0 rfl) ?_
  refine lv_iload_n (pc := 6) S.1 S.2.1 dX7_share_6 rfl (lv_at hl 2 rfl) ?_
  refine tGi hS (tRunV (pc := 7) (As := [.int x1]) (rest := []) S E hP hS (mt_X3_has l dC dI a ca tb _ x1 st1 _ h) (cw_X3_has ⟨Nat.le_of_ble_eq_true rfl, Nat.le_of_ble_eq_true rfl⟩) kw_330 kw_172 kw_173 39 3 rfl rfl (cC_plan a ca st1) rfl hl.1 rfl (Nat.le_of_ble_eq_true rfl) dX7_share_7) (fun r3 st2 H locs h hP hS => ?_)
  refine lv_if_ne (pc := 10) (tgt := 15) S.1 S.2.1 dX7_share_10 (by decide) (fun c1 => ?_) (fun c1 => ?_)
  · have h := h.2 c1
    refine lv_iload_n (pc := 15) S.1 S.2.1 dX7_share_15 rfl (lv_at hl 3 rfl) ?_
    refine lv_iconst (pc := 16) S.1 S.2.1 (v := (-1)) dX7_share_16 (by decide) ?_
    refine lv_icmp_ne (pc := 17) (tgt := 26) S.1 S.2.1 dX7_share_17 (by decide) (fun c2 => ?_) (fun c2 => ?_)
    · have h := h.2 c2
      refine lv_aload_n (pc := 26) S.1 S.2.1 dX7_share_26 rfl (lv_at hl 1 rfl) ?_
      refine lv_iload_n (pc := 27) S.1 S.2.1 dX7_share_27 rfl (lv_at hl 3 rfl) ?_
      refine tGi hS (tRunV (pc := 28) (As := [.int x2]) (rest := []) S E hP hS (mt_X7_isPiper l dC dI a ca tb _ x2 st2 _ h) (cw_X7_isPiper ⟨Nat.le_of_ble_eq_true rfl, Nat.le_of_ble_eq_true rfl⟩) kw_250 kw_251 kw_252 0 7 rfl rfl (cC_tp a ca st2) rfl hl.1 rfl (Nat.le_of_ble_eq_true rfl) dX7_share_28) (fun r5 st4 H locs h hP hS => ?_)
      refine lv_if_eq (pc := 31) (tgt := 44) S.1 S.2.1 dX7_share_31 (by decide) (fun c3 => ?_) (fun c3 => ?_)
      · have h := h.1 c3
        refine lv_iconst (pc := 44) S.1 S.2.1 (v := (-1)) dX7_share_44 (by decide) ?_
        exact tRi S hr hlk hP hS h dX7_share_45
      · have h := h.2 c3
        refine lv_aload_n (pc := 34) S.1 S.2.1 dX7_share_34 rfl (lv_at hl 1 rfl) ?_
        refine lv_aload_n (pc := 35) S.1 S.2.1 dX7_share_35 rfl (lv_at hl 0 rfl) ?_
        refine lv_iload_n (pc := 36) S.1 S.2.1 dX7_share_36 rfl (lv_at hl 2 rfl) ?_
        refine lv_iload_n (pc := 37) S.1 S.2.1 dX7_share_37 rfl (lv_at hl 3 rfl) ?_
        refine tGi hS (tRunV (pc := 38) (As := [.ref (a 39), .int x1, .int x2]) (rest := []) S E hP hS (mt_X7_piperShare l dC dI a ca tb _ x1 x2 st4 _ h) (cw_X7_piperShare ⟨Nat.le_of_ble_eq_true rfl, Nat.le_of_ble_eq_true rfl⟩) kw_331 kw_332 kw_333 0 7 rfl rfl (cC_tp a ca st4) rfl hl.1 rfl (Nat.le_of_ble_eq_true rfl) dX7_share_38) (fun r7 st6 H locs h hP hS => ?_)
        refine lv_goto (pc := 41) S.1 S.2.1 (tgt := 45) dX7_share_41 (by decide) ?_
        exact tRi S hr hlk hP hS h dX7_share_45
    · have h := h.1 c2
      refine lv_aload_n (pc := 20) S.1 S.2.1 dX7_share_20 rfl (lv_at hl 1 rfl) ?_
      refine lv_iload_n (pc := 21) S.1 S.2.1 dX7_share_21 rfl (lv_at hl 2 rfl) ?_
      refine tGi hS (tRunV (pc := 22) (As := [.int x1]) (rest := []) S E hP hS (mt_X7_fundShare l dC dI a ca tb _ x1 st2 _ h) (cw_X7_fundShare ⟨Nat.le_of_ble_eq_true rfl, Nat.le_of_ble_eq_true rfl⟩) kw_323 kw_324 kw_325 0 7 rfl rfl (cC_tp a ca st2) rfl hl.1 rfl (Nat.le_of_ble_eq_true rfl) dX7_share_22) (fun r9 st8 H locs h hP hS => ?_)
      exact tRi S hr hlk hP hS h dX7_share_25
  · have h := h.1 c1
    refine lv_iconst (pc := 13) S.1 S.2.1 (v := (-1)) dX7_share_13 (by decide) ?_
    exact tRi S hr hlk hP hS h dX7_share_14

abbrev rmX7_settle : Room := { frames := 4, cells := 0, slots := 0, locals := 97 }
theorem cw_X7_settle {R : Room} {own : String} {index : Nat} (h : rmX7_settle.frames + 1 ≤ R.frames ∧ 8 + (4 + 11) + rmX7_settle.locals ≤ R.locals) : tCw R own index yX7_settle cX7_settle 4 none rmX7_settle 2 := ⟨kw_337, kw_6, ⟨rfl, rfl, h.1, h.2⟩, by decide +kernel, by decide +kernel, by decide +kernel⟩
set_option maxHeartbeats 4000000 in
set_option maxRecDepth 100000 in
theorem wk_X7_settle_37 {p : Program} {l : Launch} {e : Env} {s : State} {m : MethodId} {args : Array Value} {below : List Frame} {meth : Method} {c : Code} {dC : Nat → ClassId} {dI : Nat → Nat → Nat} {a : Nat → Nat} {ca : Nat → ClassId} {tb : Nat → Nat} {w0 : Cond} (S : CallFix p m c cX7_settle 4 s args (w0 :: tWALL) RX7) (hr : meth.sig.returnType = none) (hlk : meth.locks = false) (E : tEnv 47 dC dI a ca tb s) (post : tSt → Prop) : ∀ (x2 : Int32) (st : tSt), wp_T_settle_37 post x2 st → tAt p l e rmX7_settle s m args below meth c (dC, dI) (cwC a ca) (tA 47 a s.heap.size) (tQv (cwC a ca) 47 dC dI a args below s post) 4 37 [(0, .ref (a 0)), (2, .int x2)] [] st := by
  intro x2 st h H locs ls hP hS hl
  refine lv_aload_n (pc := 37) S.1 S.2.1 dX7_settle_37 rfl (lv_at hl 0 rfl) ?_
  refine lv_dup (pc := 38) S.1 S.2.1 dX7_settle_38 rfl ?_
  refine tp_get (pc := 39) S E.1 hP iwX7 0 (cC_tp a ca st) rfl 11 (by decide) kw_335 (v := .int (st 3 0)) rfl dX7_settle_39 ?_
  refine lv_aload_n (pc := 42) S.1 S.2.1 dX7_settle_42 rfl (lv_at hl 0 rfl) ?_
  refine lv_iload_n (pc := 43) S.1 S.2.1 dX7_settle_43 rfl (lv_at hl 1 rfl) ?_
  refine tGi hS (tRunV (pc := 44) (As := [.int x2]) (rest := [.int (st 3 0), .ref (a 0)]) S E hP hS (mt_X7_fundShare l dC dI a ca tb _ x2 st _ h) (cw_X7_fundShare ⟨Nat.le_of_ble_eq_true rfl, Nat.le_of_ble_eq_true rfl⟩) kw_323 kw_324 kw_325 0 7 rfl rfl (cC_tp a ca st) rfl hl.1 rfl (Nat.le_of_ble_eq_true rfl) dX7_settle_44) (fun r2 st1 H locs h hP hS => ?_)
  refine lv_iadd (pc := 47) S.1 S.2.1 dX7_settle_47 ?_
  refine tp_put (pc := 48) S E.1 hP (cC_D E st1) hS iwX7 tyX7 tyX7_ok nmX7 0 (cC_tp a ca st1) rfl 11 (by decide) kw_335 rfl (v := .int ((st 3 0) + r2)) (tyX7_ok 11 (by decide)) rfl rfl (Nat.le_of_ble_eq_true rfl) (sC_tp_fund a ca st1 _) dX7_settle_48 (fun st3 H locs e1 hP hS => ?_)
  have h := h st3 e1
  exact tRv S hr hlk hP hS h dX7_settle_51
set_option maxHeartbeats 4000000 in
set_option maxRecDepth 100000 in
theorem wk_X7_settle_2 {p : Program} {l : Launch} {e : Env} {s : State} {m : MethodId} {args : Array Value} {below : List Frame} {meth : Method} {c : Code} {dC : Nat → ClassId} {dI : Nat → Nat → Nat} {a : Nat → Nat} {ca : Nat → ClassId} {tb : Nat → Nat} {w0 : Cond} (S : CallFix p m c cX7_settle 4 s args (w0 :: tWALL) RX7) (hr : meth.sig.returnType = none) (hlk : meth.locks = false) (E : tEnv 47 dC dI a ca tb s) (post : tSt → Prop) (k37 : Int32 → tSt → Prop) (hk37 : ∀ (x2 : Int32) (st : tSt), k37 x2 st → tAt p l e rmX7_settle s m args below meth c (dC, dI) (cwC a ca) (tA 47 a s.heap.size) (tQv (cwC a ca) 47 dC dI a args below s post) 4 37 [(0, .ref (a 0)), (2, .int x2)] [] st) : ∀ (n : Nat) (x2 : Int32) (x3 : Int32) (st : tSt), wp_T_settle_2 post k37 n x2 x3 st → tAt p l e rmX7_settle s m args below meth c (dC, dI) (cwC a ca) (tA 47 a s.heap.size) (tQv (cwC a ca) 47 dC dI a args below s post) 4 2 [(0, .ref (a 0)), (1, .ref (a 39)), (2, .int x2), (3, .int x3)] [] st := by
  intro n
  induction n with
  | zero => intro x2 x3 st h; exact absurd h id
  | succ n ih =>
    intro x2 x3 st h H locs ls hP hS hl
    refine lv_iload_n (pc := 2) S.1 S.2.1 dX7_settle_2 rfl (lv_at hl 3 rfl) ?_
    refine lv_aload_n (pc := 3) S.1 S.2.1 dX7_settle_3 rfl (lv_at hl 0 rfl) ?_
    refine tp_get (pc := 4) S E.1 hP iwX7 0 (cC_tp a ca st) rfl 8 (by decide) kw_242 (v := .int (st 0 0)) rfl dX7_settle_4 ?_
    refine lv_icmp_ge (pc := 7) (tgt := 37) S.1 S.2.1 dX7_settle_7 (by decide) (fun c1 => ?_) (fun c1 => ?_)
    · have h := h.1 c1
      exact hk37 x2 st h _ _ _ hP hS (lv_sub hl [0, 2] rfl)
    · have h := h.2 c1
      refine lv_aload_n (pc := 10) S.1 S.2.1 dX7_settle_10 rfl (lv_at hl 0 rfl) ?_
      refine tp_get (pc := 11) S E.1 hP iwX7 0 (cC_tp a ca st) rfl 2 (by decide) kw_244 (v := .ref (a 6)) rfl dX7_settle_11 ?_
      refine lv_iload_n (pc := 14) S.1 S.2.1 dX7_settle_14 rfl (lv_at hl 3 rfl) ?_
      obtain ⟨hn2, h⟩ := h
      refine tp_aald (pc := 15) S E.1 hP 6 1 (cC_pipersA a ca st) rfl (j := x3.toNatClampNeg) (d := a (7 + x3.toNatClampNeg)) rfl rfl hn2 dX7_settle_15 ?_
      have hj3 := t_lt hn2
      refine lv_dup (pc := 16) S.1 S.2.1 dX7_settle_16 rfl ?_
      refine tp_getN (pc := 17) S E.2.1 E.1 hP iwX2 (7 + x3.toNatClampNeg) (cC_piper a ca st hj3) rfl 3 (by decide) kw_336 (v := .int (st 12 x3.toNatClampNeg)) rfl dX7_settle_17 ?_
      refine lv_aload_n (pc := 20) S.1 S.2.1 dX7_settle_20 rfl (lv_at hl 0 rfl) ?_
      refine lv_aload_n (pc := 21) S.1 S.2.1 dX7_settle_21 rfl (lv_at hl 1 rfl) ?_
      refine lv_iload_n (pc := 22) S.1 S.2.1 dX7_settle_22 rfl (lv_at hl 2 rfl) ?_
      refine lv_iload_n (pc := 23) S.1 S.2.1 dX7_settle_23 rfl (lv_at hl 3 rfl) ?_
      refine tGi hS (tRunV (pc := 24) (As := [.ref (a 39), .int x2, .int x3]) (rest := [.int (st 12 x3.toNatClampNeg), .ref (a (7 + x3.toNatClampNeg))]) S E hP hS (mt_X7_piperShare l dC dI a ca tb _ x2 x3 st _ h) (cw_X7_piperShare ⟨Nat.le_of_ble_eq_true rfl, Nat.le_of_ble_eq_true rfl⟩) kw_331 kw_332 kw_333 0 7 rfl rfl (cC_tp a ca st) rfl hl.1 rfl (Nat.le_of_ble_eq_true rfl) dX7_settle_24) (fun r2 st1 H locs h hP hS => ?_)
      refine lv_iadd (pc := 27) S.1 S.2.1 dX7_settle_27 ?_
      refine tp_putN (pc := 28) S E.2.1 E.1 hP (cC_D E st1) hS iwX2 tyX2 tyX2_ok nmX2 (7 + x3.toNatClampNeg) (cC_piper a ca st1 hj3) rfl 3 (by decide) kw_336 rfl (v := .int ((st 12 x3.toNatClampNeg) + r2)) (tyX2_ok 3 (by decide)) rfl rfl (Nat.le_of_ble_eq_true rfl) (sC_piper_wages a ca st1 hj3 _) dX7_settle_28 (fun st3 H locs e4 hP hS => ?_)
      have h := h st3 e4
      obtain ⟨y3_4, e5⟩ : ∃ y : Int32, y = x3 + 1 := ⟨_, rfl⟩
      have h := h y3_4 e5
      refine lv_iinc (pc := 31) S.1 S.2.1 (v := y3_4) (lv' := [(3, .int y3_4), (0, .ref (a 0)), (1, .ref (a 39)), (2, .int x2)]) dX7_settle_31 hl (k := 3) rfl (by rw [e5]; rfl) (by decide) rfl (fun ls hl => ?_)
      refine lv_goto (pc := 34) S.1 S.2.1 (tgt := 2) dX7_settle_34 (by decide) ?_
      exact ih x2 y3_4 st3 h _ _ _ hP hS (lv_sub hl [1, 2, 3, 0] rfl)
set_option maxHeartbeats 4000000 in
set_option maxRecDepth 100000 in
theorem mt_X7_settle (l : Launch) (dC : Nat → ClassId) (dI : Nat → Nat → Nat) (a : Nat → Nat) (ca : Nat → ClassId) (tb : Nat → Nat) (sz : Nat) (x2 : Int32) (st : tSt) (post : tSt → Prop) (h : wp_T_settle x2 st post) : Met l yX7_settle (.code yX7_settle cX7_settle 4 none :: tWALL) rmX7_settle (va_Pc [.ref (a 0), .ref (a 39), .int x2] (tPre 47 (cwC a ca) dC dI a ca tb sz st)) (va_Qv post (tB (cwC a ca) dC dI) (tA 47 a sz)) 0 0 (tA 47 a sz) := by
  refine tp_met (by decide) (Nat.le_of_ble_eq_true rfl) ?_
  intro p e s m below meth c ls S hr hlk hsz E hP hl
  subst hsz
  have S : CallFix p m c cX7_settle 4 s _ (.code yX7_settle cX7_settle 4 none :: tWALL) RX7 := S
  have hl : lv_has ls 4 [(0, .ref (a 0)), (1, .ref (a 39)), (2, .int x2)] := hl
  have hS : va_S (tA 47 a s.heap.size) s.heap s.heap [] := va_S.rf
  show W p l e _ s m _ below meth c s.heap [] 0 0 (tQv (cwC a ca) 47 dC dI a ([.ref (a 0), .ref (a 39), .int x2] : List Value).toArray below s post) (F0 m 0 ls [])
  refine lv_iconst (pc := 0) S.1 S.2.1 (v := 0) dX7_settle_0 (by decide) ?_
  refine lv_istore_n (pc := 1) S.1 S.2.1 (lv' := [(3, .int (0 : Int32)), (0, .ref (a 0)), (1, .ref (a 39)), (2, .int x2)]) dX7_settle_1 rfl hl (by decide) rfl (fun ls hl => ?_)
  exact (fun x2 x3 st h => Exists.elim h (fun q h => wk_X7_settle_2 S hr hlk E post (wp_T_settle_37 post) (fun x2 st h => wk_X7_settle_37 S hr hlk E post  x2 st h) q x2 x3 st h)) x2 (0 : Int32) st h _ _ _ hP hS (lv_sub hl [1, 2, 3, 0] rfl)
