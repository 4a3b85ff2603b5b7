abbrev rmX8_hasPieces : Room := { frames := 1, cells := 0, slots := 0, locals := 22 }
theorem cw_X8_hasPieces {R : Room} {own : String} {index : Nat} (h : rmX8_hasPieces.frames + 1 ≤ R.frames ∧ 8 + (6 + 11) + rmX8_hasPieces.locals ≤ R.locals) : tCw R own index yX8_hasPieces cX8_hasPieces 6 (some .boolean) rmX8_hasPieces 0 := ⟨kw_442, kw_373, ⟨rfl, rfl, h.1, h.2⟩, by decide +kernel, by decide +kernel, by decide +kernel⟩
set_option maxHeartbeats 4000000 in
set_option maxRecDepth 100000 in
theorem wk_X8_hasPieces_86 {p : Program} {l : Launch} {e : Env} {s : State} {m : MethodId} {args : Array Value} {below : List Frame} {meth : Method} {c : Code} {dC : Nat → ClassId} {dI : Nat → Nat → Nat} {a : Nat → Nat} {ca : Nat → ClassId} {tb : Nat → Nat} {w0 : Cond} (S : CallFix p m c cX8_hasPieces 6 s args (w0 :: tWALL) RX8) (hr : meth.sig.returnType = (some .boolean)) (hlk : meth.locks = false) (E : tEnv 21 dC dI a ca tb s) (post : Int32 → tSt → Prop) (k20 : Int32 → Int32 → Int32 → Int32 → tSt → Prop) (hk20 : ∀ (x1 : Int32) (x2 : Int32) (x3 : Int32) (x4 : Int32) (st : tSt), k20 x1 x2 x3 x4 st → tAt p l e rmX8_hasPieces s m args below meth c (dC, dI) (cwM a ca) (tA 21 a s.heap.size) (tQi (cwM a ca) 21 dC dI a args below s post) 6 20 [(0, .ref (a 0)), (1, .int x1), (2, .int x2), (3, .int x3), (4, .int x4)] [] st) (k94 : Int32 → Int32 → Int32 → tSt → Prop) (hk94 : ∀ (x1 : Int32) (x2 : Int32) (x3 : Int32) (st : tSt), k94 x1 x2 x3 st → tAt p l e rmX8_hasPieces s m args below meth c (dC, dI) (cwM a ca) (tA 21 a s.heap.size) (tQi (cwM a ca) 21 dC dI a args below s post) 6 94 [(0, .ref (a 0)), (1, .int x1), (2, .int x2), (3, .int x3)] [] st) : ∀ (x1 : Int32) (x2 : Int32) (x4 : Int32) (s0 : Int32) (s1 : Int32) (st : tSt), wp_M_hasPieces_86 post k20 k94 x1 x2 x4 s0 s1 st → tAt p l e rmX8_hasPieces s m args below meth c (dC, dI) (cwM a ca) (tA 21 a s.heap.size) (tQi (cwM a ca) 21 dC dI a args below s post) 6 86 [(0, .ref (a 0)), (1, .int x1), (2, .int x2), (4, .int x4)] [.int s1, .int s0] st := by
  intro x1 x2 x4 s0 s1 st h H locs ls hP hS hl
  refine lv_iadd (pc := 86) S.1 S.2.1 dX8_hasPieces_86 ?_
  refine lv_topi (fun y3_1 e1 => ?_)
  have h := h y3_1 e1
  refine lv_istore_n (pc := 87) S.1 S.2.1 (lv' := [(3, .int y3_1), (0, .ref (a 0)), (1, .int x1), (2, .int x2), (4, .int x4)]) dX8_hasPieces_87 rfl hl (by decide) rfl (fun ls hl => ?_)
  obtain ⟨y4_2, e2⟩ : ∃ y : Int32, y = x4 + 1 := ⟨_, rfl⟩
  have h := h y4_2 e2
  refine lv_iinc (pc := 88) S.1 S.2.1 (v := y4_2) (lv' := [(4, .int y4_2), (3, .int y3_1), (0, .ref (a 0)), (1, .int x1), (2, .int x2)]) dX8_hasPieces_88 hl (k := 4) rfl (by rw [e2]; rfl) (by decide) rfl (fun ls hl => ?_)
  refine lv_goto (pc := 91) S.1 S.2.1 (tgt := 20) dX8_hasPieces_91 (by decide) ?_
  exact hk20 x1 x2 y3_1 y4_2 st h _ _ _ hP hS (lv_sub hl [2, 3, 4, 1, 0] rfl)
set_option maxHeartbeats 4000000 in
set_option maxRecDepth 100000 in
theorem wk_X8_hasPieces_85 {p : Program} {l : Launch} {e : Env} {s : State} {m : MethodId} {args : Array Value} {below : List Frame} {meth : Method} {c : Code} {dC : Nat → ClassId} {dI : Nat → Nat → Nat} {a : Nat → Nat} {ca : Nat → ClassId} {tb : Nat → Nat} {w0 : Cond} (S : CallFix p m c cX8_hasPieces 6 s args (w0 :: tWALL) RX8) (hr : meth.sig.returnType = (some .boolean)) (hlk : meth.locks = false) (E : tEnv 21 dC dI a ca tb s) (post : Int32 → tSt → Prop) (k20 : Int32 → Int32 → Int32 → Int32 → tSt → Prop) (hk20 : ∀ (x1 : Int32) (x2 : Int32) (x3 : Int32) (x4 : Int32) (st : tSt), k20 x1 x2 x3 x4 st → tAt p l e rmX8_hasPieces s m args below meth c (dC, dI) (cwM a ca) (tA 21 a s.heap.size) (tQi (cwM a ca) 21 dC dI a args below s post) 6 20 [(0, .ref (a 0)), (1, .int x1), (2, .int x2), (3, .int x3), (4, .int x4)] [] st) (k94 : Int32 → Int32 → Int32 → tSt → Prop) (hk94 : ∀ (x1 : Int32) (x2 : Int32) (x3 : Int32) (st : tSt), k94 x1 x2 x3 st → tAt p l e rmX8_hasPieces s m args below meth c (dC, dI) (cwM a ca) (tA 21 a s.heap.size) (tQi (cwM a ca) 21 dC dI a args below s post) 6 94 [(0, .ref (a 0)), (1, .int x1), (2, .int x2), (3, .int x3)] [] st) : ∀ (x1 : Int32) (x2 : Int32) (x4 : Int32) (s0 : Int32) (st : tSt), wp_M_hasPieces_85 post k20 k94 x1 x2 x4 s0 st → tAt p l e rmX8_hasPieces s m args below meth c (dC, dI) (cwM a ca) (tA 21 a s.heap.size) (tQi (cwM a ca) 21 dC dI a args below s post) 6 85 [(0, .ref (a 0)), (1, .int x1), (2, .int x2), (4, .int x4)] [.int s0] st := by
  intro x1 x2 x4 s0 st h H locs ls hP hS hl
  refine lv_iconst (pc := 85) S.1 S.2.1 (v := 0) dX8_hasPieces_85 (by decide) ?_
  exact (fun x1 x2 x4 s0 s1 st h => wk_X8_hasPieces_86 S hr hlk E post k20 hk20 k94 hk94 x1 x2 x4 s0 s1 st h) x1 x2 x4 s0 (0 : Int32) st h _ _ _ hP hS (lv_sub hl [0, 1, 2, 3] rfl)
set_option maxHeartbeats 4000000 in
set_option maxRecDepth 100000 in
theorem wk_X8_hasPieces_94 {p : Program} {l : Launch} {e : Env} {s : State} {m : MethodId} {args : Array Value} {below : List Frame} {meth : Method} {c : Code} {dC : Nat → ClassId} {dI : Nat → Nat → Nat} {a : Nat → Nat} {ca : Nat → ClassId} {tb : Nat → Nat} {w0 : Cond} (S : CallFix p m c cX8_hasPieces 6 s args (w0 :: tWALL) RX8) (hr : meth.sig.returnType = (some .boolean)) (hlk : meth.locks = false) (E : tEnv 21 dC dI a ca tb s) (post : Int32 → tSt → Prop) (k9 : Int32 → Int32 → tSt → Prop) (hk9 : ∀ (x1 : Int32) (x2 : Int32) (st : tSt), k9 x1 x2 st → tAt p l e rmX8_hasPieces s m args below meth c (dC, dI) (cwM a ca) (tA 21 a s.heap.size) (tQi (cwM a ca) 21 dC dI a args below s post) 6 9 [(0, .ref (a 0)), (1, .int x1), (2, .int x2)] [] st) (k112 : Int32 → tSt → Prop) (hk112 : ∀ (x1 : Int32) (st : tSt), k112 x1 st → tAt p l e rmX8_hasPieces s m args below meth c (dC, dI) (cwM a ca) (tA 21 a s.heap.size) (tQi (cwM a ca) 21 dC dI a args below s post) 6 112 [(0, .ref (a 0)), (1, .int x1)] [] st) : ∀ (x1 : Int32) (x2 : Int32) (x3 : Int32) (st : tSt), wp_M_hasPieces_94 post k9 k112 x1 x2 x3 st → tAt p l e rmX8_hasPieces s m args below meth c (dC, dI) (cwM a ca) (tA 21 a s.heap.size) (tQi (cwM a ca) 21 dC dI a args below s post) 6 94 [(0, .ref (a 0)), (1, .int x1), (2, .int x2), (3, .int x3)] [] st := by
  intro x1 x2 x3 st h H locs ls hP hS hl
  refine lv_iload_n (pc := 94) S.1 S.2.1 dX8_hasPieces_94 rfl (lv_at hl 3 rfl) ?_
  refine lv_aload_n (pc := 95) S.1 S.2.1 dX8_hasPieces_95 rfl (lv_at hl 0 rfl) ?_
  refine tp_get (pc := 96) S E.1 hP iwX8 0 (cM_mo a ca st) rfl 13 (by decide) kw_416 (v := .ref (a 8)) rfl dX8_hasPieces_96 ?_
  refine lv_iload_n (pc := 99) S.1 S.2.1 dX8_hasPieces_99 rfl (lv_at hl 1 rfl) ?_
  obtain ⟨hn1, h⟩ := h
  refine tp_iald (pc := 100) S E.1 hP 8 0 (cM_pieces a ca st) rfl (j := x1.toNatClampNeg) rfl hn1 dX8_hasPieces_100 ?_
  refine lv_icmp_le (pc := 101) (tgt := 106) S.1 S.2.1 dX8_hasPieces_101 (by decide) (fun c2 => ?_) (fun c2 => ?_)
  · have h := h.1 c2
    obtain ⟨y2_1, e3⟩ : ∃ y : Int32, y = x2 + 1 := ⟨_, rfl⟩
    have h := h y2_1 e3
    refine lv_iinc (pc := 106) S.1 S.2.1 (v := y2_1) (lv' := [(2, .int y2_1), (0, .ref (a 0)), (1, .int x1), (3, .int x3)]) dX8_hasPieces_106 hl (k := 2) rfl (by rw [e3]; rfl) (by decide) rfl (fun ls hl => ?_)
    refine lv_goto (pc := 109) S.1 S.2.1 (tgt := 9) dX8_hasPieces_109 (by decide) ?_
    exact hk9 x1 y2_1 st h _ _ _ hP hS (lv_sub hl [1, 2, 0] rfl)
  · have h := h.2 c2
    refine lv_iconst (pc := 104) S.1 S.2.1 (v := 0) dX8_hasPieces_104 (by decide) ?_
    exact tRz S hr hlk hP hS (Or.inl rfl) h dX8_hasPieces_105
set_option maxHeartbeats 4000000 in
set_option maxRecDepth 100000 in
theorem wk_X8_hasPieces_20 {p : Program} {l : Launch} {e : Env} {s : State} {m : MethodId} {args : Array Value} {below : List Frame} {meth : Method} {c : Code} {dC : Nat → ClassId} {dI : Nat → Nat → Nat} {a : Nat → Nat} {ca : Nat → ClassId} {tb : Nat → Nat} {w0 : Cond} (S : CallFix p m c cX8_hasPieces 6 s args (w0 :: tWALL) RX8) (hr : meth.sig.returnType = (some .boolean)) (hlk : meth.locks = false) (E : tEnv 21 dC dI a ca tb s) (post : Int32 → tSt → Prop) (k94 : Int32 → Int32 → Int32 → tSt → Prop) (hk94 : ∀ (x1 : Int32) (x2 : Int32) (x3 : Int32) (st : tSt), k94 x1 x2 x3 st → tAt p l e rmX8_hasPieces s m args below meth c (dC, dI) (cwM a ca) (tA 21 a s.heap.size) (tQi (cwM a ca) 21 dC dI a args below s post) 6 94 [(0, .ref (a 0)), (1, .int x1), (2, .int x2), (3, .int x3)] [] st) : ∀ (n : Nat) (x1 : Int32) (x2 : Int32) (x3 : Int32) (x4 : Int32) (st : tSt), wp_M_hasPieces_20 post k94 n x1 x2 x3 x4 st → tAt p l e rmX8_hasPieces s m args below meth c (dC, dI) (cwM a ca) (tA 21 a s.heap.size) (tQi (cwM a ca) 21 dC dI a args below s post) 6 20 [(0, .ref (a 0)), (1, .int x1), (2, .int x2), (3, .int x3), (4, .int x4)] [] st := by
  intro n
  induction n with
  | zero => intro x1 x2 x3 x4 st h; exact absurd h id
  | succ n ih =>
    intro x1 x2 x3 x4 st h H locs ls hP hS hl
    refine lv_iload (pc := 20) S.1 S.2.1 dX8_hasPieces_20 (lv_at hl 4 rfl) ?_
    refine lv_aload_n (pc := 22) S.1 S.2.1 dX8_hasPieces_22 rfl (lv_at hl 0 rfl) ?_
    refine tp_get (pc := 23) S E.1 hP iwX8 0 (cM_mo a ca st) rfl 21 (by decide) kw_439 (v := .int (st 8 0)) rfl dX8_hasPieces_23 ?_
    refine lv_icmp_ge (pc := 26) (tgt := 94) S.1 S.2.1 dX8_hasPieces_26 (by decide) (fun c1 => ?_) (fun c1 => ?_)
    · have h := h.1 c1
      exact hk94 x1 x2 x3 st h _ _ _ hP hS (lv_sub hl [0, 1, 2, 3] rfl)
    · have h := h.2 c1
      refine lv_aload_n (pc := 29) S.1 S.2.1 dX8_hasPieces_29 rfl (lv_at hl 0 rfl) ?_
      refine tp_get (pc := 30) S E.1 hP iwX8 0 (cM_mo a ca st) rfl 23 (by decide) kw_440 (v := .ref (a 15)) rfl dX8_hasPieces_30 ?_
      refine lv_iload (pc := 33) S.1 S.2.1 dX8_hasPieces_33 (lv_at hl 4 rfl) ?_
      obtain ⟨hn2, h⟩ := h
      refine tp_iald (pc := 35) S E.1 hP 15 0 (cM_partCall a ca st) rfl (j := x4.toNatClampNeg) rfl hn2 dX8_hasPieces_35 ?_
      refine lv_topi (fun y5_1 e3 => ?_)
      have h := h y5_1 e3
      refine lv_istore (pc := 36) S.1 S.2.1 (lv' := [(5, .int y5_1), (0, .ref (a 0)), (1, .int x1), (2, .int x2), (3, .int x3), (4, .int x4)]) dX8_hasPieces_36 hl (by decide) rfl (fun ls hl => ?_)
      refine lv_iload_n (pc := 38) S.1 S.2.1 dX8_hasPieces_38 rfl (lv_at hl 4 rfl) ?_
      refine lv_aload_n (pc := 39) S.1 S.2.1 dX8_hasPieces_39 rfl (lv_at hl 1 rfl) ?_
      refine tp_get (pc := 40) S E.1 hP iwX8 0 (cM_mo a ca st) rfl 24 (by decide) kw_441 (v := .ref (a 16)) rfl dX8_hasPieces_40 ?_
      refine lv_iload (pc := 43) S.1 S.2.1 dX8_hasPieces_43 (lv_at hl 5 rfl) ?_
      obtain ⟨hn4, h⟩ := h
      refine tp_iald (pc := 45) S E.1 hP 16 0 (cM_partOf a ca st) rfl (j := x4.toNatClampNeg) rfl hn4 dX8_hasPieces_45 ?_
      refine lv_iload_n (pc := 46) S.1 S.2.1 dX8_hasPieces_46 rfl (lv_at hl 2 rfl) ?_
      refine lv_icmp_ne (pc := 47) (tgt := 85) S.1 S.2.1 dX8_hasPieces_47 (by decide) (fun c5 => ?_) (fun c5 => ?_)
      · have h := h.2 c5
        exact (fun x1 x2 x4 s0 st h => wk_X8_hasPieces_85 S hr hlk E post (wp_M_hasPieces_20 post k94 n) ih k94 hk94 x1 x2 x4 s0 st h) x1 x2 x4 x3 st h _ _ _ hP hS (lv_sub hl [1, 2, 3, 5] rfl)
      · have h := h.1 c5
        refine lv_iload_n (pc := 50) S.1 S.2.1 dX8_hasPieces_50 rfl (lv_at hl 3 rfl) ?_
        refine lv_aload_n (pc := 51) S.1 S.2.1 dX8_hasPieces_51 rfl (lv_at hl 1 rfl) ?_
        refine lv_iload (pc := 52) S.1 S.2.1 dX8_hasPieces_52 (lv_at hl 0 rfl) ?_
        refine lv_iconst (pc := 54) S.1 S.2.1 (v := 1) dX8_hasPieces_54 (by decide) ?_
        refine tGi hS (tRunV (pc := 55) (As := [.int y5_1, .int (1 : Int32)]) (rest := [.int x2, .int x3]) S E hP hS (mt_X8_of l dC dI a ca tb _ y5_1 (1 : Int32) st _ h) (cw_X8_of ⟨Nat.le_of_ble_eq_true rfl, Nat.le_of_ble_eq_true rfl⟩) kw_429 kw_430 kw_431 0 8 rfl rfl (cM_mo a ca st) rfl hl.1 rfl (Nat.le_of_ble_eq_true rfl) dX8_hasPieces_55) (fun r3 st2 H locs h hP hS => ?_)
        refine lv_aload_n (pc := 58) S.1 S.2.1 dX8_hasPieces_58 rfl (lv_at hl 1 rfl) ?_
        refine lv_iload (pc := 59) S.1 S.2.1 dX8_hasPieces_59 (lv_at hl 0 rfl) ?_
        refine lv_iconst (pc := 61) S.1 S.2.1 (v := 1) dX8_hasPieces_61 (by decide) ?_
        refine tGi hS (tRunV (pc := 62) (As := [.int y5_1, .int (1 : Int32)]) (rest := [.int r3, .int x2, .int x3]) S E hP hS (mt_X8_of l dC dI a ca tb _ y5_1 (1 : Int32) st2 _ h) (cw_X8_of ⟨Nat.le_of_ble_eq_true rfl, Nat.le_of_ble_eq_true rfl⟩) kw_429 kw_430 kw_431 0 8 rfl rfl (cM_mo a ca st2) rfl hl.1 rfl (Nat.le_of_ble_eq_true rfl) dX8_hasPieces_62) (fun r5 st4 H locs h hP hS => ?_)
        refine lv_aload_n (pc := 65) S.1 S.2.1 dX8_hasPieces_65 rfl (lv_at hl 1 rfl) ?_
        refine lv_iload (pc := 66) S.1 S.2.1 dX8_hasPieces_66 (lv_at hl 0 rfl) ?_
        refine lv_iconst (pc := 68) S.1 S.2.1 (v := 2) dX8_hasPieces_68 (by decide) ?_
        refine tGi hS (tRunV (pc := 69) (As := [.int y5_1, .int (2 : Int32)]) (rest := [.int r5, .int r3, .int x2, .int x3]) S E hP hS (mt_X8_of l dC dI a ca tb _ y5_1 (2 : Int32) st4 _ h) (cw_X8_of ⟨Nat.le_of_ble_eq_true rfl, Nat.le_of_ble_eq_true rfl⟩) kw_429 kw_430 kw_431 0 8 rfl rfl (cM_mo a ca st4) rfl hl.1 rfl (Nat.le_of_ble_eq_true rfl) dX8_hasPieces_69) (fun r7 st6 H locs h hP hS => ?_)
        refine lv_iadd (pc := 72) S.1 S.2.1 dX8_hasPieces_72 ?_
        refine lv_iconst (pc := 73) S.1 S.2.1 (v := 1) dX8_hasPieces_73 (by decide) ?_
        refine lv_isub (pc := 74) S.1 S.2.1 dX8_hasPieces_74 ?_
        refine tGi hS (tRunS (pc := 75) (As := [.int x2, .int r3, .int ((r5 + r7) - (1 : Int32))]) (rest := [.int x3]) S E hP hS (mt_X8_lies l dC dI a ca tb _ x2 r3 ((r5 + r7) - (1 : Int32)) st6 _ h) (cw_X8_lies ⟨Nat.le_of_ble_eq_true rfl, Nat.le_of_ble_eq_true rfl⟩) kw_394 kw_393 rfl hl.1 rfl (Nat.le_of_ble_eq_true rfl) dX8_hasPieces_75) (fun r9 st8 H locs h hP hS => ?_)
        refine lv_if_eq (pc := 78) (tgt := 85) S.1 S.2.1 dX8_hasPieces_78 (by decide) (fun c6 => ?_) (fun c6 => ?_)
        · have h := h.1 c6
          exact (fun x1 x2 x4 s0 st h => wk_X8_hasPieces_85 S hr hlk E post (wp_M_hasPieces_20 post k94 n) ih k94 hk94 x1 x2 x4 s0 st h) x1 x2 x4 x3 st8 h _ _ _ hP hS (lv_sub hl [1, 2, 3, 5] rfl)
        · have h := h.2 c6
          refine lv_iconst (pc := 81) S.1 S.2.1 (v := 1) dX8_hasPieces_81 (by decide) ?_
          refine lv_goto (pc := 82) S.1 S.2.1 (tgt := 86) dX8_hasPieces_82 (by decide) ?_
          exact (fun x1 x2 x4 s0 s1 st h => wk_X8_hasPieces_86 S hr hlk E post (wp_M_hasPieces_20 post k94 n) ih k94 hk94 x1 x2 x4 s0 s1 st h) x1 x2 x4 x3 (1 : Int32) st8 h _ _ _ hP hS (lv_sub hl [1, 2, 3, 5] rfl)
set_option maxHeartbeats 4000000 in
set_option maxRecDepth 100000 in
theorem wk_X8_hasPieces_112 {p : Program} {l : Launch} {e : Env} {s : State} {m : MethodId} {args : Array Value} {below : List Frame} {meth : Method} {c : Code} {dC : Nat → ClassId} {dI : Nat → Nat → Nat} {a : Nat → Nat} {ca : Nat → ClassId} {tb : Nat → Nat} {w0 : Cond} (S : CallFix p m c cX8_hasPieces 6 s args (w0 :: tWALL) RX8) (hr : meth.sig.returnType = (some .boolean)) (hlk : meth.locks = false) (E : tEnv 21 dC dI a ca tb s) (post : Int32 → tSt → Prop) (k2 : Int32 → tSt → Prop) (hk2 : ∀ (x1 : Int32) (st : tSt), k2 x1 st → tAt p l e rmX8_hasPieces s m args below meth c (dC, dI) (cwM a ca) (tA 21 a s.heap.size) (tQi (cwM a ca) 21 dC dI a args below s post) 6 2 [(0, .ref (a 0)), (1, .int x1)] [] st) : ∀ (x1 : Int32) (st : tSt), wp_M_hasPieces_112 post k2 x1 st → tAt p l e rmX8_hasPieces s m args below meth c (dC, dI) (cwM a ca) (tA 21 a s.heap.size) (tQi (cwM a ca) 21 dC dI a args below s post) 6 112 [(0, .ref (a 0)), (1, .int x1)] [] st := by
  intro x1 st h H locs ls hP hS hl
  obtain ⟨y1_1, e1⟩ : ∃ y : Int32, y = x1 + 1 := ⟨_, rfl⟩
  have h := h y1_1 e1
  refine lv_iinc (pc := 112) S.1 S.2.1 (v := y1_1) (lv' := [(1, .int y1_1), (0, .ref (a 0))]) dX8_hasPieces_112 hl (k := 1) rfl (by rw [e1]; rfl) (by decide) rfl (fun ls hl => ?_)
  refine lv_goto (pc := 115) S.1 S.2.1 (tgt := 2) dX8_hasPieces_115 (by decide) ?_
  exact hk2 y1_1 st h _ _ _ hP hS (lv_sub hl [1, 0] rfl)
set_option maxHeartbeats 4000000 in
set_option maxRecDepth 100000 in
theorem wk_X8_hasPieces_9 {p : Program} {l : Launch} {e : Env} {s : State} {m : MethodId} {args : Array Value} {below : List Frame} {meth : Method} {c : Code} {dC : Nat → ClassId} {dI : Nat → Nat → Nat} {a : Nat → Nat} {ca : Nat → ClassId} {tb : Nat → Nat} {w0 : Cond} (S : CallFix p m c cX8_hasPieces 6 s args (w0 :: tWALL) RX8) (hr : meth.sig.returnType = (some .boolean)) (hlk : meth.locks = false) (E : tEnv 21 dC dI a ca tb s) (post : Int32 → tSt → Prop) (k112 : Int32 → tSt → Prop) (hk112 : ∀ (x1 : Int32) (st : tSt), k112 x1 st → tAt p l e rmX8_hasPieces s m args below meth c (dC, dI) (cwM a ca) (tA 21 a s.heap.size) (tQi (cwM a ca) 21 dC dI a args below s post) 6 112 [(0, .ref (a 0)), (1, .int x1)] [] st) : ∀ (n : Nat) (x1 : Int32) (x2 : Int32) (st : tSt), wp_M_hasPieces_9 post k112 n x1 x2 st → tAt p l e rmX8_hasPieces s m args below meth c (dC, dI) (cwM a ca) (tA 21 a s.heap.size) (tQi (cwM a ca) 21 dC dI a args below s post) 6 9 [(0, .ref (a 0)), (1, .int x1), (2, .int x2)] [] st := by
  intro n
  induction n with
  | zero => intro x1 x2 st h; exact absurd h id
  | succ n ih =>
    intro x1 x2 st h H locs ls hP hS hl
    refine lv_iload_n (pc := 9) S.1 S.2.1 dX8_hasPieces_9 rfl (lv_at hl 2 rfl) ?_
    refine lv_bipush (pc := 10) S.1 S.2.1 (v := 96) dX8_hasPieces_10 (by decide) ?_
    refine lv_icmp_ge (pc := 12) (tgt := 112) S.1 S.2.1 dX8_hasPieces_12 (by decide) (fun c1 => ?_) (fun c1 => ?_)
    · have h := h.1 c1
      exact hk112 x1 st h _ _ _ hP hS (lv_sub hl [0, 1] rfl)
    · have h := h.2 c1
      refine lv_iconst (pc := 15) S.1 S.2.1 (v := 0) dX8_hasPieces_15 (by decide) ?_
      refine lv_istore_n (pc := 16) S.1 S.2.1 (lv' := [(3, .int (0 : Int32)), (0, .ref (a 0)), (1, .int x1), (2, .int x2)]) dX8_hasPieces_16 rfl hl (by decide) rfl (fun ls hl => ?_)
      refine lv_iconst (pc := 17) S.1 S.2.1 (v := 0) dX8_hasPieces_17 (by decide) ?_
      refine lv_istore (pc := 18) S.1 S.2.1 (lv' := [(4, .int (0 : Int32)), (3, .int (0 : Int32)), (0, .ref (a 0)), (1, .int x1), (2, .int x2)]) dX8_hasPieces_18 hl (by decide) rfl (fun ls hl => ?_)
      exact (fun x1 x2 x3 x4 st h => Exists.elim h (fun q h => wk_X8_hasPieces_20 S hr hlk E post (wp_M_hasPieces_94 post (wp_M_hasPieces_9 post k112 n) k112) (fun x1 x2 x3 st h => wk_X8_hasPieces_94 S hr hlk E post (wp_M_hasPieces_9 post k112 n) ih k112 hk112 x1 x2 x3 st h) q x1 x2 x3 x4 st h)) x1 x2 (0 : Int32) (0 : Int32) st h _ _ _ hP hS (lv_sub hl [2, 3, 4, 1, 0] rfl)
set_option maxHeartbeats 4000000 in
set_option maxRecDepth 100000 in
theorem wk_X8_hasPieces_2 {p : Program} {l : Launch} {e : Env} {s : State} {m : MethodId} {args : Array Value} {below : List Frame} {meth : Method} {c : Code} {dC : Nat → ClassId} {dI : Nat → Nat → Nat} {a : Nat → Nat} {ca : Nat → ClassId} {tb : Nat → Nat} {w0 : Cond} (S : CallFix p m c cX8_hasPieces 6 s args (w0 :: tWALL) RX8) (hr : meth.sig.returnType = (some .boolean)) (hlk : meth.locks = false) (E : tEnv 21 dC dI a ca tb s) (post : Int32 → tSt → Prop) : ∀ (n : Nat) (x1 : Int32) (st : tSt), wp_M_hasPieces_2 post n x1 st → tAt p l e rmX8_hasPieces s m args below meth c (dC, dI) (cwM a ca) (tA 21 a s.heap.size) (tQi (cwM a ca) 21 dC dI a args below s post) 6 2 [(0, .ref (a 0)), (1, .int x1)] [] st := by
  intro n
  induction n with
  | zero => intro x1 st h; exact absurd h id
  | succ n ih =>
    intro x1 st h H locs ls hP hS hl
    refine lv_iload_n (pc := 2) S.1 S.2.1 dX8_hasPieces_2 rfl (lv_at hl 1 rfl) ?_
    refine lv_iconst (pc := 3) S.1 S.2.1 (v := 5) dX8_hasPieces_3 (by decide) ?_
    refine lv_icmp_ge (pc := 4) (tgt := 118) S.1 S.2.1 dX8_hasPieces_4 (by decide) (fun c1 => ?_) (fun c1 => ?_)
    · have h := h.1 c1
      refine lv_iconst (pc := 118) S.1 S.2.1 (v := 1) dX8_hasPieces_118 (by decide) ?_
      exact tRz S hr hlk hP hS (Or.inr rfl) h dX8_hasPieces_119
    · have h := h.2 c1
      refine lv_iconst (pc := 7) S.1 S.2.1 (v := 0) dX8_hasPieces_7 (by decide) ?_
      refine lv_istore_n (pc := 8) S.1 S.2.1 (lv' := [(2, .int (0 : Int32)), (0, .ref (a 0)), (1, .int x1)]) dX8_hasPieces_8 rfl hl (by decide) rfl (fun ls hl => ?_)
      exact (fun x1 x2 st h => Exists.elim h (fun q h => wk_X8_hasPieces_9 S hr hlk E post (wp_M_hasPieces_112 post (wp_M_hasPieces_2 post n)) (fun x1 st h => wk_X8_hasPieces_112 S hr hlk E post (wp_M_hasPieces_2 post n) ih x1 st h) q x1 x2 st h)) x1 (0 : Int32) st h _ _ _ hP hS (lv_sub hl [1, 2, 0] rfl)
set_option maxHeartbeats 4000000 in
set_option maxRecDepth 100000 in
theorem mt_X8_hasPieces (l : Launch) (dC : Nat → ClassId) (dI : Nat → Nat → Nat) (a : Nat → Nat) (ca : Nat → ClassId) (tb : Nat → Nat) (sz : Nat) (st : tSt) (post : Int32 → tSt → Prop) (h : wp_M_hasPieces  st post) : Met l yX8_hasPieces (.code yX8_hasPieces cX8_hasPieces 6 (some .boolean) :: tWALL) rmX8_hasPieces (va_Pc [.ref (a 0)] (tPre 21 (cwM a ca) dC dI a ca tb sz st)) (va_Qi post (tB (cwM a ca) dC dI) (tA 21 a sz)) 0 0 (tA 21 a sz) := by
  refine tp_met (by decide) (Nat.le_of_ble_eq_true rfl) ?_
  intro p e s m below meth c ls S hr hlk hsz E hP hl
  subst hsz
  have S : CallFix p m c cX8_hasPieces 6 s _ (.code yX8_hasPieces cX8_hasPieces 6 (some .boolean) :: tWALL) RX8 := S
  have hl : lv_has ls 6 [(0, .ref (a 0))] := hl
  have hS : va_S (tA 21 a s.heap.size) s.heap s.heap [] := va_S.rf
  show W p l e _ s m _ below meth c s.heap [] 0 0 (tQi (cwM a ca) 21 dC dI a ([.ref (a 0)] : List Value).toArray below s post) (F0 m 0 ls [])
  refine lv_iconst (pc := 0) S.1 S.2.1 (v := 0) dX8_hasPieces_0 (by decide) ?_
  refine lv_istore_n (pc := 1) S.1 S.2.1 (lv' := [(1, .int (0 : Int32)), (0, .ref (a 0))]) dX8_hasPieces_1 rfl hl (by decide) rfl (fun ls hl => ?_)
  exact (fun x1 st h => Exists.elim h (fun q h => wk_X8_hasPieces_2 S hr hlk E post  q x1 st h)) (0 : Int32) st h _ _ _ hP hS (lv_sub hl [1, 0] rfl)

abbrev rmX8_lists : Room := { frames := 1, cells := 0, slots := 0, locals := 22 }
theorem cw_X8_lists {R : Room} {own : String} {index : Nat} (h : rmX8_lists.frames + 1 ≤ R.frames ∧ 8 + (4 + 11) + rmX8_lists.locals ≤ R.locals) : tCw R own index yX8_lists cX8_lists 4 none rmX8_lists 0 := ⟨kw_446, kw_373, ⟨rfl, rfl, h.1, h.2⟩, by decide +kernel, by decide +kernel, by decide +kernel⟩
set_option maxHeartbeats 4000000 in
set_option maxRecDepth 100000 in
theorem wk_X8_lists_92 {p : Program} {l : Launch} {e : Env} {s : State} {m : MethodId} {args : Array Value} {below : List Frame} {meth : Method} {c : Code} {dC : Nat → ClassId} {dI : Nat → Nat → Nat} {a : Nat → Nat} {ca : Nat → ClassId} {tb : Nat → Nat} {w0 : Cond} (S : CallFix p m c cX8_lists 4 s args (w0 :: tWALL) RX8) (hr : meth.sig.returnType = none) (hlk : meth.locks = false) (E : tEnv 21 dC dI a ca tb s) (post : tSt → Prop) (k24 : Int32 → Int32 → Int32 → tSt → Prop) (hk24 : ∀ (x1 : Int32) (x2 : Int32) (x3 : Int32) (st : tSt), k24 x1 x2 x3 st → tAt p l e rmX8_lists s m args below meth c (dC, dI) (cwM a ca) (tA 21 a s.heap.size) (tQv (cwM a ca) 21 dC dI a args below s post) 4 24 [(0, .ref (a 0)), (1, .int x1), (2, .int x2), (3, .int x3)] [] st) (k98 : Int32 → tSt → Prop) (hk98 : ∀ (x1 : Int32) (st : tSt), k98 x1 st → tAt p l e rmX8_lists s m args below meth c (dC, dI) (cwM a ca) (tA 21 a s.heap.size) (tQv (cwM a ca) 21 dC dI a args below s post) 4 98 [(0, .ref (a 0)), (1, .int x1)] [] st) : ∀ (x1 : Int32) (x2 : Int32) (x3 : Int32) (st : tSt), wp_M_lists_92 post k24 k98 x1 x2 x3 st → tAt p l e rmX8_lists s m args below meth c (dC, dI) (cwM a ca) (tA 21 a s.heap.size) (tQv (cwM a ca) 21 dC dI a args below s post) 4 92 [(0, .ref (a 0)), (1, .int x1), (2, .int x2), (3, .int x3)] [] st := by
  intro x1 x2 x3 st h H locs ls hP hS hl
  obtain ⟨y3_1, e1⟩ : ∃ y : Int32, y = x3 + 1 := ⟨_, rfl⟩
  have h := h y3_1 e1
  refine lv_iinc (pc := 92) S.1 S.2.1 (v := y3_1) (lv' := [(3, .int y3_1), (0, .ref (a 0)), (1, .int x1), (2, .int x2)]) dX8_lists_92 hl (k := 3) rfl (by rw [e1]; rfl) (by decide) rfl (fun ls hl => ?_)
  refine lv_goto (pc := 95) S.1 S.2.1 (tgt := 24) dX8_lists_95 (by decide) ?_
  exact hk24 x1 x2 y3_1 st h _ _ _ hP hS (lv_sub hl [1, 2, 3, 0] rfl)
set_option maxHeartbeats 4000000 in
set_option maxRecDepth 100000 in
theorem wk_X8_lists_98 {p : Program} {l : Launch} {e : Env} {s : State} {m : MethodId} {args : Array Value} {below : List Frame} {meth : Method} {c : Code} {dC : Nat → ClassId} {dI : Nat → Nat → Nat} {a : Nat → Nat} {ca : Nat → ClassId} {tb : Nat → Nat} {w0 : Cond} (S : CallFix p m c cX8_lists 4 s args (w0 :: tWALL) RX8) (hr : meth.sig.returnType = none) (hlk : meth.locks = false) (E : tEnv 21 dC dI a ca tb s) (post : tSt → Prop) (k7 : Int32 → tSt → Prop) (hk7 : ∀ (x1 : Int32) (st : tSt), k7 x1 st → tAt p l e rmX8_lists s m args below meth c (dC, dI) (cwM a ca) (tA 21 a s.heap.size) (tQv (cwM a ca) 21 dC dI a args below s post) 4 7 [(0, .ref (a 0)), (1, .int x1)] [] st) : ∀ (x1 : Int32) (st : tSt), wp_M_lists_98 post k7 x1 st → tAt p l e rmX8_lists s m args below meth c (dC, dI) (cwM a ca) (tA 21 a s.heap.size) (tQv (cwM a ca) 21 dC dI a args below s post) 4 98 [(0, .ref (a 0)), (1, .int x1)] [] st := by
  intro x1 st h H locs ls hP hS hl
  obtain ⟨y1_1, e1⟩ : ∃ y : Int32, y = x1 + 1 := ⟨_, rfl⟩
  have h := h y1_1 e1
  refine lv_iinc (pc := 98) S.1 S.2.1 (v := y1_1) (lv' := [(1, .int y1_1), (0, .ref (a 0))]) dX8_lists_98 hl (k := 1) rfl (by rw [e1]; rfl) (by decide) rfl (fun ls hl => ?_)
  refine lv_goto (pc := 101) S.1 S.2.1 (tgt := 7) dX8_lists_101 (by decide) ?_
  exact hk7 y1_1 st h _ _ _ hP hS (lv_sub hl [1, 0] rfl)
set_option maxHeartbeats 4000000 in
set_option maxRecDepth 100000 in
theorem wk_X8_lists_24 {p : Program} {l : Launch} {e : Env} {s : State} {m : MethodId} {args : Array Value} {below : List Frame} {meth : Method} {c : Code} {dC : Nat → ClassId} {dI : Nat → Nat → Nat} {a : Nat → Nat} {ca : Nat → ClassId} {tb : Nat → Nat} {w0 : Cond} (S : CallFix p m c cX8_lists 4 s args (w0 :: tWALL) RX8) (hr : meth.sig.returnType = none) (hlk : meth.locks = false) (E : tEnv 21 dC dI a ca tb s) (post : tSt → Prop) (k98 : Int32 → tSt → Prop) (hk98 : ∀ (x1 : Int32) (st : tSt), k98 x1 st → tAt p l e rmX8_lists s m args below meth c (dC, dI) (cwM a ca) (tA 21 a s.heap.size) (tQv (cwM a ca) 21 dC dI a args below s post) 4 98 [(0, .ref (a 0)), (1, .int x1)] [] st) : ∀ (n : Nat) (x1 : Int32) (x2 : Int32) (x3 : Int32) (st : tSt), wp_M_lists_24 post k98 n x1 x2 x3 st → tAt p l e rmX8_lists s m args below meth c (dC, dI) (cwM a ca) (tA 21 a s.heap.size) (tQv (cwM a ca) 21 dC dI a args below s post) 4 24 [(0, .ref (a 0)), (1, .int x1), (2, .int x2), (3, .int x3)] [] st := by
  intro n
  induction n with
  | zero => intro x1 x2 x3 st h; exact absurd h id
  | succ n ih =>
    intro x1 x2 x3 st h H locs ls hP hS hl
    refine lv_iload_n (pc := 24) S.1 S.2.1 dX8_lists_24 rfl (lv_at hl 3 rfl) ?_
    refine lv_iconst (pc := 25) S.1 S.2.1 (v := 2) dX8_lists_25 (by decide) ?_
    refine lv_icmp_ge (pc := 26) (tgt := 98) S.1 S.2.1 dX8_lists_26 (by decide) (fun c1 => ?_) (fun c1 => ?_)
    · have h := h.1 c1
      exact hk98 x1 st h _ _ _ hP hS (lv_sub hl [0, 1] rfl)
    · have h := h.2 c1
      refine lv_aload_n (pc := 29) S.1 S.2.1 dX8_lists_29 rfl (lv_at hl 0 rfl) ?_
      refine tp_get (pc := 30) S E.1 hP iwX8 0 (cM_mo a ca st) rfl 20 (by decide) kw_443 (v := .int (st 7 0)) rfl dX8_lists_30 ?_
      refine lv_iload_n (pc := 33) S.1 S.2.1 dX8_lists_33 rfl (lv_at hl 2 rfl) ?_
      refine tGi hS (tRunS (pc := 34) (As := [.int (st 7 0), .int x2]) (rest := []) S E hP hS (mt_X8_has l dC dI a ca tb _ (st 7 0) x2 st _ h) (cw_X8_has ⟨Nat.le_of_ble_eq_true rfl, Nat.le_of_ble_eq_true rfl⟩) kw_445 kw_444 rfl hl.1 rfl (Nat.le_of_ble_eq_true rfl) dX8_lists_34) (fun r2 st1 H locs h hP hS => ?_)
      refine lv_if_eq (pc := 37) (tgt := 98) S.1 S.2.1 dX8_lists_37 (by decide) (fun c2 => ?_) (fun c2 => ?_)
      · have h := h.1 c2
        exact hk98 x1 st1 h _ _ _ hP hS (lv_sub hl [0, 1] rfl)
      · have h := h.2 c2
        refine lv_aload_n (pc := 40) S.1 S.2.1 dX8_lists_40 rfl (lv_at hl 0 rfl) ?_
        refine lv_iload_n (pc := 41) S.1 S.2.1 dX8_lists_41 rfl (lv_at hl 2 rfl) ?_
        refine lv_iconst (pc := 42) S.1 S.2.1 (v := 5) dX8_lists_42 (by decide) ?_
        refine lv_iload_n (pc := 43) S.1 S.2.1 dX8_lists_43 rfl (lv_at hl 3 rfl) ?_
        refine lv_iadd (pc := 44) S.1 S.2.1 dX8_lists_44 ?_
        refine tGi hS (tRunV (pc := 45) (As := [.int x2, .int ((5 : Int32) + x3)]) (rest := []) S E hP hS (mt_X8_of l dC dI a ca tb _ x2 ((5 : Int32) + x3) st1 _ h) (cw_X8_of ⟨Nat.le_of_ble_eq_true rfl, Nat.le_of_ble_eq_true rfl⟩) kw_429 kw_430 kw_431 0 8 rfl rfl (cM_mo a ca st1) rfl hl.1 rfl (Nat.le_of_ble_eq_true rfl) dX8_lists_45) (fun r4 st3 H locs h hP hS => ?_)
        refine lv_iconst (pc := 48) S.1 S.2.1 (v := (-1)) dX8_lists_48 (by decide) ?_
        refine lv_icmp_ne (pc := 49) (tgt := 55) S.1 S.2.1 dX8_lists_49 (by decide) (fun c3 => ?_) (fun c3 => ?_)
        · have h := h.2 c3
          refine lv_aload_n (pc := 55) S.1 S.2.1 dX8_lists_55 rfl (lv_at hl 0 rfl) ?_
          refine tp_get (pc := 56) S E.1 hP iwX8 0 (cM_mo a ca st3) rfl 23 (by decide) kw_440 (v := .ref (a 15)) rfl dX8_lists_56 ?_
          refine lv_aload_n (pc := 59) S.1 S.2.1 dX8_lists_59 rfl (lv_at hl 0 rfl) ?_
          refine tp_get (pc := 60) S E.1 hP iwX8 0 (cM_mo a ca st3) rfl 21 (by decide) kw_439 (v := .int (st3 8 0)) rfl dX8_lists_60 ?_
          refine lv_iload_n (pc := 63) S.1 S.2.1 dX8_lists_63 rfl (lv_at hl 2 rfl) ?_
          obtain ⟨hn4, h⟩ := h
          refine tp_iast (pc := 64) S E.1 hP (cM_D E st3) hS 15 0 (cM_partCall a ca st3) rfl (j := (st3 8 0).toNatClampNeg) rfl hn4 (sM_partCall a ca st3 _ _) dX8_lists_64 (fun st5 H locs e5 hP hS => ?_)
          have h := h st5 e5
          refine lv_aload_n (pc := 65) S.1 S.2.1 dX8_lists_65 rfl (lv_at hl 0 rfl) ?_
          refine tp_get (pc := 66) S E.1 hP iwX8 0 (cM_mo a ca st5) rfl 24 (by decide) kw_441 (v := .ref (a 16)) rfl dX8_lists_66 ?_
          refine lv_aload_n (pc := 69) S.1 S.2.1 dX8_lists_69 rfl (lv_at hl 0 rfl) ?_
          refine tp_get (pc := 70) S E.1 hP iwX8 0 (cM_mo a ca st5) rfl 21 (by decide) kw_439 (v := .int (st5 8 0)) rfl dX8_lists_70 ?_
          refine lv_aload_n (pc := 73) S.1 S.2.1 dX8_lists_73 rfl (lv_at hl 0 rfl) ?_
          refine lv_iload_n (pc := 74) S.1 S.2.1 dX8_lists_74 rfl (lv_at hl 2 rfl) ?_
          refine lv_iconst (pc := 75) S.1 S.2.1 (v := 5) dX8_lists_75 (by decide) ?_
          refine lv_iload_n (pc := 76) S.1 S.2.1 dX8_lists_76 rfl (lv_at hl 3 rfl) ?_
          refine lv_iadd (pc := 77) S.1 S.2.1 dX8_lists_77 ?_
          refine tGi hS (tRunV (pc := 78) (As := [.int x2, .int ((5 : Int32) + x3)]) (rest := [.int (st5 8 0), .ref (a 16)]) S E hP hS (mt_X8_of l dC dI a ca tb _ x2 ((5 : Int32) + x3) st5 _ h) (cw_X8_of ⟨Nat.le_of_ble_eq_true rfl, Nat.le_of_ble_eq_true rfl⟩) kw_429 kw_430 kw_431 0 8 rfl rfl (cM_mo a ca st5) rfl hl.1 rfl (Nat.le_of_ble_eq_true rfl) dX8_lists_78) (fun r7 st6 H locs h hP hS => ?_)
          obtain ⟨hn6, h⟩ := h
          refine tp_iast (pc := 81) S E.1 hP (cM_D E st6) hS 16 0 (cM_partOf a ca st6) rfl (j := (st5 8 0).toNatClampNeg) rfl hn6 (sM_partOf a ca st6 _ _) dX8_lists_81 (fun st8 H locs e7 hP hS => ?_)
          have h := h st8 e7
          refine lv_aload_n (pc := 82) S.1 S.2.1 dX8_lists_82 rfl (lv_at hl 0 rfl) ?_
          refine lv_dup (pc := 83) S.1 S.2.1 dX8_lists_83 rfl ?_
          refine tp_get (pc := 84) S E.1 hP iwX8 0 (cM_mo a ca st8) rfl 21 (by decide) kw_439 (v := .int (st8 8 0)) rfl dX8_lists_84 ?_
          refine lv_iconst (pc := 87) S.1 S.2.1 (v := 1) dX8_lists_87 (by decide) ?_
          refine lv_iadd (pc := 88) S.1 S.2.1 dX8_lists_88 ?_
          refine tp_put (pc := 89) S E.1 hP (cM_D E st8) hS iwX8 tyX8 tyX8_ok nmX8 0 (cM_mo a ca st8) rfl 21 (by decide) kw_439 rfl (v := .int ((st8 8 0) + (1 : Int32))) (tyX8_ok 21 (by decide)) rfl rfl (Nat.le_of_ble_eq_true rfl) (sM_mo_parts a ca st8 _) dX8_lists_89 (fun st9 H locs e8 hP hS => ?_)
          have h := h st9 e8
          exact (fun x1 x2 x3 st h => wk_X8_lists_92 S hr hlk E post (wp_M_lists_24 post k98 n) ih k98 hk98 x1 x2 x3 st h) x1 x2 x3 st9 h _ _ _ hP hS (lv_sub hl [0, 1, 2, 3] rfl)
        · have h := h.1 c3
          refine lv_goto (pc := 52) S.1 S.2.1 (tgt := 92) dX8_lists_52 (by decide) ?_
          exact (fun x1 x2 x3 st h => wk_X8_lists_92 S hr hlk E post (wp_M_lists_24 post k98 n) ih k98 hk98 x1 x2 x3 st h) x1 x2 x3 st3 h _ _ _ hP hS (lv_sub hl [0, 1, 2, 3] rfl)
set_option maxHeartbeats 4000000 in
set_option maxRecDepth 100000 in
theorem wk_X8_lists_7 {p : Program} {l : Launch} {e : Env} {s : State} {m : MethodId} {args : Array Value} {below : List Frame} {meth : Method} {c : Code} {dC : Nat → ClassId} {dI : Nat → Nat → Nat} {a : Nat → Nat} {ca : Nat → ClassId} {tb : Nat → Nat} {w0 : Cond} (S : CallFix p m c cX8_lists 4 s args (w0 :: tWALL) RX8) (hr : meth.sig.returnType = none) (hlk : meth.locks = false) (E : tEnv 21 dC dI a ca tb s) (post : tSt → Prop) : ∀ (n : Nat) (x1 : Int32) (st : tSt), wp_M_lists_7 post n x1 st → tAt p l e rmX8_lists s m args below meth c (dC, dI) (cwM a ca) (tA 21 a s.heap.size) (tQv (cwM a ca) 21 dC dI a args below s post) 4 7 [(0, .ref (a 0)), (1, .int x1)] [] st := by
  intro n
  induction n with
  | zero => intro x1 st h; exact absurd h id
  | succ n ih =>
    intro x1 st h H locs ls hP hS hl
    refine lv_iload_n (pc := 7) S.1 S.2.1 dX8_lists_7 rfl (lv_at hl 1 rfl) ?_
    refine lv_aload_n (pc := 8) S.1 S.2.1 dX8_lists_8 rfl (lv_at hl 0 rfl) ?_
    refine tp_get (pc := 9) S E.1 hP iwX8 0 (cM_mo a ca st) rfl 19 (by decide) kw_433 (v := .int (st 6 0)) rfl dX8_lists_9 ?_
    refine lv_icmp_ge (pc := 12) (tgt := 104) S.1 S.2.1 dX8_lists_12 (by decide) (fun c1 => ?_) (fun c1 => ?_)
    · have h := h.1 c1
      exact tRv S hr hlk hP hS h dX8_lists_104
    · have h := h.2 c1
      refine lv_aload_n (pc := 15) S.1 S.2.1 dX8_lists_15 rfl (lv_at hl 0 rfl) ?_
      refine tp_get (pc := 16) S E.1 hP iwX8 0 (cM_mo a ca st) rfl 22 (by decide) kw_432 (v := .ref (a 14)) rfl dX8_lists_16 ?_
      refine lv_iload_n (pc := 19) S.1 S.2.1 dX8_lists_19 rfl (lv_at hl 1 rfl) ?_
      obtain ⟨hn2, h⟩ := h
      refine tp_iald (pc := 20) S E.1 hP 14 0 (cM_row a ca st) rfl (j := x1.toNatClampNeg) rfl hn2 dX8_lists_20 ?_
      refine lv_topi (fun y2_1 e3 => ?_)
      have h := h y2_1 e3
      refine lv_istore_n (pc := 21) S.1 S.2.1 (lv' := [(2, .int y2_1), (0, .ref (a 0)), (1, .int x1)]) dX8_lists_21 rfl hl (by decide) rfl (fun ls hl => ?_)
      refine lv_iconst (pc := 22) S.1 S.2.1 (v := 0) dX8_lists_22 (by decide) ?_
      refine lv_istore_n (pc := 23) S.1 S.2.1 (lv' := [(3, .int (0 : Int32)), (2, .int y2_1), (0, .ref (a 0)), (1, .int x1)]) dX8_lists_23 rfl hl (by decide) rfl (fun ls hl => ?_)
      exact (fun x1 x2 x3 st h => Exists.elim h (fun q h => wk_X8_lists_24 S hr hlk E post (wp_M_lists_98 post (wp_M_lists_7 post n)) (fun x1 st h => wk_X8_lists_98 S hr hlk E post (wp_M_lists_7 post n) ih x1 st h) q x1 x2 x3 st h)) x1 y2_1 (0 : Int32) st h _ _ _ hP hS (lv_sub hl [2, 3, 1, 0] rfl)
set_option maxHeartbeats 4000000 in
set_option maxRecDepth 100000 in
theorem mt_X8_lists (l : Launch) (dC : Nat → ClassId) (dI : Nat → Nat → Nat) (a : Nat → Nat) (ca : Nat → ClassId) (tb : Nat → Nat) (sz : Nat) (st : tSt) (post : tSt → Prop) (h : wp_M_lists  st post) : Met l yX8_lists (.code yX8_lists cX8_lists 4 none :: tWALL) rmX8_lists (va_Pc [.ref (a 0)] (tPre 21 (cwM a ca) dC dI a ca tb sz st)) (va_Qv post (tB (cwM a ca) dC dI) (tA 21 a sz)) 0 0 (tA 21 a sz) := by
  refine tp_met (by decide) (Nat.le_of_ble_eq_true rfl) ?_
  intro p e s m below meth c ls S hr hlk hsz E hP hl
  subst hsz
  have S : CallFix p m c cX8_lists 4 s _ (.code yX8_lists cX8_lists 4 none :: tWALL) RX8 := S
  have hl : lv_has ls 4 [(0, .ref (a 0))] := hl
  have hS : va_S (tA 21 a s.heap.size) s.heap s.heap [] := va_S.rf
  show W p l e _ s m _ below meth c s.heap [] 0 0 (tQv (cwM a ca) 21 dC dI a ([.ref (a 0)] : List Value).toArray below s post) (F0 m 0 ls [])
  refine lv_aload_n (pc := 0) S.1 S.2.1 dX8_lists_0 rfl (lv_at hl 0 rfl) ?_
  refine lv_iconst (pc := 1) S.1 S.2.1 (v := 0) dX8_lists_1 (by decide) ?_
  refine tp_put (pc := 2) S E.1 hP (cM_D E st) hS iwX8 tyX8 tyX8_ok nmX8 0 (cM_mo a ca st) rfl 21 (by decide) kw_439 rfl (v := .int (0 : Int32)) (tyX8_ok 21 (by decide)) rfl rfl (Nat.le_of_ble_eq_true rfl) (sM_mo_parts a ca st _) dX8_lists_2 (fun st1 H locs e1 hP hS => ?_)
  have h := h st1 e1
  refine lv_iconst (pc := 5) S.1 S.2.1 (v := 0) dX8_lists_5 (by decide) ?_
  refine lv_istore_n (pc := 6) S.1 S.2.1 (lv' := [(1, .int (0 : Int32)), (0, .ref (a 0))]) dX8_lists_6 rfl hl (by decide) rfl (fun ls hl => ?_)
  exact (fun x1 st h => Exists.elim h (fun q h => wk_X8_lists_7 S hr hlk E post  q x1 st h)) (0 : Int32) st1 h _ _ _ hP hS (lv_sub hl [1, 0] rfl)

abbrev rmX8_hinders : Room := { frames := 2, cells := 0, slots := 0, locals := 47 }
theorem cw_X8_hinders {R : Room} {own : String} {index : Nat} (h : rmX8_hinders.frames + 1 ≤ R.frames ∧ 8 + (4 + 11) + rmX8_hinders.locals ≤ R.locals) : tCw R own index yX8_hinders cX8_hinders 4 (some .int) rmX8_hinders 2 := ⟨kw_451, kw_373, ⟨rfl, rfl, h.1, h.2⟩, by decide +kernel, by decide +kernel, by decide +kernel⟩
set_option maxHeartbeats 4000000 in
set_option maxRecDepth 100000 in
theorem wk_X8_hinders_82 {p : Program} {l : Launch} {e : Env} {s : State} {m : MethodId} {args : Array Value} {below : List Frame} {meth : Method} {c : Code} {dC : Nat → ClassId} {dI : Nat → Nat → Nat} {a : Nat → Nat} {ca : Nat → ClassId} {tb : Nat → Nat} {w0 : Cond} (S : CallFix p m c cX8_hinders 4 s args (w0 :: tWALL) RX8) (hr : meth.sig.returnType = (some .int)) (hlk : meth.locks = false) (E : tEnv 21 dC dI a ca tb s) (post : Int32 → tSt → Prop) (k31 : Int32 → Int32 → Int32 → tSt → Prop) (hk31 : ∀ (x1 : Int32) (x2 : Int32) (x3 : Int32) (st : tSt), k31 x1 x2 x3 st → tAt p l e rmX8_hinders s m args below meth c (dC, dI) (cwM a ca) (tA 21 a s.heap.size) (tQi (cwM a ca) 21 dC dI a args below s post) 4 31 [(0, .ref (a 0)), (1, .int x1), (2, .int x2), (3, .int x3)] [] st) : ∀ (x1 : Int32) (x2 : Int32) (x3 : Int32) (st : tSt), wp_M_hinders_82 post k31 x1 x2 x3 st → tAt p l e rmX8_hinders s m args below meth c (dC, dI) (cwM a ca) (tA 21 a s.heap.size) (tQi (cwM a ca) 21 dC dI a args below s post) 4 82 [(0, .ref (a 0)), (1, .int x1), (2, .int x2), (3, .int x3)] [] st := by
  intro x1 x2 x3 st h H locs ls hP hS hl
  obtain ⟨y3_1, e1⟩ : ∃ y : Int32, y = x3 + 1 := ⟨_, rfl⟩
  have h := h y3_1 e1
  refine lv_iinc (pc := 82) S.1 S.2.1 (v := y3_1) (lv' := [(3, .int y3_1), (0, .ref (a 0)), (1, .int x1), (2, .int x2)]) dX8_hinders_82 hl (k := 3) rfl (by rw [e1]; rfl) (by decide) rfl (fun ls hl => ?_)
  refine lv_goto (pc := 85) S.1 S.2.1 (tgt := 31) dX8_hinders_85 (by decide) ?_
  exact hk31 x1 x2 y3_1 st h _ _ _ hP hS (lv_sub hl [1, 2, 3, 0] rfl)
set_option maxHeartbeats 4000000 in
set_option maxRecDepth 100000 in
theorem wk_X8_hinders_31 {p : Program} {l : Launch} {e : Env} {s : State} {m : MethodId} {args : Array Value} {below : List Frame} {meth : Method} {c : Code} {dC : Nat → ClassId} {dI : Nat → Nat → Nat} {a : Nat → Nat} {ca : Nat → ClassId} {tb : Nat → Nat} {w0 : Cond} (S : CallFix p m c cX8_hinders 4 s args (w0 :: tWALL) RX8) (hr : meth.sig.returnType = (some .int)) (hlk : meth.locks = false) (E : tEnv 21 dC dI a ca tb s) (post : Int32 → tSt → Prop) : ∀ (n : Nat) (x1 : Int32) (x2 : Int32) (x3 : Int32) (st : tSt), wp_M_hinders_31 post n x1 x2 x3 st → tAt p l e rmX8_hinders s m args below meth c (dC, dI) (cwM a ca) (tA 21 a s.heap.size) (tQi (cwM a ca) 21 dC dI a args below s post) 4 31 [(0, .ref (a 0)), (1, .int x1), (2, .int x2), (3, .int x3)] [] st := by
  intro n
  induction n with
  | zero => intro x1 x2 x3 st h; exact absurd h id
  | succ n ih =>
    intro x1 x2 x3 st h H locs ls hP hS hl
    refine lv_iload_n (pc := 31) S.1 S.2.1 dX8_hinders_31 rfl (lv_at hl 3 rfl) ?_
    refine lv_iload_n (pc := 32) S.1 S.2.1 dX8_hinders_32 rfl (lv_at hl 1 rfl) ?_
    refine lv_icmp_ge (pc := 33) (tgt := 88) S.1 S.2.1 dX8_hinders_33 (by decide) (fun c1 => ?_) (fun c1 => ?_)
    · have h := h.1 c1
      refine lv_iconst (pc := 88) S.1 S.2.1 (v := (-1)) dX8_hinders_88 (by decide) ?_
      exact tRi S hr hlk hP hS h dX8_hinders_89
    · have h := h.2 c1
      refine lv_aload_n (pc := 36) S.1 S.2.1 dX8_hinders_36 rfl (lv_at hl 0 rfl) ?_
      refine tp_get (pc := 37) S E.1 hP iwX8 0 (cM_mo a ca st) rfl 25 (by decide) kw_447 (v := .ref (a 17)) rfl dX8_hinders_37 ?_
      refine lv_iload_n (pc := 40) S.1 S.2.1 dX8_hinders_40 rfl (lv_at hl 3 rfl) ?_
      obtain ⟨hn2, h⟩ := h
      refine tp_iald (pc := 41) S E.1 hP 17 0 (cM_taker a ca st) rfl (j := x3.toNatClampNeg) rfl hn2 dX8_hinders_41 ?_
      refine lv_iload_n (pc := 42) S.1 S.2.1 dX8_hinders_42 rfl (lv_at hl 2 rfl) ?_
      refine lv_icmp_ne (pc := 43) (tgt := 82) S.1 S.2.1 dX8_hinders_43 (by decide) (fun c3 => ?_) (fun c3 => ?_)
      · have h := h.2 c3
        exact (fun x1 x2 x3 st h => wk_X8_hinders_82 S hr hlk E post (wp_M_hinders_31 post n) ih x1 x2 x3 st h) x1 x2 x3 st h _ _ _ hP hS (lv_sub hl [0, 1, 2, 3] rfl)
      · have h := h.1 c3
        refine lv_aload_n (pc := 46) S.1 S.2.1 dX8_hinders_46 rfl (lv_at hl 0 rfl) ?_
        refine tp_get (pc := 47) S E.1 hP iwX8 0 (cM_mo a ca st) rfl 23 (by decide) kw_440 (v := .ref (a 15)) rfl dX8_hinders_47 ?_
        refine lv_iload_n (pc := 50) S.1 S.2.1 dX8_hinders_50 rfl (lv_at hl 3 rfl) ?_
        obtain ⟨hn4, h⟩ := h
        refine tp_iald (pc := 51) S E.1 hP 15 0 (cM_partCall a ca st) rfl (j := x3.toNatClampNeg) rfl hn4 dX8_hinders_51 ?_
        refine lv_aload_n (pc := 52) S.1 S.2.1 dX8_hinders_52 rfl (lv_at hl 0 rfl) ?_
        refine tp_get (pc := 53) S E.1 hP iwX8 0 (cM_mo a ca st) rfl 23 (by decide) kw_440 (v := .ref (a 15)) rfl dX8_hinders_53 ?_
        refine lv_iload_n (pc := 56) S.1 S.2.1 dX8_hinders_56 rfl (lv_at hl 1 rfl) ?_
        obtain ⟨hn5, h⟩ := h
        refine tp_iald (pc := 57) S E.1 hP 15 0 (cM_partCall a ca st) rfl (j := x1.toNatClampNeg) rfl hn5 dX8_hinders_57 ?_
        refine lv_icmp_eq (pc := 58) (tgt := 80) S.1 S.2.1 dX8_hinders_58 (by decide) (fun c6 => ?_) (fun c6 => ?_)
        · have h := h.1 c6
          refine lv_iload_n (pc := 80) S.1 S.2.1 dX8_hinders_80 rfl (lv_at hl 3 rfl) ?_
          exact tRi S hr hlk hP hS h dX8_hinders_81
        · have h := h.2 c6
          refine lv_aload_n (pc := 61) S.1 S.2.1 dX8_hinders_61 rfl (lv_at hl 0 rfl) ?_
          refine lv_aload_n (pc := 62) S.1 S.2.1 dX8_hinders_62 rfl (lv_at hl 0 rfl) ?_
          refine tp_get (pc := 63) S E.1 hP iwX8 0 (cM_mo a ca st) rfl 23 (by decide) kw_440 (v := .ref (a 15)) rfl dX8_hinders_63 ?_
          refine lv_iload_n (pc := 66) S.1 S.2.1 dX8_hinders_66 rfl (lv_at hl 3 rfl) ?_
          obtain ⟨hn7, h⟩ := h
          refine tp_iald (pc := 67) S E.1 hP 15 0 (cM_partCall a ca st) rfl (j := x3.toNatClampNeg) rfl hn7 dX8_hinders_67 ?_
          refine lv_aload_n (pc := 68) S.1 S.2.1 dX8_hinders_68 rfl (lv_at hl 0 rfl) ?_
          refine tp_get (pc := 69) S E.1 hP iwX8 0 (cM_mo a ca st) rfl 23 (by decide) kw_440 (v := .ref (a 15)) rfl dX8_hinders_69 ?_
          refine lv_iload_n (pc := 72) S.1 S.2.1 dX8_hinders_72 rfl (lv_at hl 1 rfl) ?_
          obtain ⟨hn8, h⟩ := h
          refine tp_iald (pc := 73) S E.1 hP 15 0 (cM_partCall a ca st) rfl (j := x1.toNatClampNeg) rfl hn8 dX8_hinders_73 ?_
          refine tGi hS (tRunV (pc := 74) (As := [.int (st 23 x3.toNatClampNeg), .int (st 23 x1.toNatClampNeg)]) (rest := []) S E hP hS (mt_X8_goes l dC dI a ca tb _ (st 23 x3.toNatClampNeg) (st 23 x1.toNatClampNeg) st _ h) (cw_X8_goes ⟨Nat.le_of_ble_eq_true rfl, Nat.le_of_ble_eq_true rfl⟩) kw_448 kw_449 kw_450 0 8 rfl rfl (cM_mo a ca st) rfl hl.1 rfl (Nat.le_of_ble_eq_true rfl) dX8_hinders_74) (fun r2 st1 H locs h hP hS => ?_)
          refine lv_if_ne (pc := 77) (tgt := 82) S.1 S.2.1 dX8_hinders_77 (by decide) (fun c9 => ?_) (fun c9 => ?_)
          · have h := h.2 c9
            exact (fun x1 x2 x3 st h => wk_X8_hinders_82 S hr hlk E post (wp_M_hinders_31 post n) ih x1 x2 x3 st h) x1 x2 x3 st1 h _ _ _ hP hS (lv_sub hl [0, 1, 2, 3] rfl)
          · have h := h.1 c9
            refine lv_iload_n (pc := 80) S.1 S.2.1 dX8_hinders_80 rfl (lv_at hl 3 rfl) ?_
            exact tRi S hr hlk hP hS h dX8_hinders_81
set_option maxHeartbeats 4000000 in
set_option maxRecDepth 100000 in
theorem mt_X8_hinders (l : Launch) (dC : Nat → ClassId) (dI : Nat → Nat → Nat) (a : Nat → Nat) (ca : Nat → ClassId) (tb : Nat → Nat) (sz : Nat) (x1 : Int32) (x2 : Int32) (st : tSt) (post : Int32 → tSt → Prop) (h : wp_M_hinders x1 x2 st post) : Met l yX8_hinders (.code yX8_hinders cX8_hinders 4 (some .int) :: tWALL) rmX8_hinders (va_Pc [.ref (a 0), .int x1, .int x2] (tPre 21 (cwM a ca) dC dI a ca tb sz st)) (va_Qi post (tB (cwM a ca) dC dI) (tA 21 a sz)) 0 0 (tA 21 a sz) := by
  refine tp_met (by decide) (Nat.le_of_ble_eq_true rfl) ?_
  intro p e s m below meth c ls S hr hlk hsz E hP hl
  subst hsz
  have S : CallFix p m c cX8_hinders 4 s _ (.code yX8_hinders cX8_hinders 4 (some .int) :: tWALL) RX8 := S
  have hl : lv_has ls 4 [(0, .ref (a 0)), (1, .int x1), (2, .int x2)] := hl
  have hS : va_S (tA 21 a s.heap.size) s.heap s.heap [] := va_S.rf
  show W p l e _ s m _ below meth c s.heap [] 0 0 (tQi (cwM a ca) 21 dC dI a ([.ref (a 0), .int x1, .int x2] : List Value).toArray below s post) (F0 m 0 ls [])
  refine lv_aload_n (pc := 0) S.1 S.2.1 dX8_hinders_0 rfl (lv_at hl 0 rfl) ?_
  refine tp_get (pc := 1) S E.1 hP iwX8 0 (cM_mo a ca st) rfl 11 (by decide) kw_410 (v := .ref (a 6)) rfl dX8_hinders_1 ?_
  refine lv_iload_n (pc := 4) S.1 S.2.1 dX8_hinders_4 rfl (lv_at hl 2 rfl) ?_
  obtain ⟨hn1, h⟩ := h
  refine tp_iald (pc := 5) S E.1 hP 6 0 (cM_how a ca st) rfl (j := x2.toNatClampNeg) rfl hn1 dX8_hinders_5 ?_
  refine lv_if_ne (pc := 6) (tgt := 27) S.1 S.2.1 dX8_hinders_6 (by decide) (fun c2 => ?_) (fun c2 => ?_)
  · have h := h.2 c2
    refine lv_iload_n (pc := 27) S.1 S.2.1 dX8_hinders_27 rfl (lv_at hl 1 rfl) ?_
    exact tRi S hr hlk hP hS h dX8_hinders_28
  · have h := h.1 c2
    refine lv_aload_n (pc := 9) S.1 S.2.1 dX8_hinders_9 rfl (lv_at hl 0 rfl) ?_
    refine tp_get (pc := 10) S E.1 hP iwX8 0 (cM_mo a ca st) rfl 10 (by decide) kw_408 (v := .ref (a 5)) rfl dX8_hinders_10 ?_
    refine lv_iload_n (pc := 13) S.1 S.2.1 dX8_hinders_13 rfl (lv_at hl 2 rfl) ?_
    obtain ⟨hn3, h⟩ := h
    refine tp_iald (pc := 14) S E.1 hP 5 0 (cM_plays a ca st) rfl (j := x2.toNatClampNeg) rfl hn3 dX8_hinders_14 ?_
    refine lv_aload_n (pc := 15) S.1 S.2.1 dX8_hinders_15 rfl (lv_at hl 0 rfl) ?_
    refine tp_get (pc := 16) S E.1 hP iwX8 0 (cM_mo a ca st) rfl 24 (by decide) kw_441 (v := .ref (a 16)) rfl dX8_hinders_16 ?_
    refine lv_iload_n (pc := 19) S.1 S.2.1 dX8_hinders_19 rfl (lv_at hl 1 rfl) ?_
    obtain ⟨hn4, h⟩ := h
    refine tp_iald (pc := 20) S E.1 hP 16 0 (cM_partOf a ca st) rfl (j := x1.toNatClampNeg) rfl hn4 dX8_hinders_20 ?_
    refine tGi hS (tRunS (pc := 21) (As := [.int (st 13 x2.toNatClampNeg), .int (st 24 x1.toNatClampNeg)]) (rest := []) S E hP hS (mt_X8_has l dC dI a ca tb _ (st 13 x2.toNatClampNeg) (st 24 x1.toNatClampNeg) st _ h) (cw_X8_has ⟨Nat.le_of_ble_eq_true rfl, Nat.le_of_ble_eq_true rfl⟩) kw_445 kw_444 rfl hl.1 rfl (Nat.le_of_ble_eq_true rfl) dX8_hinders_21) (fun r2 st1 H locs h hP hS => ?_)
    refine lv_if_ne (pc := 24) (tgt := 29) S.1 S.2.1 dX8_hinders_24 (by decide) (fun c5 => ?_) (fun c5 => ?_)
    · have h := h.2 c5
      refine lv_iconst (pc := 29) S.1 S.2.1 (v := 0) dX8_hinders_29 (by decide) ?_
      refine lv_istore_n (pc := 30) S.1 S.2.1 (lv' := [(3, .int (0 : Int32)), (0, .ref (a 0)), (1, .int x1), (2, .int x2)]) dX8_hinders_30 rfl hl (by decide) rfl (fun ls hl => ?_)
      exact (fun x1 x2 x3 st h => Exists.elim h (fun q h => wk_X8_hinders_31 S hr hlk E post  q x1 x2 x3 st h)) x1 x2 (0 : Int32) st1 h _ _ _ hP hS (lv_sub hl [1, 2, 3, 0] rfl)
    · have h := h.1 c5
      refine lv_iload_n (pc := 27) S.1 S.2.1 dX8_hinders_27 rfl (lv_at hl 1 rfl) ?_
      exact tRi S hr hlk hP hS h dX8_hinders_28

abbrev rmX8_takes : Room := { frames := 3, cells := 0, slots := 0, locals := 70 }
theorem cw_X8_takes {R : Room} {own : String} {index : Nat} (h : rmX8_takes.frames + 1 ≤ R.frames ∧ 8 + (3 + 11) + rmX8_takes.locals ≤ R.locals) : tCw R own index yX8_takes cX8_takes 3 (some .boolean) rmX8_takes 1 := ⟨kw_456, kw_373, ⟨rfl, rfl, h.1, h.2⟩, by decide +kernel, by decide +kernel, by decide +kernel⟩
set_option maxHeartbeats 4000000 in
set_option maxRecDepth 100000 in
theorem wk_X8_takes_61 {p : Program} {l : Launch} {e : Env} {s : State} {m : MethodId} {args : Array Value} {below : List Frame} {meth : Method} {c : Code} {dC : Nat → ClassId} {dI : Nat → Nat → Nat} {a : Nat → Nat} {ca : Nat → ClassId} {tb : Nat → Nat} {w0 : Cond} (S : CallFix p m c cX8_takes 3 s args (w0 :: tWALL) RX8) (hr : meth.sig.returnType = (some .boolean)) (hlk : meth.locks = false) (E : tEnv 21 dC dI a ca tb s) (post : Int32 → tSt → Prop) (k0 : Int32 → tSt → Prop) (hk0 : ∀ (x1 : Int32) (st : tSt), k0 x1 st → tAt p l e rmX8_takes s m args below meth c (dC, dI) (cwM a ca) (tA 21 a s.heap.size) (tQi (cwM a ca) 21 dC dI a args below s post) 3 0 [(0, .ref (a 0)), (1, .int x1)] [] st) : ∀ (x1 : Int32) (st : tSt), wp_M_takes_61 post k0 x1 st → tAt p l e rmX8_takes s m args below meth c (dC, dI) (cwM a ca) (tA 21 a s.heap.size) (tQi (cwM a ca) 21 dC dI a args below s post) 3 61 [(0, .ref (a 0)), (1, .int x1)] [] st := by
  intro x1 st h H locs ls hP hS hl
  refine lv_goto (pc := 61) S.1 S.2.1 (tgt := 0) dX8_takes_61 (by decide) ?_
  exact hk0 x1 st h _ _ _ hP hS (lv_sub hl [0, 1] rfl)
set_option maxHeartbeats 4000000 in
set_option maxRecDepth 100000 in
theorem wk_X8_takes_0 {p : Program} {l : Launch} {e : Env} {s : State} {m : MethodId} {args : Array Value} {below : List Frame} {meth : Method} {c : Code} {dC : Nat → ClassId} {dI : Nat → Nat → Nat} {a : Nat → Nat} {ca : Nat → ClassId} {tb : Nat → Nat} {w0 : Cond} (S : CallFix p m c cX8_takes 3 s args (w0 :: tWALL) RX8) (hr : meth.sig.returnType = (some .boolean)) (hlk : meth.locks = false) (E : tEnv 21 dC dI a ca tb s) (post : Int32 → tSt → Prop) : ∀ (n : Nat) (x1 : Int32) (st : tSt), wp_M_takes_0 post n x1 st → tAt p l e rmX8_takes s m args below meth c (dC, dI) (cwM a ca) (tA 21 a s.heap.size) (tQi (cwM a ca) 21 dC dI a args below s post) 3 0 [(0, .ref (a 0)), (1, .int x1)] [] st := by
  intro n
  induction n with
  | zero => intro x1 st h; exact absurd h id
  | succ n ih =>
    intro x1 st h H locs ls hP hS hl
    refine lv_aload_n (pc := 0) S.1 S.2.1 dX8_takes_0 rfl (lv_at hl 0 rfl) ?_
    refine tp_get (pc := 1) S E.1 hP iwX8 0 (cM_mo a ca st) rfl 25 (by decide) kw_447 (v := .ref (a 17)) rfl dX8_takes_1 ?_
    refine lv_iload_n (pc := 4) S.1 S.2.1 dX8_takes_4 rfl (lv_at hl 1 rfl) ?_
    obtain ⟨hn1, h⟩ := h
    refine tp_iald (pc := 5) S E.1 hP 17 0 (cM_taker a ca st) rfl (j := x1.toNatClampNeg) rfl hn1 dX8_takes_5 ?_
    refine lv_aload_n (pc := 6) S.1 S.2.1 dX8_takes_6 rfl (lv_at hl 0 rfl) ?_
    refine tp_get (pc := 7) S E.1 hP iwX8 0 (cM_mo a ca st) rfl 3 (by decide) kw_405 (v := .int (st 2 0)) rfl dX8_takes_7 ?_
    refine lv_iconst (pc := 10) S.1 S.2.1 (v := 1) dX8_takes_10 (by decide) ?_
    refine lv_isub (pc := 11) S.1 S.2.1 dX8_takes_11 ?_
    refine lv_icmp_ge (pc := 12) (tgt := 64) S.1 S.2.1 dX8_takes_12 (by decide) (fun c2 => ?_) (fun c2 => ?_)
    · have h := h.1 c2
      refine lv_iconst (pc := 64) S.1 S.2.1 (v := 0) dX8_takes_64 (by decide) ?_
      exact tRz S hr hlk hP hS (Or.inl rfl) h dX8_takes_65
    · have h := h.2 c2
      refine lv_aload_n (pc := 15) S.1 S.2.1 dX8_takes_15 rfl (lv_at hl 0 rfl) ?_
      refine tp_get (pc := 16) S E.1 hP iwX8 0 (cM_mo a ca st) rfl 25 (by decide) kw_447 (v := .ref (a 17)) rfl dX8_takes_16 ?_
      refine lv_iload_n (pc := 19) S.1 S.2.1 dX8_takes_19 rfl (lv_at hl 1 rfl) ?_
      refine lv_dup2_11 (pc := 20) S.1 S.2.1 dX8_takes_20 rfl rfl ?_
      obtain ⟨hn3, h⟩ := h
      refine tp_iald (pc := 21) S E.1 hP 17 0 (cM_taker a ca st) rfl (j := x1.toNatClampNeg) rfl hn3 dX8_takes_21 ?_
      refine lv_iconst (pc := 22) S.1 S.2.1 (v := 1) dX8_takes_22 (by decide) ?_
      refine lv_iadd (pc := 23) S.1 S.2.1 dX8_takes_23 ?_
      obtain ⟨hn4, h⟩ := h
      refine tp_iast (pc := 24) S E.1 hP (cM_D E st) hS 17 0 (cM_taker a ca st) rfl (j := x1.toNatClampNeg) rfl hn4 (sM_taker a ca st _ _) dX8_takes_24 (fun st1 H locs e5 hP hS => ?_)
      have h := h st1 e5
      refine lv_aload_n (pc := 25) S.1 S.2.1 dX8_takes_25 rfl (lv_at hl 0 rfl) ?_
      refine lv_iload_n (pc := 26) S.1 S.2.1 dX8_takes_26 rfl (lv_at hl 1 rfl) ?_
      refine lv_aload_n (pc := 27) S.1 S.2.1 dX8_takes_27 rfl (lv_at hl 0 rfl) ?_
      refine tp_get (pc := 28) S E.1 hP iwX8 0 (cM_mo a ca st1) rfl 25 (by decide) kw_447 (v := .ref (a 17)) rfl dX8_takes_28 ?_
      refine lv_iload_n (pc := 31) S.1 S.2.1 dX8_takes_31 rfl (lv_at hl 1 rfl) ?_
      obtain ⟨hn6, h⟩ := h
      refine tp_iald (pc := 32) S E.1 hP 17 0 (cM_taker a ca st1) rfl (j := x1.toNatClampNeg) rfl hn6 dX8_takes_32 ?_
      refine tGi hS (tRunV (pc := 33) (As := [.int x1, .int (st1 25 x1.toNatClampNeg)]) (rest := []) S E hP hS (mt_X8_hinders l dC dI a ca tb _ x1 (st1 25 x1.toNatClampNeg) st1 _ h) (cw_X8_hinders ⟨Nat.le_of_ble_eq_true rfl, Nat.le_of_ble_eq_true rfl⟩) kw_452 kw_453 kw_454 0 8 rfl rfl (cM_mo a ca st1) rfl hl.1 rfl (Nat.le_of_ble_eq_true rfl) dX8_takes_33) (fun r3 st2 H locs h hP hS => ?_)
      refine lv_istore_n (pc := 36) S.1 S.2.1 (lv' := [(2, .int r3), (0, .ref (a 0)), (1, .int x1)]) dX8_takes_36 rfl hl (by decide) rfl (fun ls hl => ?_)
      refine lv_iload_n (pc := 37) S.1 S.2.1 dX8_takes_37 rfl (lv_at hl 0 rfl) ?_
      refine lv_iconst (pc := 38) S.1 S.2.1 (v := (-1)) dX8_takes_38 (by decide) ?_
      refine lv_icmp_ne (pc := 39) (tgt := 44) S.1 S.2.1 dX8_takes_39 (by decide) (fun c7 => ?_) (fun c7 => ?_)
      · have h := h.2 c7
        refine lv_iload_n (pc := 44) S.1 S.2.1 dX8_takes_44 rfl (lv_at hl 0 rfl) ?_
        refine lv_iload_n (pc := 45) S.1 S.2.1 dX8_takes_45 rfl (lv_at hl 2 rfl) ?_
        refine lv_icmp_ge (pc := 46) (tgt := 61) S.1 S.2.1 dX8_takes_46 (by decide) (fun c8 => ?_) (fun c8 => ?_)
        · have h := h.1 c8
          exact (fun x1 st h => wk_X8_takes_61 S hr hlk E post (wp_M_takes_0 post n) ih x1 st h) x1 st2 h _ _ _ hP hS (lv_sub hl [1, 2] rfl)
        · have h := h.2 c8
          refine lv_aload_n (pc := 49) S.1 S.2.1 dX8_takes_49 rfl (lv_at hl 1 rfl) ?_
          refine tp_get (pc := 50) S E.1 hP iwX8 0 (cM_mo a ca st2) rfl 26 (by decide) kw_455 (v := .ref (a 18)) rfl dX8_takes_50 ?_
          refine lv_iload_n (pc := 53) S.1 S.2.1 dX8_takes_53 rfl (lv_at hl 2 rfl) ?_
          refine lv_dup2_11 (pc := 54) S.1 S.2.1 dX8_takes_54 rfl rfl ?_
          obtain ⟨hn9, h⟩ := h
          refine tp_iald (pc := 55) S E.1 hP 18 0 (cM_blame a ca st2) rfl (j := x1.toNatClampNeg) rfl hn9 dX8_takes_55 ?_
          refine lv_iconst (pc := 56) S.1 S.2.1 (v := 1) dX8_takes_56 (by decide) ?_
          refine lv_iload_n (pc := 57) S.1 S.2.1 dX8_takes_57 rfl (lv_at hl 0 rfl) ?_
          refine lv_ishl (pc := 58) S.1 S.2.1 dX8_takes_58 ?_
          refine lv_ior (pc := 59) S.1 S.2.1 dX8_takes_59 ?_
          obtain ⟨hn10, h⟩ := h
          refine tp_iast (pc := 60) S E.1 hP (cM_D E st2) hS 18 0 (cM_blame a ca st2) rfl (j := x1.toNatClampNeg) rfl hn10 (sM_blame a ca st2 _ _) dX8_takes_60 (fun st4 H locs e11 hP hS => ?_)
          have h := h st4 e11
          exact (fun x1 st h => wk_X8_takes_61 S hr hlk E post (wp_M_takes_0 post n) ih x1 st h) x1 st4 h _ _ _ hP hS (lv_sub hl [1, 2] rfl)
      · have h := h.1 c7
        refine lv_iconst (pc := 42) S.1 S.2.1 (v := 1) dX8_takes_42 (by decide) ?_
        exact tRz S hr hlk hP hS (Or.inr rfl) h dX8_takes_43
set_option maxHeartbeats 4000000 in
set_option maxRecDepth 100000 in
theorem mt_X8_takes (l : Launch) (dC : Nat → ClassId) (dI : Nat → Nat → Nat) (a : Nat → Nat) (ca : Nat → ClassId) (tb : Nat → Nat) (sz : Nat) (x1 : Int32) (st : tSt) (post : Int32 → tSt → Prop) (h : wp_M_takes x1 st post) : Met l yX8_takes (.code yX8_takes cX8_takes 3 (some .boolean) :: tWALL) rmX8_takes (va_Pc [.ref (a 0), .int x1] (tPre 21 (cwM a ca) dC dI a ca tb sz st)) (va_Qi post (tB (cwM a ca) dC dI) (tA 21 a sz)) 0 0 (tA 21 a sz) := by
  refine tp_met (by decide) (Nat.le_of_ble_eq_true rfl) ?_
  intro p e s m below meth c ls S hr hlk hsz E hP hl
  subst hsz
  have S : CallFix p m c cX8_takes 3 s _ (.code yX8_takes cX8_takes 3 (some .boolean) :: tWALL) RX8 := S
  have hl : lv_has ls 3 [(0, .ref (a 0)), (1, .int x1)] := hl
  have hS : va_S (tA 21 a s.heap.size) s.heap s.heap [] := va_S.rf
  show W p l e _ s m _ below meth c s.heap [] 0 0 (tQi (cwM a ca) 21 dC dI a ([.ref (a 0), .int x1] : List Value).toArray below s post) (F0 m 0 ls [])
  obtain ⟨n, h⟩ := h
  exact wk_X8_takes_0 S hr hlk E post n x1 st h _ _ _ hP hS (lv_sub hl [0, 1] rfl)
