abbrev rmX8_canBePlayed : Room := { frames := 4, cells := 0, slots := 0, locals := 92 }
theorem cw_X8_canBePlayed {R : Room} {own : String} {index : Nat} (h : rmX8_canBePlayed.frames + 1 ≤ R.frames ∧ 8 + (4 + 11) + rmX8_canBePlayed.locals ≤ R.locals) : tCw R own index yX8_canBePlayed cX8_canBePlayed 4 (some .boolean) rmX8_canBePlayed 0 := ⟨kw_466, kw_373, ⟨rfl, rfl, h.1, h.2⟩, by decide +kernel, by decide +kernel, by decide +kernel⟩
set_option maxHeartbeats 4000000 in
set_option maxRecDepth 100000 in
theorem wk_X8_canBePlayed_111 {p : Program} {l : Launch} {e : Env} {s : State} {m : MethodId} {args : Array Value} {below : List Frame} {meth : Method} {c : Code} {dC : Nat → ClassId} {dI : Nat → Nat → Nat} {a : Nat → Nat} {ca : Nat → ClassId} {tb : Nat → Nat} {w0 : Cond} (S : CallFix p m c cX8_canBePlayed 4 s args (w0 :: tWALL) RX8) (hr : meth.sig.returnType = (some .boolean)) (hlk : meth.locks = false) (E : tEnv 21 dC dI a ca tb s) (post : Int32 → tSt → Prop) (k88 : Int32 → Int32 → Int32 → tSt → Prop) (hk88 : ∀ (x1 : Int32) (x2 : Int32) (x3 : Int32) (st : tSt), k88 x1 x2 x3 st → tAt p l e rmX8_canBePlayed s m args below meth c (dC, dI) (cwM a ca) (tA 21 a s.heap.size) (tQi (cwM a ca) 21 dC dI a args below s post) 4 88 [(0, .ref (a 0)), (1, .int x1), (2, .int x2), (3, .int x3)] [] st) (k118 : Int32 → Int32 → tSt → Prop) (hk118 : ∀ (x1 : Int32) (x2 : Int32) (st : tSt), k118 x1 x2 st → tAt p l e rmX8_canBePlayed s m args below meth c (dC, dI) (cwM a ca) (tA 21 a s.heap.size) (tQi (cwM a ca) 21 dC dI a args below s post) 4 118 [(0, .ref (a 0)), (1, .int x1), (2, .int x2)] [] st) : ∀ (x1 : Int32) (x3 : Int32) (s0 : Int32) (st : tSt), wp_M_canBePlayed_111 post k88 k118 x1 x3 s0 st → tAt p l e rmX8_canBePlayed s m args below meth c (dC, dI) (cwM a ca) (tA 21 a s.heap.size) (tQi (cwM a ca) 21 dC dI a args below s post) 4 111 [(0, .ref (a 0)), (1, .int x1), (3, .int x3)] [.int s0] st := by
  intro x1 x3 s0 st h H locs ls hP hS hl
  refine lv_istore_n (pc := 111) S.1 S.2.1 (lv' := [(2, .int s0), (0, .ref (a 0)), (1, .int x1), (3, .int x3)]) dX8_canBePlayed_111 rfl hl (by decide) rfl (fun ls hl => ?_)
  obtain ⟨y3_1, e1⟩ : ∃ y : Int32, y = x3 + 1 := ⟨_, rfl⟩
  have h := h y3_1 e1
  refine lv_iinc (pc := 112) S.1 S.2.1 (v := y3_1) (lv' := [(3, .int y3_1), (2, .int s0), (0, .ref (a 0)), (1, .int x1)]) dX8_canBePlayed_112 hl (k := 3) rfl (by rw [e1]; rfl) (by decide) rfl (fun ls hl => ?_)
  refine lv_goto (pc := 115) S.1 S.2.1 (tgt := 88) dX8_canBePlayed_115 (by decide) ?_
  exact hk88 x1 s0 y3_1 st h _ _ _ hP hS (lv_sub hl [2, 3, 1, 0] rfl)
set_option maxHeartbeats 4000000 in
set_option maxRecDepth 100000 in
theorem wk_X8_canBePlayed_118 {p : Program} {l : Launch} {e : Env} {s : State} {m : MethodId} {args : Array Value} {below : List Frame} {meth : Method} {c : Code} {dC : Nat → ClassId} {dI : Nat → Nat → Nat} {a : Nat → Nat} {ca : Nat → ClassId} {tb : Nat → Nat} {w0 : Cond} (S : CallFix p m c cX8_canBePlayed 4 s args (w0 :: tWALL) RX8) (hr : meth.sig.returnType = (some .boolean)) (hlk : meth.locks = false) (E : tEnv 21 dC dI a ca tb s) (post : Int32 → tSt → Prop) (k29 : Int32 → tSt → Prop) (hk29 : ∀ (x1 : Int32) (st : tSt), k29 x1 st → tAt p l e rmX8_canBePlayed s m args below meth c (dC, dI) (cwM a ca) (tA 21 a s.heap.size) (tQi (cwM a ca) 21 dC dI a args below s post) 4 29 [(0, .ref (a 0)), (1, .int x1)] [] st) : ∀ (x1 : Int32) (x2 : Int32) (st : tSt), wp_M_canBePlayed_118 post k29 x1 x2 st → tAt p l e rmX8_canBePlayed s m args below meth c (dC, dI) (cwM a ca) (tA 21 a s.heap.size) (tQi (cwM a ca) 21 dC dI a args below s post) 4 118 [(0, .ref (a 0)), (1, .int x1), (2, .int x2)] [] st := by
  intro x1 x2 st h H locs ls hP hS hl
  refine lv_aload_n (pc := 118) S.1 S.2.1 dX8_canBePlayed_118 rfl (lv_at hl 0 rfl) ?_
  refine tp_get (pc := 119) S E.1 hP iwX8 0 (cM_mo a ca st) rfl 26 (by decide) kw_455 (v := .ref (a 18)) rfl dX8_canBePlayed_119 ?_
  refine lv_iload_n (pc := 122) S.1 S.2.1 dX8_canBePlayed_122 rfl (lv_at hl 2 rfl) ?_
  refine lv_dup2_11 (pc := 123) S.1 S.2.1 dX8_canBePlayed_123 rfl rfl ?_
  obtain ⟨hn1, h⟩ := h
  refine tp_iald (pc := 124) S E.1 hP 18 0 (cM_blame a ca st) rfl (j := x2.toNatClampNeg) rfl hn1 dX8_canBePlayed_124 ?_
  refine lv_aload_n (pc := 125) S.1 S.2.1 dX8_canBePlayed_125 rfl (lv_at hl 0 rfl) ?_
  refine tp_get (pc := 126) S E.1 hP iwX8 0 (cM_mo a ca st) rfl 26 (by decide) kw_455 (v := .ref (a 18)) rfl dX8_canBePlayed_126 ?_
  refine lv_iload_n (pc := 129) S.1 S.2.1 dX8_canBePlayed_129 rfl (lv_at hl 1 rfl) ?_
  obtain ⟨hn2, h⟩ := h
  refine tp_iald (pc := 130) S E.1 hP 18 0 (cM_blame a ca st) rfl (j := x1.toNatClampNeg) rfl hn2 dX8_canBePlayed_130 ?_
  refine lv_iconst (pc := 131) S.1 S.2.1 (v := 1) dX8_canBePlayed_131 (by decide) ?_
  refine lv_iload_n (pc := 132) S.1 S.2.1 dX8_canBePlayed_132 rfl (lv_at hl 2 rfl) ?_
  refine lv_ishl (pc := 133) S.1 S.2.1 dX8_canBePlayed_133 ?_
  refine lv_iconst (pc := 134) S.1 S.2.1 (v := (-1)) dX8_canBePlayed_134 (by decide) ?_
  refine lv_ixor (pc := 135) S.1 S.2.1 dX8_canBePlayed_135 ?_
  refine lv_iand (pc := 136) S.1 S.2.1 dX8_canBePlayed_136 ?_
  refine lv_ior (pc := 137) S.1 S.2.1 dX8_canBePlayed_137 ?_
  obtain ⟨hn3, h⟩ := h
  refine tp_iast (pc := 138) S E.1 hP (cM_D E st) hS 18 0 (cM_blame a ca st) rfl (j := x2.toNatClampNeg) rfl hn3 (sM_blame a ca st _ _) dX8_canBePlayed_138 (fun st1 H locs e4 hP hS => ?_)
  have h := h st1 e4
  refine lv_iload_n (pc := 139) S.1 S.2.1 dX8_canBePlayed_139 rfl (lv_at hl 2 rfl) ?_
  refine lv_istore_n (pc := 140) S.1 S.2.1 (lv' := [(1, .int x2), (0, .ref (a 0)), (2, .int x2)]) dX8_canBePlayed_140 rfl hl (by decide) rfl (fun ls hl => ?_)
  refine lv_goto (pc := 141) S.1 S.2.1 (tgt := 29) dX8_canBePlayed_141 (by decide) ?_
  exact hk29 x2 st1 h _ _ _ hP hS (lv_sub hl [1, 0] rfl)
set_option maxHeartbeats 4000000 in
set_option maxRecDepth 100000 in
theorem wk_X8_canBePlayed_88 {p : Program} {l : Launch} {e : Env} {s : State} {m : MethodId} {args : Array Value} {below : List Frame} {meth : Method} {c : Code} {dC : Nat → ClassId} {dI : Nat → Nat → Nat} {a : Nat → Nat} {ca : Nat → ClassId} {tb : Nat → Nat} {w0 : Cond} (S : CallFix p m c cX8_canBePlayed 4 s args (w0 :: tWALL) RX8) (hr : meth.sig.returnType = (some .boolean)) (hlk : meth.locks = false) (E : tEnv 21 dC dI a ca tb s) (post : Int32 → tSt → Prop) (k118 : Int32 → Int32 → tSt → Prop) (hk118 : ∀ (x1 : Int32) (x2 : Int32) (st : tSt), k118 x1 x2 st → tAt p l e rmX8_canBePlayed s m args below meth c (dC, dI) (cwM a ca) (tA 21 a s.heap.size) (tQi (cwM a ca) 21 dC dI a args below s post) 4 118 [(0, .ref (a 0)), (1, .int x1), (2, .int x2)] [] st) : ∀ (n : Nat) (x1 : Int32) (x2 : Int32) (x3 : Int32) (st : tSt), wp_M_canBePlayed_88 post k118 n x1 x2 x3 st → tAt p l e rmX8_canBePlayed s m args below meth c (dC, dI) (cwM a ca) (tA 21 a s.heap.size) (tQi (cwM a ca) 21 dC dI a args below s post) 4 88 [(0, .ref (a 0)), (1, .int x1), (2, .int x2), (3, .int x3)] [] st := by
  intro n
  induction n with
  | zero => intro x1 x2 x3 st h; exact absurd h id
  | succ n ih =>
    intro x1 x2 x3 st h H locs ls hP hS hl
    refine lv_iload_n (pc := 88) S.1 S.2.1 dX8_canBePlayed_88 rfl (lv_at hl 3 rfl) ?_
    refine lv_iload_n (pc := 89) S.1 S.2.1 dX8_canBePlayed_89 rfl (lv_at hl 1 rfl) ?_
    refine lv_icmp_ge (pc := 90) (tgt := 118) S.1 S.2.1 dX8_canBePlayed_90 (by decide) (fun c1 => ?_) (fun c1 => ?_)
    · have h := h.1 c1
      exact hk118 x1 x2 st h _ _ _ hP hS (lv_sub hl [0, 1, 2] rfl)
    · have h := h.2 c1
      refine lv_aload_n (pc := 93) S.1 S.2.1 dX8_canBePlayed_93 rfl (lv_at hl 0 rfl) ?_
      refine tp_get (pc := 94) S E.1 hP iwX8 0 (cM_mo a ca st) rfl 26 (by decide) kw_455 (v := .ref (a 18)) rfl dX8_canBePlayed_94 ?_
      refine lv_iload_n (pc := 97) S.1 S.2.1 dX8_canBePlayed_97 rfl (lv_at hl 1 rfl) ?_
      obtain ⟨hn2, h⟩ := h
      refine tp_iald (pc := 98) S E.1 hP 18 0 (cM_blame a ca st) rfl (j := x1.toNatClampNeg) rfl hn2 dX8_canBePlayed_98 ?_
      refine lv_iload_n (pc := 99) S.1 S.2.1 dX8_canBePlayed_99 rfl (lv_at hl 3 rfl) ?_
      refine tGi hS (tRunS (pc := 100) (As := [.int (st 26 x1.toNatClampNeg), .int x3]) (rest := []) S E hP hS (mt_X8_has l dC dI a ca tb _ (st 26 x1.toNatClampNeg) x3 st _ h) (cw_X8_has ⟨Nat.le_of_ble_eq_true rfl, Nat.le_of_ble_eq_true rfl⟩) kw_445 kw_444 rfl hl.1 rfl (Nat.le_of_ble_eq_true rfl) dX8_canBePlayed_100) (fun r2 st1 H locs h hP hS => ?_)
      refine lv_if_eq (pc := 103) (tgt := 110) S.1 S.2.1 dX8_canBePlayed_103 (by decide) (fun c3 => ?_) (fun c3 => ?_)
      · have h := h.1 c3
        refine lv_iload_n (pc := 110) S.1 S.2.1 dX8_canBePlayed_110 rfl (lv_at hl 2 rfl) ?_
        exact (fun x1 x3 s0 st h => wk_X8_canBePlayed_111 S hr hlk E post (wp_M_canBePlayed_88 post k118 n) ih k118 hk118 x1 x3 s0 st h) x1 x3 x2 st1 h _ _ _ hP hS (lv_sub hl [0, 1, 3] rfl)
      · have h := h.2 c3
        refine lv_iload_n (pc := 106) S.1 S.2.1 dX8_canBePlayed_106 rfl (lv_at hl 3 rfl) ?_
        refine lv_goto (pc := 107) S.1 S.2.1 (tgt := 111) dX8_canBePlayed_107 (by decide) ?_
        exact (fun x1 x3 s0 st h => wk_X8_canBePlayed_111 S hr hlk E post (wp_M_canBePlayed_88 post k118 n) ih k118 hk118 x1 x3 s0 st h) x1 x3 x3 st1 h _ _ _ hP hS (lv_sub hl [0, 1, 3] rfl)
set_option maxHeartbeats 4000000 in
set_option maxRecDepth 100000 in
theorem wk_X8_canBePlayed_29 {p : Program} {l : Launch} {e : Env} {s : State} {m : MethodId} {args : Array Value} {below : List Frame} {meth : Method} {c : Code} {dC : Nat → ClassId} {dI : Nat → Nat → Nat} {a : Nat → Nat} {ca : Nat → ClassId} {tb : Nat → Nat} {w0 : Cond} (S : CallFix p m c cX8_canBePlayed 4 s args (w0 :: tWALL) RX8) (hr : meth.sig.returnType = (some .boolean)) (hlk : meth.locks = false) (E : tEnv 21 dC dI a ca tb s) (post : Int32 → tSt → Prop) : ∀ (n : Nat) (x1 : Int32) (st : tSt), wp_M_canBePlayed_29 post n x1 st → tAt p l e rmX8_canBePlayed s m args below meth c (dC, dI) (cwM a ca) (tA 21 a s.heap.size) (tQi (cwM a ca) 21 dC dI a args below s post) 4 29 [(0, .ref (a 0)), (1, .int x1)] [] st := by
  intro n
  induction n with
  | zero => intro x1 st h; exact absurd h id
  | succ n ih =>
    intro x1 st h H locs ls hP hS hl
    refine lv_iload_n (pc := 29) S.1 S.2.1 dX8_canBePlayed_29 rfl (lv_at hl 1 rfl) ?_
    refine lv_aload_n (pc := 30) S.1 S.2.1 dX8_canBePlayed_30 rfl (lv_at hl 0 rfl) ?_
    refine tp_get (pc := 31) S E.1 hP iwX8 0 (cM_mo a ca st) rfl 21 (by decide) kw_439 (v := .int (st 8 0)) rfl dX8_canBePlayed_31 ?_
    refine lv_icmp_ge (pc := 34) (tgt := 144) S.1 S.2.1 dX8_canBePlayed_34 (by decide) (fun c1 => ?_) (fun c1 => ?_)
    · have h := h.1 c1
      refine lv_iconst (pc := 144) S.1 S.2.1 (v := 1) dX8_canBePlayed_144 (by decide) ?_
      exact tRz S hr hlk hP hS (Or.inr rfl) h dX8_canBePlayed_145
    · have h := h.2 c1
      refine lv_aload_n (pc := 37) S.1 S.2.1 dX8_canBePlayed_37 rfl (lv_at hl 0 rfl) ?_
      refine lv_iload_n (pc := 38) S.1 S.2.1 dX8_canBePlayed_38 rfl (lv_at hl 1 rfl) ?_
      refine tGi hS (tRunV (pc := 39) (As := [.int x1]) (rest := []) S E hP hS (mt_X8_takes l dC dI a ca tb _ x1 st _ h) (cw_X8_takes ⟨Nat.le_of_ble_eq_true rfl, Nat.le_of_ble_eq_true rfl⟩) kw_457 kw_458 kw_459 0 8 rfl rfl (cM_mo a ca st) rfl hl.1 rfl (Nat.le_of_ble_eq_true rfl) dX8_canBePlayed_39) (fun r2 st1 H locs h hP hS => ?_)
      refine lv_if_eq (pc := 42) (tgt := 73) S.1 S.2.1 dX8_canBePlayed_42 (by decide) (fun c2 => ?_) (fun c2 => ?_)
      · have h := h.1 c2
        refine lv_aload_n (pc := 73) S.1 S.2.1 dX8_canBePlayed_73 rfl (lv_at hl 0 rfl) ?_
        refine tp_get (pc := 74) S E.1 hP iwX8 0 (cM_mo a ca st1) rfl 26 (by decide) kw_455 (v := .ref (a 18)) rfl dX8_canBePlayed_74 ?_
        refine lv_iload_n (pc := 77) S.1 S.2.1 dX8_canBePlayed_77 rfl (lv_at hl 1 rfl) ?_
        obtain ⟨hn3, h⟩ := h
        refine tp_iald (pc := 78) S E.1 hP 18 0 (cM_blame a ca st1) rfl (j := x1.toNatClampNeg) rfl hn3 dX8_canBePlayed_78 ?_
        refine lv_if_ne (pc := 79) (tgt := 84) S.1 S.2.1 dX8_canBePlayed_79 (by decide) (fun c4 => ?_) (fun c4 => ?_)
        · have h := h.2 c4
          refine lv_iconst (pc := 84) S.1 S.2.1 (v := 0) dX8_canBePlayed_84 (by decide) ?_
          refine lv_istore_n (pc := 85) S.1 S.2.1 (lv' := [(2, .int (0 : Int32)), (0, .ref (a 0)), (1, .int x1)]) dX8_canBePlayed_85 rfl hl (by decide) rfl (fun ls hl => ?_)
          refine lv_iconst (pc := 86) S.1 S.2.1 (v := 0) dX8_canBePlayed_86 (by decide) ?_
          refine lv_istore_n (pc := 87) S.1 S.2.1 (lv' := [(3, .int (0 : Int32)), (2, .int (0 : Int32)), (0, .ref (a 0)), (1, .int x1)]) dX8_canBePlayed_87 rfl hl (by decide) rfl (fun ls hl => ?_)
          exact (fun x1 x2 x3 st h => Exists.elim h (fun q h => wk_X8_canBePlayed_88 S hr hlk E post (wp_M_canBePlayed_118 post (wp_M_canBePlayed_29 post n)) (fun x1 x2 st h => wk_X8_canBePlayed_118 S hr hlk E post (wp_M_canBePlayed_29 post n) ih x1 x2 st h) q x1 x2 x3 st h)) x1 (0 : Int32) (0 : Int32) st1 h _ _ _ hP hS (lv_sub hl [2, 3, 1, 0] rfl)
        · have h := h.1 c4
          refine lv_iconst (pc := 82) S.1 S.2.1 (v := 0) dX8_canBePlayed_82 (by decide) ?_
          exact tRz S hr hlk hP hS (Or.inl rfl) h dX8_canBePlayed_83
      · have h := h.2 c2
        obtain ⟨y1_3, e5⟩ : ∃ y : Int32, y = x1 + 1 := ⟨_, rfl⟩
        have h := h y1_3 e5
        refine lv_iinc (pc := 45) S.1 S.2.1 (v := y1_3) (lv' := [(1, .int y1_3), (0, .ref (a 0))]) dX8_canBePlayed_45 hl (k := 1) rfl (by rw [e5]; rfl) (by decide) rfl (fun ls hl => ?_)
        refine lv_iload_n (pc := 48) S.1 S.2.1 dX8_canBePlayed_48 rfl (lv_at hl 0 rfl) ?_
        refine lv_aload_n (pc := 49) S.1 S.2.1 dX8_canBePlayed_49 rfl (lv_at hl 1 rfl) ?_
        refine tp_get (pc := 50) S E.1 hP iwX8 0 (cM_mo a ca st1) rfl 21 (by decide) kw_439 (v := .int (st1 8 0)) rfl dX8_canBePlayed_50 ?_
        refine lv_icmp_ge (pc := 53) (tgt := 29) S.1 S.2.1 dX8_canBePlayed_53 (by decide) (fun c6 => ?_) (fun c6 => ?_)
        · have h := h.1 c6
          exact ih y1_3 st1 h _ _ _ hP hS (lv_sub hl [1, 0] rfl)
        · have h := h.2 c6
          refine lv_aload_n (pc := 56) S.1 S.2.1 dX8_canBePlayed_56 rfl (lv_at hl 1 rfl) ?_
          refine tp_get (pc := 57) S E.1 hP iwX8 0 (cM_mo a ca st1) rfl 25 (by decide) kw_447 (v := .ref (a 17)) rfl dX8_canBePlayed_57 ?_
          refine lv_iload_n (pc := 60) S.1 S.2.1 dX8_canBePlayed_60 rfl (lv_at hl 0 rfl) ?_
          refine lv_iconst (pc := 61) S.1 S.2.1 (v := (-1)) dX8_canBePlayed_61 (by decide) ?_
          obtain ⟨hn7, h⟩ := h
          refine tp_iast (pc := 62) S E.1 hP (cM_D E st1) hS 17 0 (cM_taker a ca st1) rfl (j := y1_3.toNatClampNeg) rfl hn7 (sM_taker a ca st1 _ _) dX8_canBePlayed_62 (fun st4 H locs e8 hP hS => ?_)
          have h := h st4 e8
          refine lv_aload_n (pc := 63) S.1 S.2.1 dX8_canBePlayed_63 rfl (lv_at hl 1 rfl) ?_
          refine tp_get (pc := 64) S E.1 hP iwX8 0 (cM_mo a ca st4) rfl 26 (by decide) kw_455 (v := .ref (a 18)) rfl dX8_canBePlayed_64 ?_
          refine lv_iload_n (pc := 67) S.1 S.2.1 dX8_canBePlayed_67 rfl (lv_at hl 0 rfl) ?_
          refine lv_iconst (pc := 68) S.1 S.2.1 (v := 0) dX8_canBePlayed_68 (by decide) ?_
          obtain ⟨hn9, h⟩ := h
          refine tp_iast (pc := 69) S E.1 hP (cM_D E st4) hS 18 0 (cM_blame a ca st4) rfl (j := y1_3.toNatClampNeg) rfl hn9 (sM_blame a ca st4 _ _) dX8_canBePlayed_69 (fun st5 H locs e10 hP hS => ?_)
          have h := h st5 e10
          refine lv_goto (pc := 70) S.1 S.2.1 (tgt := 29) dX8_canBePlayed_70 (by decide) ?_
          exact ih y1_3 st5 h _ _ _ hP hS (lv_sub hl [1, 0] rfl)
set_option maxHeartbeats 4000000 in
set_option maxRecDepth 100000 in
theorem mt_X8_canBePlayed (l : Launch) (dC : Nat → ClassId) (dI : Nat → Nat → Nat) (a : Nat → Nat) (ca : Nat → ClassId) (tb : Nat → Nat) (sz : Nat) (st : tSt) (post : Int32 → tSt → Prop) (h : wp_M_canBePlayed  st post) : Met l yX8_canBePlayed (.code yX8_canBePlayed cX8_canBePlayed 4 (some .boolean) :: tWALL) rmX8_canBePlayed (va_Pc [.ref (a 0)] (tPre 21 (cwM a ca) dC dI a ca tb sz st)) (va_Qi post (tB (cwM a ca) dC dI) (tA 21 a sz)) 0 0 (tA 21 a sz) := by
  refine tp_met (by decide) (Nat.le_of_ble_eq_true rfl) ?_
  intro p e s m below meth c ls S hr hlk hsz E hP hl
  subst hsz
  have S : CallFix p m c cX8_canBePlayed 4 s _ (.code yX8_canBePlayed cX8_canBePlayed 4 (some .boolean) :: tWALL) RX8 := S
  have hl : lv_has ls 4 [(0, .ref (a 0))] := hl
  have hS : va_S (tA 21 a s.heap.size) s.heap s.heap [] := va_S.rf
  show W p l e _ s m _ below meth c s.heap [] 0 0 (tQi (cwM a ca) 21 dC dI a ([.ref (a 0)] : List Value).toArray below s post) (F0 m 0 ls [])
  refine lv_aload_n (pc := 0) S.1 S.2.1 dX8_canBePlayed_0 rfl (lv_at hl 0 rfl) ?_
  refine tGv hS (tRunV (pc := 1) (As := []) (rest := []) S E hP hS (mt_X8_lists l dC dI a ca tb _  st _ h) (cw_X8_lists ⟨Nat.le_of_ble_eq_true rfl, Nat.le_of_ble_eq_true rfl⟩) kw_460 kw_461 kw_462 0 8 rfl rfl (cM_mo a ca st) rfl hl.1 rfl (Nat.le_of_ble_eq_true rfl) dX8_canBePlayed_1) (fun st1 H locs h hP hS => ?_)
  refine lv_aload_n (pc := 4) S.1 S.2.1 dX8_canBePlayed_4 rfl (lv_at hl 0 rfl) ?_
  refine tGi hS (tRunV (pc := 5) (As := []) (rest := []) S E hP hS (mt_X8_hasPieces l dC dI a ca tb _  st1 _ h) (cw_X8_hasPieces ⟨Nat.le_of_ble_eq_true rfl, Nat.le_of_ble_eq_true rfl⟩) kw_463 kw_464 kw_465 0 8 rfl rfl (cM_mo a ca st1) rfl hl.1 rfl (Nat.le_of_ble_eq_true rfl) dX8_canBePlayed_5) (fun r3 st2 H locs h hP hS => ?_)
  refine lv_if_ne (pc := 8) (tgt := 13) S.1 S.2.1 dX8_canBePlayed_8 (by decide) (fun c1 => ?_) (fun c1 => ?_)
  · have h := h.2 c1
    refine lv_iconst (pc := 13) S.1 S.2.1 (v := 0) dX8_canBePlayed_13 (by decide) ?_
    refine lv_istore_n (pc := 14) S.1 S.2.1 (lv' := [(1, .int (0 : Int32)), (0, .ref (a 0))]) dX8_canBePlayed_14 rfl hl (by decide) rfl (fun ls hl => ?_)
    refine lv_aload_n (pc := 15) S.1 S.2.1 dX8_canBePlayed_15 rfl (lv_at hl 1 rfl) ?_
    refine tp_get (pc := 16) S E.1 hP iwX8 0 (cM_mo a ca st2) rfl 25 (by decide) kw_447 (v := .ref (a 17)) rfl dX8_canBePlayed_16 ?_
    refine lv_iconst (pc := 19) S.1 S.2.1 (v := 0) dX8_canBePlayed_19 (by decide) ?_
    refine lv_iconst (pc := 20) S.1 S.2.1 (v := (-1)) dX8_canBePlayed_20 (by decide) ?_
    refine tp_iast (pc := 21) S E.1 hP (cM_D E st2) hS 17 0 (cM_taker a ca st2) rfl (j := 0) (by decide +kernel) (by decide +kernel : ¬ ((0 : Int32) < 0 ∨ 12 ≤ (0 : Int32).toNatClampNeg)) (sM_taker a ca st2 _ _) dX8_canBePlayed_21 (fun st4 H locs e2 hP hS => ?_)
    have h := h st4 e2
    refine lv_aload_n (pc := 22) S.1 S.2.1 dX8_canBePlayed_22 rfl (lv_at hl 1 rfl) ?_
    refine tp_get (pc := 23) S E.1 hP iwX8 0 (cM_mo a ca st4) rfl 26 (by decide) kw_455 (v := .ref (a 18)) rfl dX8_canBePlayed_23 ?_
    refine lv_iconst (pc := 26) S.1 S.2.1 (v := 0) dX8_canBePlayed_26 (by decide) ?_
    refine lv_iconst (pc := 27) S.1 S.2.1 (v := 0) dX8_canBePlayed_27 (by decide) ?_
    refine tp_iast (pc := 28) S E.1 hP (cM_D E st4) hS 18 0 (cM_blame a ca st4) rfl (j := 0) (by decide +kernel) (by decide +kernel : ¬ ((0 : Int32) < 0 ∨ 12 ≤ (0 : Int32).toNatClampNeg)) (sM_blame a ca st4 _ _) dX8_canBePlayed_28 (fun st5 H locs e3 hP hS => ?_)
    have h := h st5 e3
    exact (fun x1 st h => Exists.elim h (fun q h => wk_X8_canBePlayed_29 S hr hlk E post  q x1 st h)) (0 : Int32) st5 h _ _ _ hP hS (lv_sub hl [1, 0] rfl)
  · have h := h.1 c1
    refine lv_iconst (pc := 11) S.1 S.2.1 (v := 0) dX8_canBePlayed_11 (by decide) ?_
    exact tRz S hr hlk hP hS (Or.inl rfl) h dX8_canBePlayed_12

abbrev rmX8_works : Room := { frames := 5, cells := 0, slots := 0, locals := 115 }
theorem cw_X8_works {R : Room} {own : String} {index : Nat} (h : rmX8_works.frames + 1 ≤ R.frames ∧ 8 + (2 + 11) + rmX8_works.locals ≤ R.locals) : tCw R own index yX8_works cX8_works 2 (some .int) rmX8_works 0 := ⟨kw_473, kw_373, ⟨rfl, rfl, h.1, h.2⟩, by decide +kernel, by decide +kernel, by decide +kernel⟩
set_option maxHeartbeats 4000000 in
set_option maxRecDepth 100000 in
theorem wk_X8_works_62 {p : Program} {l : Launch} {e : Env} {s : State} {m : MethodId} {args : Array Value} {below : List Frame} {meth : Method} {c : Code} {dC : Nat → ClassId} {dI : Nat → Nat → Nat} {a : Nat → Nat} {ca : Nat → ClassId} {tb : Nat → Nat} {w0 : Cond} (S : CallFix p m c cX8_works 2 s args (w0 :: tWALL) RX8) (hr : meth.sig.returnType = (some .int)) (hlk : meth.locks = false) (E : tEnv 21 dC dI a ca tb s) (post : Int32 → tSt → Prop) (k11 : Int32 → tSt → Prop) (hk11 : ∀ (x1 : Int32) (st : tSt), k11 x1 st → tAt p l e rmX8_works s m args below meth c (dC, dI) (cwM a ca) (tA 21 a s.heap.size) (tQi (cwM a ca) 21 dC dI a args below s post) 2 11 [(0, .ref (a 0)), (1, .int x1)] [] st) (k68 : tSt → Prop) (hk68 : ∀  (st : tSt), k68  st → tAt p l e rmX8_works s m args below meth c (dC, dI) (cwM a ca) (tA 21 a s.heap.size) (tQi (cwM a ca) 21 dC dI a args below s post) 2 68 [(0, .ref (a 0))] [] st) : ∀ (x1 : Int32) (st : tSt), wp_M_works_62 post k11 k68 x1 st → tAt p l e rmX8_works s m args below meth c (dC, dI) (cwM a ca) (tA 21 a s.heap.size) (tQi (cwM a ca) 21 dC dI a args below s post) 2 62 [(0, .ref (a 0)), (1, .int x1)] [] st := by
  intro x1 st h H locs ls hP hS hl
  obtain ⟨y1_1, e1⟩ : ∃ y : Int32, y = x1 + 1 := ⟨_, rfl⟩
  have h := h y1_1 e1
  refine lv_iinc (pc := 62) S.1 S.2.1 (v := y1_1) (lv' := [(1, .int y1_1), (0, .ref (a 0))]) dX8_works_62 hl (k := 1) rfl (by rw [e1]; rfl) (by decide) rfl (fun ls hl => ?_)
  refine lv_goto (pc := 65) S.1 S.2.1 (tgt := 11) dX8_works_65 (by decide) ?_
  exact hk11 y1_1 st h _ _ _ hP hS (lv_sub hl [1, 0] rfl)
set_option maxHeartbeats 4000000 in
set_option maxRecDepth 100000 in
theorem wk_X8_works_68 {p : Program} {l : Launch} {e : Env} {s : State} {m : MethodId} {args : Array Value} {below : List Frame} {meth : Method} {c : Code} {dC : Nat → ClassId} {dI : Nat → Nat → Nat} {a : Nat → Nat} {ca : Nat → ClassId} {tb : Nat → Nat} {w0 : Cond} (S : CallFix p m c cX8_works 2 s args (w0 :: tWALL) RX8) (hr : meth.sig.returnType = (some .int)) (hlk : meth.locks = false) (E : tEnv 21 dC dI a ca tb s) (post : Int32 → tSt → Prop) : ∀  (st : tSt), wp_M_works_68 post  st → tAt p l e rmX8_works s m args below meth c (dC, dI) (cwM a ca) (tA 21 a s.heap.size) (tQi (cwM a ca) 21 dC dI a args below s post) 2 68 [(0, .ref (a 0))] [] st := by
  intro  st h H locs ls hP hS hl
  refine lv_aload_n (pc := 68) S.1 S.2.1 dX8_works_68 rfl (lv_at hl 0 rfl) ?_
  refine tGi hS (tRunV (pc := 69) (As := []) (rest := []) S E hP hS (mt_X8_canBePlayed l dC dI a ca tb _  st _ h) (cw_X8_canBePlayed ⟨Nat.le_of_ble_eq_true rfl, Nat.le_of_ble_eq_true rfl⟩) kw_467 kw_468 kw_469 0 8 rfl rfl (cM_mo a ca st) rfl hl.1 rfl (Nat.le_of_ble_eq_true rfl) dX8_works_69) (fun r2 st1 H locs h hP hS => ?_)
  refine lv_istore_n (pc := 72) S.1 S.2.1 (lv' := [(1, .int r2), (0, .ref (a 0))]) dX8_works_72 rfl hl (by decide) rfl (fun ls hl => ?_)
  refine lv_aload_n (pc := 73) S.1 S.2.1 dX8_works_73 rfl (lv_at hl 1 rfl) ?_
  refine tp_get (pc := 74) S E.1 hP iwX8 0 (cM_mo a ca st1) rfl 20 (by decide) kw_443 (v := .int (st1 7 0)) rfl dX8_works_74 ?_
  exact tRi S hr hlk hP hS h dX8_works_77
set_option maxHeartbeats 4000000 in
set_option maxRecDepth 100000 in
theorem wk_X8_works_11 {p : Program} {l : Launch} {e : Env} {s : State} {m : MethodId} {args : Array Value} {below : List Frame} {meth : Method} {c : Code} {dC : Nat → ClassId} {dI : Nat → Nat → Nat} {a : Nat → Nat} {ca : Nat → ClassId} {tb : Nat → Nat} {w0 : Cond} (S : CallFix p m c cX8_works 2 s args (w0 :: tWALL) RX8) (hr : meth.sig.returnType = (some .int)) (hlk : meth.locks = false) (E : tEnv 21 dC dI a ca tb s) (post : Int32 → tSt → Prop) (k68 : tSt → Prop) (hk68 : ∀  (st : tSt), k68  st → tAt p l e rmX8_works s m args below meth c (dC, dI) (cwM a ca) (tA 21 a s.heap.size) (tQi (cwM a ca) 21 dC dI a args below s post) 2 68 [(0, .ref (a 0))] [] st) : ∀ (n : Nat) (x1 : Int32) (st : tSt), wp_M_works_11 post k68 n x1 st → tAt p l e rmX8_works s m args below meth c (dC, dI) (cwM a ca) (tA 21 a s.heap.size) (tQi (cwM a ca) 21 dC dI a args below s post) 2 11 [(0, .ref (a 0)), (1, .int x1)] [] st := by
  intro n
  induction n with
  | zero => intro x1 st h; exact absurd h id
  | succ n ih =>
    intro x1 st h H locs ls hP hS hl
    refine lv_iload_n (pc := 11) S.1 S.2.1 dX8_works_11 rfl (lv_at hl 1 rfl) ?_
    refine lv_aload_n (pc := 12) S.1 S.2.1 dX8_works_12 rfl (lv_at hl 0 rfl) ?_
    refine tp_get (pc := 13) S E.1 hP iwX8 0 (cM_mo a ca st) rfl 19 (by decide) kw_433 (v := .int (st 6 0)) rfl dX8_works_13 ?_
    refine lv_icmp_ge (pc := 16) (tgt := 68) S.1 S.2.1 dX8_works_16 (by decide) (fun c1 => ?_) (fun c1 => ?_)
    · have h := h.1 c1
      exact hk68  st h _ _ _ hP hS (lv_sub hl [0] rfl)
    · have h := h.2 c1
      refine lv_aload_n (pc := 19) S.1 S.2.1 dX8_works_19 rfl (lv_at hl 0 rfl) ?_
      refine lv_dup (pc := 20) S.1 S.2.1 dX8_works_20 rfl ?_
      refine tp_get (pc := 21) S E.1 hP iwX8 0 (cM_mo a ca st) rfl 20 (by decide) kw_443 (v := .int (st 7 0)) rfl dX8_works_21 ?_
      refine lv_iconst (pc := 24) S.1 S.2.1 (v := 1) dX8_works_24 (by decide) ?_
      refine lv_aload_n (pc := 25) S.1 S.2.1 dX8_works_25 rfl (lv_at hl 0 rfl) ?_
      refine tp_get (pc := 26) S E.1 hP iwX8 0 (cM_mo a ca st) rfl 22 (by decide) kw_432 (v := .ref (a 14)) rfl dX8_works_26 ?_
      refine lv_iload_n (pc := 29) S.1 S.2.1 dX8_works_29 rfl (lv_at hl 1 rfl) ?_
      obtain ⟨hn2, h⟩ := h
      refine tp_iald (pc := 30) S E.1 hP 14 0 (cM_row a ca st) rfl (j := x1.toNatClampNeg) rfl hn2 dX8_works_30 ?_
      refine lv_ishl (pc := 31) S.1 S.2.1 dX8_works_31 ?_
      refine lv_ior (pc := 32) S.1 S.2.1 dX8_works_32 ?_
      refine tp_put (pc := 33) S E.1 hP (cM_D E st) hS iwX8 tyX8 tyX8_ok nmX8 0 (cM_mo a ca st) rfl 20 (by decide) kw_443 rfl (v := .int ((st 7 0) ||| ((1 : Int32) <<< ((st 22 x1.toNatClampNeg) &&& 31)))) (tyX8_ok 20 (by decide)) rfl rfl (Nat.le_of_ble_eq_true rfl) (sM_mo_set a ca st _) dX8_works_33 (fun st1 H locs e3 hP hS => ?_)
      have h := h st1 e3
      refine lv_aload_n (pc := 36) S.1 S.2.1 dX8_works_36 rfl (lv_at hl 0 rfl) ?_
      refine tGi hS (tRunV (pc := 37) (As := []) (rest := []) S E hP hS (mt_X8_canBePlayed l dC dI a ca tb _  st1 _ h) (cw_X8_canBePlayed ⟨Nat.le_of_ble_eq_true rfl, Nat.le_of_ble_eq_true rfl⟩) kw_467 kw_468 kw_469 0 8 rfl rfl (cM_mo a ca st1) rfl hl.1 rfl (Nat.le_of_ble_eq_true rfl) dX8_works_37) (fun r3 st2 H locs h hP hS => ?_)
      refine lv_if_ne (pc := 40) (tgt := 62) S.1 S.2.1 dX8_works_40 (by decide) (fun c4 => ?_) (fun c4 => ?_)
      · have h := h.2 c4
        exact (fun x1 st h => wk_X8_works_62 S hr hlk E post (wp_M_works_11 post k68 n) ih k68 hk68 x1 st h) x1 st2 h _ _ _ hP hS (lv_sub hl [0, 1] rfl)
      · have h := h.1 c4
        refine lv_aload_n (pc := 43) S.1 S.2.1 dX8_works_43 rfl (lv_at hl 0 rfl) ?_
        refine lv_dup (pc := 44) S.1 S.2.1 dX8_works_44 rfl ?_
        refine tp_get (pc := 45) S E.1 hP iwX8 0 (cM_mo a ca st2) rfl 20 (by decide) kw_443 (v := .int (st2 7 0)) rfl dX8_works_45 ?_
        refine lv_iconst (pc := 48) S.1 S.2.1 (v := 1) dX8_works_48 (by decide) ?_
        refine lv_aload_n (pc := 49) S.1 S.2.1 dX8_works_49 rfl (lv_at hl 0 rfl) ?_
        refine tp_get (pc := 50) S E.1 hP iwX8 0 (cM_mo a ca st2) rfl 22 (by decide) kw_432 (v := .ref (a 14)) rfl dX8_works_50 ?_
        refine lv_iload_n (pc := 53) S.1 S.2.1 dX8_works_53 rfl (lv_at hl 1 rfl) ?_
        obtain ⟨hn5, h⟩ := h
        refine tp_iald (pc := 54) S E.1 hP 14 0 (cM_row a ca st2) rfl (j := x1.toNatClampNeg) rfl hn5 dX8_works_54 ?_
        refine lv_ishl (pc := 55) S.1 S.2.1 dX8_works_55 ?_
        refine lv_iconst (pc := 56) S.1 S.2.1 (v := (-1)) dX8_works_56 (by decide) ?_
        refine lv_ixor (pc := 57) S.1 S.2.1 dX8_works_57 ?_
        refine lv_iand (pc := 58) S.1 S.2.1 dX8_works_58 ?_
        refine tp_put (pc := 59) S E.1 hP (cM_D E st2) hS iwX8 tyX8 tyX8_ok nmX8 0 (cM_mo a ca st2) rfl 20 (by decide) kw_443 rfl (v := .int ((st2 7 0) &&& (((1 : Int32) <<< ((st2 22 x1.toNatClampNeg) &&& 31)) ^^^ (-1 : Int32)))) (tyX8_ok 20 (by decide)) rfl rfl (Nat.le_of_ble_eq_true rfl) (sM_mo_set a ca st2 _) dX8_works_59 (fun st4 H locs e6 hP hS => ?_)
        have h := h st4 e6
        exact (fun x1 st h => wk_X8_works_62 S hr hlk E post (wp_M_works_11 post k68 n) ih k68 hk68 x1 st h) x1 st4 h _ _ _ hP hS (lv_sub hl [0, 1] rfl)
set_option maxHeartbeats 4000000 in
set_option maxRecDepth 100000 in
theorem mt_X8_works (l : Launch) (dC : Nat → ClassId) (dI : Nat → Nat → Nat) (a : Nat → Nat) (ca : Nat → ClassId) (tb : Nat → Nat) (sz : Nat) (st : tSt) (post : Int32 → tSt → Prop) (h : wp_M_works  st post) : Met l yX8_works (.code yX8_works cX8_works 2 (some .int) :: tWALL) rmX8_works (va_Pc [.ref (a 0)] (tPre 21 (cwM a ca) dC dI a ca tb sz st)) (va_Qi post (tB (cwM a ca) dC dI) (tA 21 a sz)) 0 0 (tA 21 a sz) := by
  refine tp_met (by decide) (Nat.le_of_ble_eq_true rfl) ?_
  intro p e s m below meth c ls S hr hlk hsz E hP hl
  subst hsz
  have S : CallFix p m c cX8_works 2 s _ (.code yX8_works cX8_works 2 (some .int) :: tWALL) RX8 := S
  have hl : lv_has ls 2 [(0, .ref (a 0))] := hl
  have hS : va_S (tA 21 a s.heap.size) s.heap s.heap [] := va_S.rf
  show W p l e _ s m _ below meth c s.heap [] 0 0 (tQi (cwM a ca) 21 dC dI a ([.ref (a 0)] : List Value).toArray below s post) (F0 m 0 ls [])
  refine lv_aload_n (pc := 0) S.1 S.2.1 dX8_works_0 rfl (lv_at hl 0 rfl) ?_
  refine tGv hS (tRunV (pc := 1) (As := []) (rest := []) S E hP hS (mt_X8_sorts l dC dI a ca tb _  st _ h) (cw_X8_sorts ⟨Nat.le_of_ble_eq_true rfl, Nat.le_of_ble_eq_true rfl⟩) kw_470 kw_471 kw_472 0 8 rfl rfl (cM_mo a ca st) rfl hl.1 rfl (Nat.le_of_ble_eq_true rfl) dX8_works_1) (fun st1 H locs h hP hS => ?_)
  refine lv_aload_n (pc := 4) S.1 S.2.1 dX8_works_4 rfl (lv_at hl 0 rfl) ?_
  refine lv_iconst (pc := 5) S.1 S.2.1 (v := 0) dX8_works_5 (by decide) ?_
  refine tp_put (pc := 6) S E.1 hP (cM_D E st1) hS iwX8 tyX8 tyX8_ok nmX8 0 (cM_mo a ca st1) rfl 20 (by decide) kw_443 rfl (v := .int (0 : Int32)) (tyX8_ok 20 (by decide)) rfl rfl (Nat.le_of_ble_eq_true rfl) (sM_mo_set a ca st1 _) dX8_works_6 (fun st2 H locs e1 hP hS => ?_)
  have h := h st2 e1
  refine lv_iconst (pc := 9) S.1 S.2.1 (v := 0) dX8_works_9 (by decide) ?_
  refine lv_istore_n (pc := 10) S.1 S.2.1 (lv' := [(1, .int (0 : Int32)), (0, .ref (a 0))]) dX8_works_10 rfl hl (by decide) rfl (fun ls hl => ?_)
  exact (fun x1 st h => Exists.elim h (fun q h => wk_X8_works_11 S hr hlk E post (wp_M_works_68 post) (fun  st h => wk_X8_works_68 S hr hlk E post   st h) q x1 st h)) (0 : Int32) st2 h _ _ _ hP hS (lv_sub hl [1, 0] rfl)

abbrev rmX8_played : Room := { frames := 6, cells := 0, slots := 0, locals := 136 }
theorem cw_X8_played {R : Room} {own : String} {index : Nat} (h : rmX8_played.frames + 1 ≤ R.frames ∧ 8 + (1 + 11) + rmX8_played.locals ≤ R.locals) : tCw R own index yX8_played cX8_played 1 (some .int) rmX8_played 0 := ⟨kw_477, kw_373, ⟨rfl, rfl, h.1, h.2⟩, by decide +kernel, by decide +kernel, by decide +kernel⟩

set_option maxHeartbeats 4000000 in
set_option maxRecDepth 100000 in
theorem mt_X8_played (l : Launch) (dC : Nat → ClassId) (dI : Nat → Nat → Nat) (a : Nat → Nat) (ca : Nat → ClassId) (tb : Nat → Nat) (sz : Nat) (st : tSt) (post : Int32 → tSt → Prop) (h : wp_M_played  st post) : Met l yX8_played (.code yX8_played cX8_played 1 (some .int) :: tWALL) rmX8_played (va_Pc [.ref (a 0)] (tPre 21 (cwM a ca) dC dI a ca tb sz st)) (va_Qi post (tB (cwM a ca) dC dI) (tA 21 a sz)) 0 0 (tA 21 a sz) := by
  refine tp_met (by decide) (Nat.le_of_ble_eq_true rfl) ?_
  intro p e s m below meth c ls S hr hlk hsz E hP hl
  subst hsz
  have S : CallFix p m c cX8_played 1 s _ (.code yX8_played cX8_played 1 (some .int) :: tWALL) RX8 := S
  have hl : lv_has ls 1 [(0, .ref (a 0))] := hl
  have hS : va_S (tA 21 a s.heap.size) s.heap s.heap [] := va_S.rf
  show W p l e _ s m _ below meth c s.heap [] 0 0 (tQi (cwM a ca) 21 dC dI a ([.ref (a 0)] : List Value).toArray below s post) (F0 m 0 ls [])
  refine lv_aload_n (pc := 0) S.1 S.2.1 dX8_played_0 rfl (lv_at hl 0 rfl) ?_
  refine tGi hS (tRunV (pc := 1) (As := []) (rest := []) S E hP hS (mt_X8_works l dC dI a ca tb _  st _ h) (cw_X8_works ⟨Nat.le_of_ble_eq_true rfl, Nat.le_of_ble_eq_true rfl⟩) kw_474 kw_475 kw_476 0 8 rfl rfl (cM_mo a ca st) rfl hl.1 rfl (Nat.le_of_ble_eq_true rfl) dX8_played_1) (fun r2 st1 H locs h hP hS => ?_)
  exact tRi S hr hlk hP hS h dX8_played_4

abbrev rmX8_whoHas : Room := { frames := 0, cells := 0, slots := 0, locals := 0 }
theorem cw_X8_whoHas {R : Room} {own : String} {index : Nat} (h : rmX8_whoHas.frames + 1 ≤ R.frames ∧ 8 + (5 + 11) + rmX8_whoHas.locals ≤ R.locals) : tCw R own index yX8_whoHas cX8_whoHas 5 (some .int) rmX8_whoHas 2 := ⟨kw_478, kw_373, ⟨rfl, rfl, h.1, h.2⟩, by decide +kernel, by decide +kernel, by decide +kernel⟩
set_option maxHeartbeats 4000000 in
set_option maxRecDepth 100000 in
theorem wk_X8_whoHas_44 {p : Program} {l : Launch} {e : Env} {s : State} {m : MethodId} {args : Array Value} {below : List Frame} {meth : Method} {c : Code} {dC : Nat → ClassId} {dI : Nat → Nat → Nat} {a : Nat → Nat} {ca : Nat → ClassId} {tb : Nat → Nat} {w0 : Cond} (S : CallFix p m c cX8_whoHas 5 s args (w0 :: tWALL) RX8) (hr : meth.sig.returnType = (some .int)) (hlk : meth.locks = false) (E : tEnv 21 dC dI a ca tb s) (post : Int32 → tSt → Prop) (k5 : Int32 → Int32 → Int32 → Int32 → tSt → Prop) (hk5 : ∀ (x1 : Int32) (x2 : Int32) (x3 : Int32) (x4 : Int32) (st : tSt), k5 x1 x2 x3 x4 st → tAt p l e rmX8_whoHas s m args below meth c (dC, dI) (cwM a ca) (tA 21 a s.heap.size) (tQi (cwM a ca) 21 dC dI a args below s post) 5 5 [(0, .ref (a 0)), (1, .int x1), (2, .int x2), (3, .int x3), (4, .int x4)] [] st) : ∀ (x1 : Int32) (x2 : Int32) (x3 : Int32) (x4 : Int32) (st : tSt), wp_M_whoHas_44 post k5 x1 x2 x3 x4 st → tAt p l e rmX8_whoHas s m args below meth c (dC, dI) (cwM a ca) (tA 21 a s.heap.size) (tQi (cwM a ca) 21 dC dI a args below s post) 5 44 [(0, .ref (a 0)), (1, .int x1), (2, .int x2), (3, .int x3), (4, .int x4)] [] st := by
  intro x1 x2 x3 x4 st h H locs ls hP hS hl
  obtain ⟨y4_1, e1⟩ : ∃ y : Int32, y = x4 + 1 := ⟨_, rfl⟩
  have h := h y4_1 e1
  refine lv_iinc (pc := 44) S.1 S.2.1 (v := y4_1) (lv' := [(4, .int y4_1), (0, .ref (a 0)), (1, .int x1), (2, .int x2), (3, .int x3)]) dX8_whoHas_44 hl (k := 4) rfl (by rw [e1]; rfl) (by decide) rfl (fun ls hl => ?_)
  refine lv_goto (pc := 47) S.1 S.2.1 (tgt := 5) dX8_whoHas_47 (by decide) ?_
  exact hk5 x1 x2 x3 y4_1 st h _ _ _ hP hS (lv_sub hl [1, 2, 3, 4, 0] rfl)
set_option maxHeartbeats 4000000 in
set_option maxRecDepth 100000 in
theorem wk_X8_whoHas_5 {p : Program} {l : Launch} {e : Env} {s : State} {m : MethodId} {args : Array Value} {below : List Frame} {meth : Method} {c : Code} {dC : Nat → ClassId} {dI : Nat → Nat → Nat} {a : Nat → Nat} {ca : Nat → ClassId} {tb : Nat → Nat} {w0 : Cond} (S : CallFix p m c cX8_whoHas 5 s args (w0 :: tWALL) RX8) (hr : meth.sig.returnType = (some .int)) (hlk : meth.locks = false) (E : tEnv 21 dC dI a ca tb s) (post : Int32 → tSt → Prop) : ∀ (n : Nat) (x1 : Int32) (x2 : Int32) (x3 : Int32) (x4 : Int32) (st : tSt), wp_M_whoHas_5 post n x1 x2 x3 x4 st → tAt p l e rmX8_whoHas s m args below meth c (dC, dI) (cwM a ca) (tA 21 a s.heap.size) (tQi (cwM a ca) 21 dC dI a args below s post) 5 5 [(0, .ref (a 0)), (1, .int x1), (2, .int x2), (3, .int x3), (4, .int x4)] [] st := by
  intro n
  induction n with
  | zero => intro x1 x2 x3 x4 st h; exact absurd h id
  | succ n ih =>
    intro x1 x2 x3 x4 st h H locs ls hP hS hl
    refine lv_iload (pc := 5) S.1 S.2.1 dX8_whoHas_5 (lv_at hl 4 rfl) ?_
    refine lv_aload_n (pc := 7) S.1 S.2.1 dX8_whoHas_7 rfl (lv_at hl 0 rfl) ?_
    refine tp_get (pc := 8) S E.1 hP iwX8 0 (cM_mo a ca st) rfl 21 (by decide) kw_439 (v := .int (st 8 0)) rfl dX8_whoHas_8 ?_
    refine lv_icmp_ge (pc := 11) (tgt := 50) S.1 S.2.1 dX8_whoHas_11 (by decide) (fun c1 => ?_) (fun c1 => ?_)
    · have h := h.1 c1
      refine lv_iconst (pc := 50) S.1 S.2.1 (v := (-1)) dX8_whoHas_50 (by decide) ?_
      exact tRi S hr hlk hP hS h dX8_whoHas_51
    · have h := h.2 c1
      refine lv_aload_n (pc := 14) S.1 S.2.1 dX8_whoHas_14 rfl (lv_at hl 0 rfl) ?_
      refine tp_get (pc := 15) S E.1 hP iwX8 0 (cM_mo a ca st) rfl 23 (by decide) kw_440 (v := .ref (a 15)) rfl dX8_whoHas_15 ?_
      refine lv_iload (pc := 18) S.1 S.2.1 dX8_whoHas_18 (lv_at hl 4 rfl) ?_
      obtain ⟨hn2, h⟩ := h
      refine tp_iald (pc := 20) S E.1 hP 15 0 (cM_partCall a ca st) rfl (j := x4.toNatClampNeg) rfl hn2 dX8_whoHas_20 ?_
      refine lv_iload_n (pc := 21) S.1 S.2.1 dX8_whoHas_21 rfl (lv_at hl 1 rfl) ?_
      refine lv_icmp_eq (pc := 22) (tgt := 28) S.1 S.2.1 dX8_whoHas_22 (by decide) (fun c3 => ?_) (fun c3 => ?_)
      · have h := h.1 c3
        refine lv_iload_n (pc := 28) S.1 S.2.1 dX8_whoHas_28 rfl (lv_at hl 3 rfl) ?_
        refine lv_iload_n (pc := 29) S.1 S.2.1 dX8_whoHas_29 rfl (lv_at hl 2 rfl) ?_
        refine lv_icmp_ne (pc := 30) (tgt := 41) S.1 S.2.1 dX8_whoHas_30 (by decide) (fun c4 => ?_) (fun c4 => ?_)
        · have h := h.2 c4
          obtain ⟨y3_1, e5⟩ : ∃ y : Int32, y = x3 + 1 := ⟨_, rfl⟩
          have h := h y3_1 e5
          refine lv_iinc (pc := 41) S.1 S.2.1 (v := y3_1) (lv' := [(3, .int y3_1), (0, .ref (a 0)), (1, .int x1), (2, .int x2), (4, .int x4)]) dX8_whoHas_41 hl (k := 3) rfl (by rw [e5]; rfl) (by decide) rfl (fun ls hl => ?_)
          exact (fun x1 x2 x3 x4 st h => wk_X8_whoHas_44 S hr hlk E post (wp_M_whoHas_5 post n) ih x1 x2 x3 x4 st h) x1 x2 y3_1 x4 st h _ _ _ hP hS (lv_sub hl [1, 2, 3, 0, 4] rfl)
        · have h := h.1 c4
          refine lv_aload_n (pc := 33) S.1 S.2.1 dX8_whoHas_33 rfl (lv_at hl 0 rfl) ?_
          refine tp_get (pc := 34) S E.1 hP iwX8 0 (cM_mo a ca st) rfl 25 (by decide) kw_447 (v := .ref (a 17)) rfl dX8_whoHas_34 ?_
          refine lv_iload (pc := 37) S.1 S.2.1 dX8_whoHas_37 (lv_at hl 4 rfl) ?_
          obtain ⟨hn6, h⟩ := h
          refine tp_iald (pc := 39) S E.1 hP 17 0 (cM_taker a ca st) rfl (j := x4.toNatClampNeg) rfl hn6 dX8_whoHas_39 ?_
          exact tRi S hr hlk hP hS h dX8_whoHas_40
      · have h := h.2 c3
        refine lv_goto (pc := 25) S.1 S.2.1 (tgt := 44) dX8_whoHas_25 (by decide) ?_
        exact (fun x1 x2 x3 x4 st h => wk_X8_whoHas_44 S hr hlk E post (wp_M_whoHas_5 post n) ih x1 x2 x3 x4 st h) x1 x2 x3 x4 st h _ _ _ hP hS (lv_sub hl [0, 1, 2, 3, 4] rfl)
set_option maxHeartbeats 4000000 in
set_option maxRecDepth 100000 in
theorem mt_X8_whoHas (l : Launch) (dC : Nat → ClassId) (dI : Nat → Nat → Nat) (a : Nat → Nat) (ca : Nat → ClassId) (tb : Nat → Nat) (sz : Nat) (x1 : Int32) (x2 : Int32) (st : tSt) (post : Int32 → tSt → Prop) (h : wp_M_whoHas x1 x2 st post) : Met l yX8_whoHas (.code yX8_whoHas cX8_whoHas 5 (some .int) :: tWALL) rmX8_whoHas (va_Pc [.ref (a 0), .int x1, .int x2] (tPre 21 (cwM a ca) dC dI a ca tb sz st)) (va_Qi post (tB (cwM a ca) dC dI) (tA 21 a sz)) 0 0 (tA 21 a sz) := by
  refine tp_met (by decide) (Nat.le_of_ble_eq_true rfl) ?_
  intro p e s m below meth c ls S hr hlk hsz E hP hl
  subst hsz
  have S : CallFix p m c cX8_whoHas 5 s _ (.code yX8_whoHas cX8_whoHas 5 (some .int) :: tWALL) RX8 := S
  have hl : lv_has ls 5 [(0, .ref (a 0)), (1, .int x1), (2, .int x2)] := hl
  have hS : va_S (tA 21 a s.heap.size) s.heap s.heap [] := va_S.rf
  show W p l e _ s m _ below meth c s.heap [] 0 0 (tQi (cwM a ca) 21 dC dI a ([.ref (a 0), .int x1, .int x2] : List Value).toArray below s post) (F0 m 0 ls [])
  refine lv_iconst (pc := 0) S.1 S.2.1 (v := 0) dX8_whoHas_0 (by decide) ?_
  refine lv_istore_n (pc := 1) S.1 S.2.1 (lv' := [(3, .int (0 : Int32)), (0, .ref (a 0)), (1, .int x1), (2, .int x2)]) dX8_whoHas_1 rfl hl (by decide) rfl (fun ls hl => ?_)
  refine lv_iconst (pc := 2) S.1 S.2.1 (v := 0) dX8_whoHas_2 (by decide) ?_
  refine lv_istore (pc := 3) S.1 S.2.1 (lv' := [(4, .int (0 : Int32)), (3, .int (0 : Int32)), (0, .ref (a 0)), (1, .int x1), (2, .int x2)]) dX8_whoHas_3 hl (by decide) rfl (fun ls hl => ?_)
  exact (fun x1 x2 x3 x4 st h => Exists.elim h (fun q h => wk_X8_whoHas_5 S hr hlk E post  q x1 x2 x3 x4 st h)) x1 x2 (0 : Int32) (0 : Int32) st h _ _ _ hP hS (lv_sub hl [2, 3, 4, 1, 0] rfl)

abbrev rmX8_who : Room := { frames := 6, cells := 0, slots := 0, locals := 136 }
theorem cw_X8_who {R : Room} {own : String} {index : Nat} (h : rmX8_who.frames + 1 ≤ R.frames ∧ 8 + (3 + 11) + rmX8_who.locals ≤ R.locals) : tCw R own index yX8_who cX8_who 3 (some .int) rmX8_who 2 := ⟨kw_482, kw_373, ⟨rfl, rfl, h.1, h.2⟩, by decide +kernel, by decide +kernel, by decide +kernel⟩

set_option maxHeartbeats 4000000 in
set_option maxRecDepth 100000 in
theorem mt_X8_who (l : Launch) (dC : Nat → ClassId) (dI : Nat → Nat → Nat) (a : Nat → Nat) (ca : Nat → ClassId) (tb : Nat → Nat) (sz : Nat) (x1 : Int32) (x2 : Int32) (st : tSt) (post : Int32 → tSt → Prop) (h : wp_M_who x1 x2 st post) : Met l yX8_who (.code yX8_who cX8_who 3 (some .int) :: tWALL) rmX8_who (va_Pc [.ref (a 0), .int x1, .int x2] (tPre 21 (cwM a ca) dC dI a ca tb sz st)) (va_Qi post (tB (cwM a ca) dC dI) (tA 21 a sz)) 0 0 (tA 21 a sz) := by
  refine tp_met (by decide) (Nat.le_of_ble_eq_true rfl) ?_
  intro p e s m below meth c ls S hr hlk hsz E hP hl
  subst hsz
  have S : CallFix p m c cX8_who 3 s _ (.code yX8_who cX8_who 3 (some .int) :: tWALL) RX8 := S
  have hl : lv_has ls 3 [(0, .ref (a 0)), (1, .int x1), (2, .int x2)] := hl
  have hS : va_S (tA 21 a s.heap.size) s.heap s.heap [] := va_S.rf
  show W p l e _ s m _ below meth c s.heap [] 0 0 (tQi (cwM a ca) 21 dC dI a ([.ref (a 0), .int x1, .int x2] : List Value).toArray below s post) (F0 m 0 ls [])
  refine lv_aload_n (pc := 0) S.1 S.2.1 dX8_who_0 rfl (lv_at hl 0 rfl) ?_
  refine lv_iload_n (pc := 1) S.1 S.2.1 dX8_who_1 rfl (lv_at hl 1 rfl) ?_
  refine tGi hS (tRunV (pc := 2) (As := [.int x1]) (rest := []) S E hP hS (mt_X8_isCall l dC dI a ca tb _ x1 st _ h) (cw_X8_isCall ⟨Nat.le_of_ble_eq_true rfl, Nat.le_of_ble_eq_true rfl⟩) kw_422 kw_423 kw_424 0 8 rfl rfl (cM_mo a ca st) rfl hl.1 rfl (Nat.le_of_ble_eq_true rfl) dX8_who_2) (fun r2 st1 H locs h hP hS => ?_)
  refine lv_if_eq (pc := 5) (tgt := 28) S.1 S.2.1 dX8_who_5 (by decide) (fun c1 => ?_) (fun c1 => ?_)
  · have h := h.1 c1
    refine lv_iconst (pc := 28) S.1 S.2.1 (v := (-1)) dX8_who_28 (by decide) ?_
    refine lv_goto (pc := 29) S.1 S.2.1 (tgt := 38) dX8_who_29 (by decide) ?_
    exact tRi S hr hlk hP hS h dX8_who_38
  · have h := h.2 c1
    refine lv_iload_n (pc := 8) S.1 S.2.1 dX8_who_8 rfl (lv_at hl 2 rfl) ?_
    refine lv_iconst (pc := 9) S.1 S.2.1 (v := 0) dX8_who_9 (by decide) ?_
    refine lv_iconst (pc := 10) S.1 S.2.1 (v := 1) dX8_who_10 (by decide) ?_
    refine tGi hS (tRunS (pc := 11) (As := [.int x2, .int (0 : Int32), .int (1 : Int32)]) (rest := []) S E hP hS (mt_X8_lies l dC dI a ca tb _ x2 (0 : Int32) (1 : Int32) st1 _ h) (cw_X8_lies ⟨Nat.le_of_ble_eq_true rfl, Nat.le_of_ble_eq_true rfl⟩) kw_394 kw_393 rfl hl.1 rfl (Nat.le_of_ble_eq_true rfl) dX8_who_11) (fun r4 st3 H locs h hP hS => ?_)
    refine lv_if_eq (pc := 14) (tgt := 28) S.1 S.2.1 dX8_who_14 (by decide) (fun c2 => ?_) (fun c2 => ?_)
    · have h := h.1 c2
      refine lv_iconst (pc := 28) S.1 S.2.1 (v := (-1)) dX8_who_28 (by decide) ?_
      refine lv_goto (pc := 29) S.1 S.2.1 (tgt := 38) dX8_who_29 (by decide) ?_
      exact tRi S hr hlk hP hS h dX8_who_38
    · have h := h.2 c2
      refine lv_aload_n (pc := 17) S.1 S.2.1 dX8_who_17 rfl (lv_at hl 0 rfl) ?_
      refine tGi hS (tRunV (pc := 18) (As := []) (rest := []) S E hP hS (mt_X8_works l dC dI a ca tb _  st3 _ h) (cw_X8_works ⟨Nat.le_of_ble_eq_true rfl, Nat.le_of_ble_eq_true rfl⟩) kw_474 kw_475 kw_476 0 8 rfl rfl (cM_mo a ca st3) rfl hl.1 rfl (Nat.le_of_ble_eq_true rfl) dX8_who_18) (fun r6 st5 H locs h hP hS => ?_)
      refine lv_iload_n (pc := 21) S.1 S.2.1 dX8_who_21 rfl (lv_at hl 1 rfl) ?_
      refine tGi hS (tRunS (pc := 22) (As := [.int r6, .int x1]) (rest := []) S E hP hS (mt_X8_has l dC dI a ca tb _ r6 x1 st5 _ h) (cw_X8_has ⟨Nat.le_of_ble_eq_true rfl, Nat.le_of_ble_eq_true rfl⟩) kw_445 kw_444 rfl hl.1 rfl (Nat.le_of_ble_eq_true rfl) dX8_who_22) (fun r8 st7 H locs h hP hS => ?_)
      refine lv_if_ne (pc := 25) (tgt := 32) S.1 S.2.1 dX8_who_25 (by decide) (fun c3 => ?_) (fun c3 => ?_)
      · have h := h.2 c3
        refine lv_aload_n (pc := 32) S.1 S.2.1 dX8_who_32 rfl (lv_at hl 0 rfl) ?_
        refine lv_iload_n (pc := 33) S.1 S.2.1 dX8_who_33 rfl (lv_at hl 1 rfl) ?_
        refine lv_iload_n (pc := 34) S.1 S.2.1 dX8_who_34 rfl (lv_at hl 2 rfl) ?_
        refine tGi hS (tRunV (pc := 35) (As := [.int x1, .int x2]) (rest := []) S E hP hS (mt_X8_whoHas l dC dI a ca tb _ x1 x2 st7 _ h) (cw_X8_whoHas ⟨Nat.le_of_ble_eq_true rfl, Nat.le_of_ble_eq_true rfl⟩) kw_479 kw_480 kw_481 0 8 rfl rfl (cM_mo a ca st7) rfl hl.1 rfl (Nat.le_of_ble_eq_true rfl) dX8_who_35) (fun r10 st9 H locs h hP hS => ?_)
        exact tRi S hr hlk hP hS h dX8_who_38
      · have h := h.1 c3
        refine lv_iconst (pc := 28) S.1 S.2.1 (v := (-1)) dX8_who_28 (by decide) ?_
        refine lv_goto (pc := 29) S.1 S.2.1 (tgt := 38) dX8_who_29 (by decide) ?_
        exact tRi S hr hlk hP hS h dX8_who_38

abbrev rmX8_tune : Room := { frames := 1, cells := 0, slots := 0, locals := 22 }
theorem cw_X8_tune {R : Room} {own : String} {index : Nat} (h : rmX8_tune.frames + 1 ≤ R.frames ∧ 8 + (3 + 11) + rmX8_tune.locals ≤ R.locals) : tCw R own index yX8_tune cX8_tune 3 (some .int) rmX8_tune 2 := ⟨kw_488, kw_373, ⟨rfl, rfl, h.1, h.2⟩, by decide +kernel, by decide +kernel, by decide +kernel⟩

set_option maxHeartbeats 4000000 in
set_option maxRecDepth 100000 in
theorem mt_X8_tune (l : Launch) (dC : Nat → ClassId) (dI : Nat → Nat → Nat) (a : Nat → Nat) (ca : Nat → ClassId) (tb : Nat → Nat) (sz : Nat) (x1 : Int32) (x2 : Int32) (st : tSt) (post : Int32 → tSt → Prop) (h : wp_M_tune x1 x2 st post) : Met l yX8_tune (.code yX8_tune cX8_tune 3 (some .int) :: tWALL) rmX8_tune (va_Pc [.ref (a 0), .int x1, .int x2] (tPre 21 (cwM a ca) dC dI a ca tb sz st)) (va_Qi post (tB (cwM a ca) dC dI) (tA 21 a sz)) 0 0 (tA 21 a sz) := by
  refine tp_met (by decide) (Nat.le_of_ble_eq_true rfl) ?_
  intro p e s m below meth c ls S hr hlk hsz E hP hl
  subst hsz
  have S : CallFix p m c cX8_tune 3 s _ (.code yX8_tune cX8_tune 3 (some .int) :: tWALL) RX8 := S
  have hl : lv_has ls 3 [(0, .ref (a 0)), (1, .int x1), (2, .int x2)] := hl
  have hS : va_S (tA 21 a s.heap.size) s.heap s.heap [] := va_S.rf
  show W p l e _ s m _ below meth c s.heap [] 0 0 (tQi (cwM a ca) 21 dC dI a ([.ref (a 0), .int x1, .int x2] : List Value).toArray below s post) (F0 m 0 ls [])
  refine lv_aload_n (pc := 0) S.1 S.2.1 dX8_tune_0 rfl (lv_at hl 0 rfl) ?_
  refine tp_get (pc := 1) S E.1 hP iwX8 0 (cM_mo a ca st) rfl 4 (by decide) kw_483 (v := .int (st 3 0)) rfl dX8_tune_1 ?_
  refine lv_bipush (pc := 4) S.1 S.2.1 (v := 10) dX8_tune_4 (by decide) ?_
  refine lv_icmp_eq (pc := 6) (tgt := 30) S.1 S.2.1 dX8_tune_6 (by decide) (fun c1 => ?_) (fun c1 => ?_)
  · have h := h.1 c1
    refine lv_iconst (pc := 30) S.1 S.2.1 (v := (-1)) dX8_tune_30 (by decide) ?_
    exact tRi S hr hlk hP hS h dX8_tune_31
  · have h := h.2 c1
    refine lv_iload_n (pc := 9) S.1 S.2.1 dX8_tune_9 rfl (lv_at hl 1 rfl) ?_
    refine lv_iconst (pc := 10) S.1 S.2.1 (v := 0) dX8_tune_10 (by decide) ?_
    refine lv_bipush (pc := 11) S.1 S.2.1 (v := 63) dX8_tune_11 (by decide) ?_
    refine tGi hS (tRunS (pc := 13) (As := [.int x1, .int (0 : Int32), .int (63 : Int32)]) (rest := []) S E hP hS (mt_X8_lies l dC dI a ca tb _ x1 (0 : Int32) (63 : Int32) st _ h) (cw_X8_lies ⟨Nat.le_of_ble_eq_true rfl, Nat.le_of_ble_eq_true rfl⟩) kw_394 kw_393 rfl hl.1 rfl (Nat.le_of_ble_eq_true rfl) dX8_tune_13) (fun r2 st1 H locs h hP hS => ?_)
    refine lv_if_eq (pc := 16) (tgt := 30) S.1 S.2.1 dX8_tune_16 (by decide) (fun c2 => ?_) (fun c2 => ?_)
    · have h := h.1 c2
      refine lv_iconst (pc := 30) S.1 S.2.1 (v := (-1)) dX8_tune_30 (by decide) ?_
      exact tRi S hr hlk hP hS h dX8_tune_31
    · have h := h.2 c2
      refine lv_iload_n (pc := 19) S.1 S.2.1 dX8_tune_19 rfl (lv_at hl 2 rfl) ?_
      refine lv_iconst (pc := 20) S.1 S.2.1 (v := 0) dX8_tune_20 (by decide) ?_
      refine lv_sipush (pc := 21) S.1 S.2.1 (v := 4095) dX8_tune_21 (by decide) ?_
      refine tGi hS (tRunS (pc := 24) (As := [.int x2, .int (0 : Int32), .int (4095 : Int32)]) (rest := []) S E hP hS (mt_X8_lies l dC dI a ca tb _ x2 (0 : Int32) (4095 : Int32) st1 _ h) (cw_X8_lies ⟨Nat.le_of_ble_eq_true rfl, Nat.le_of_ble_eq_true rfl⟩) kw_394 kw_393 rfl hl.1 rfl (Nat.le_of_ble_eq_true rfl) dX8_tune_24) (fun r4 st3 H locs h hP hS => ?_)
      refine lv_if_ne (pc := 27) (tgt := 32) S.1 S.2.1 dX8_tune_27 (by decide) (fun c3 => ?_) (fun c3 => ?_)
      · have h := h.2 c3
        refine lv_aload_n (pc := 32) S.1 S.2.1 dX8_tune_32 rfl (lv_at hl 0 rfl) ?_
        refine tp_get (pc := 33) S E.1 hP iwX8 0 (cM_mo a ca st3) rfl 15 (by decide) kw_484 (v := .ref (a 10)) rfl dX8_tune_33 ?_
        refine lv_aload_n (pc := 36) S.1 S.2.1 dX8_tune_36 rfl (lv_at hl 0 rfl) ?_
        refine tp_get (pc := 37) S E.1 hP iwX8 0 (cM_mo a ca st3) rfl 4 (by decide) kw_483 (v := .int (st3 3 0)) rfl dX8_tune_37 ?_
        refine lv_iload_n (pc := 40) S.1 S.2.1 dX8_tune_40 rfl (lv_at hl 1 rfl) ?_
        obtain ⟨hn4, h⟩ := h
        refine tp_iast (pc := 41) S E.1 hP (cM_D E st3) hS 10 0 (cM_fits a ca st3) rfl (j := (st3 3 0).toNatClampNeg) rfl hn4 (sM_fits a ca st3 _ _) dX8_tune_41 (fun st5 H locs e5 hP hS => ?_)
        have h := h st5 e5
        refine lv_aload_n (pc := 42) S.1 S.2.1 dX8_tune_42 rfl (lv_at hl 0 rfl) ?_
        refine tp_get (pc := 43) S E.1 hP iwX8 0 (cM_mo a ca st5) rfl 16 (by decide) kw_485 (v := .ref (a 11)) rfl dX8_tune_43 ?_
        refine lv_aload_n (pc := 46) S.1 S.2.1 dX8_tune_46 rfl (lv_at hl 0 rfl) ?_
        refine tp_get (pc := 47) S E.1 hP iwX8 0 (cM_mo a ca st5) rfl 4 (by decide) kw_483 (v := .int (st5 3 0)) rfl dX8_tune_47 ?_
        refine lv_iload_n (pc := 50) S.1 S.2.1 dX8_tune_50 rfl (lv_at hl 2 rfl) ?_
        obtain ⟨hn6, h⟩ := h
        refine tp_iast (pc := 51) S E.1 hP (cM_D E st5) hS 11 0 (cM_months a ca st5) rfl (j := (st5 3 0).toNatClampNeg) rfl hn6 (sM_months a ca st5 _ _) dX8_tune_51 (fun st6 H locs e7 hP hS => ?_)
        have h := h st6 e7
        refine lv_aload_n (pc := 52) S.1 S.2.1 dX8_tune_52 rfl (lv_at hl 0 rfl) ?_
        refine tp_get (pc := 53) S E.1 hP iwX8 0 (cM_mo a ca st6) rfl 17 (by decide) kw_486 (v := .ref (a 12)) rfl dX8_tune_53 ?_
        refine lv_aload_n (pc := 56) S.1 S.2.1 dX8_tune_56 rfl (lv_at hl 0 rfl) ?_
        refine tp_get (pc := 57) S E.1 hP iwX8 0 (cM_mo a ca st6) rfl 4 (by decide) kw_483 (v := .int (st6 3 0)) rfl dX8_tune_57 ?_
        refine lv_iconst (pc := 60) S.1 S.2.1 (v := (-1)) dX8_tune_60 (by decide) ?_
        obtain ⟨hn8, h⟩ := h
        refine tp_iast (pc := 61) S E.1 hP (cM_D E st6) hS 12 0 (cM_heardDay a ca st6) rfl (j := (st6 3 0).toNatClampNeg) rfl hn8 (sM_heardDay a ca st6 _ _) dX8_tune_61 (fun st7 H locs e9 hP hS => ?_)
        have h := h st7 e9
        refine lv_aload_n (pc := 62) S.1 S.2.1 dX8_tune_62 rfl (lv_at hl 0 rfl) ?_
        refine tp_get (pc := 63) S E.1 hP iwX8 0 (cM_mo a ca st7) rfl 18 (by decide) kw_487 (v := .ref (a 13)) rfl dX8_tune_63 ?_
        refine lv_aload_n (pc := 66) S.1 S.2.1 dX8_tune_66 rfl (lv_at hl 0 rfl) ?_
        refine tp_get (pc := 67) S E.1 hP iwX8 0 (cM_mo a ca st7) rfl 4 (by decide) kw_483 (v := .int (st7 3 0)) rfl dX8_tune_67 ?_
        refine lv_iconst (pc := 70) S.1 S.2.1 (v := 0) dX8_tune_70 (by decide) ?_
        obtain ⟨hn10, h⟩ := h
        refine tp_iast (pc := 71) S E.1 hP (cM_D E st7) hS 13 0 (cM_heardAs a ca st7) rfl (j := (st7 3 0).toNatClampNeg) rfl hn10 (sM_heardAs a ca st7 _ _) dX8_tune_71 (fun st8 H locs e11 hP hS => ?_)
        have h := h st8 e11
        refine lv_aload_n (pc := 72) S.1 S.2.1 dX8_tune_72 rfl (lv_at hl 0 rfl) ?_
        refine lv_dup (pc := 73) S.1 S.2.1 dX8_tune_73 rfl ?_
        refine tp_get (pc := 74) S E.1 hP iwX8 0 (cM_mo a ca st8) rfl 4 (by decide) kw_483 (v := .int (st8 3 0)) rfl dX8_tune_74 ?_
        refine lv_iconst (pc := 77) S.1 S.2.1 (v := 1) dX8_tune_77 (by decide) ?_
        refine lv_iadd (pc := 78) S.1 S.2.1 dX8_tune_78 ?_
        refine tp_put (pc := 79) S E.1 hP (cM_D E st8) hS iwX8 tyX8 tyX8_ok nmX8 0 (cM_mo a ca st8) rfl 4 (by decide) kw_483 rfl (v := .int ((st8 3 0) + (1 : Int32))) (tyX8_ok 4 (by decide)) rfl rfl (Nat.le_of_ble_eq_true rfl) (sM_mo_tunes a ca st8 _) dX8_tune_79 (fun st9 H locs e12 hP hS => ?_)
        have h := h st9 e12
        refine lv_aload_n (pc := 82) S.1 S.2.1 dX8_tune_82 rfl (lv_at hl 0 rfl) ?_
        refine tp_get (pc := 83) S E.1 hP iwX8 0 (cM_mo a ca st9) rfl 4 (by decide) kw_483 (v := .int (st9 3 0)) rfl dX8_tune_83 ?_
        refine lv_iconst (pc := 86) S.1 S.2.1 (v := 1) dX8_tune_86 (by decide) ?_
        refine lv_isub (pc := 87) S.1 S.2.1 dX8_tune_87 ?_
        exact tRi S hr hlk hP hS h dX8_tune_88
      · have h := h.1 c3
        refine lv_iconst (pc := 30) S.1 S.2.1 (v := (-1)) dX8_tune_30 (by decide) ?_
        exact tRi S hr hlk hP hS h dX8_tune_31

abbrev rmX8_month : Room := { frames := 0, cells := 0, slots := 0, locals := 0 }
theorem cw_X8_month {R : Room} {own : String} {index : Nat} (h : rmX8_month.frames + 1 ≤ R.frames ∧ 8 + (1 + 11) + rmX8_month.locals ≤ R.locals) : tCw R own index yX8_month cX8_month 1 (some .int) rmX8_month 0 := ⟨kw_490, kw_373, ⟨rfl, rfl, h.1, h.2⟩, by decide +kernel, by decide +kernel, by decide +kernel⟩

set_option maxHeartbeats 4000000 in
set_option maxRecDepth 100000 in
theorem mt_X8_month (l : Launch) (dC : Nat → ClassId) (dI : Nat → Nat → Nat) (a : Nat → Nat) (ca : Nat → ClassId) (tb : Nat → Nat) (sz : Nat) (st : tSt) (post : Int32 → tSt → Prop) (h : wp_M_month  st post) : Met l yX8_month (.code yX8_month cX8_month 1 (some .int) :: tWALL) rmX8_month (va_Pc [.ref (a 0)] (tPre 21 (cwM a ca) dC dI a ca tb sz st)) (va_Qi post (tB (cwM a ca) dC dI) (tA 21 a sz)) 0 0 (tA 21 a sz) := by
  refine tp_met (by decide) (Nat.le_of_ble_eq_true rfl) ?_
  intro p e s m below meth c ls S hr hlk hsz E hP hl
  subst hsz
  have S : CallFix p m c cX8_month 1 s _ (.code yX8_month cX8_month 1 (some .int) :: tWALL) RX8 := S
  have hl : lv_has ls 1 [(0, .ref (a 0))] := hl
  have hS : va_S (tA 21 a s.heap.size) s.heap s.heap [] := va_S.rf
  show W p l e _ s m _ below meth c s.heap [] 0 0 (tQi (cwM a ca) 21 dC dI a ([.ref (a 0)] : List Value).toArray below s post) (F0 m 0 ls [])
  refine lv_aload_n (pc := 0) S.1 S.2.1 dX8_month_0 rfl (lv_at hl 0 rfl) ?_
  refine tp_get (pc := 1) S E.1 hP iwX8 0 (cM_mo a ca st) rfl 2 (by decide) kw_489 (v := .int (st 1 0)) rfl dX8_month_1 ?_
  refine lv_bipush (pc := 4) S.1 S.2.1 (v := 30) dX8_month_4 (by decide) ?_
  refine lv_idiv (pc := 6) S.1 S.2.1 dX8_month_6 (by decide) ?_
  refine lv_bipush (pc := 7) S.1 S.2.1 (v := 12) dX8_month_7 (by decide) ?_
  refine lv_irem (pc := 9) S.1 S.2.1 dX8_month_9 (by decide) ?_
  exact tRi S hr hlk hP hS h dX8_month_10
