abbrev rmX8_reads : Room := { frames := 1, cells := 0, slots := 0, locals := 22 }
theorem cw_X8_reads {R : Room} {own : String} {index : Nat} (h : rmX8_reads.frames + 1 ≤ R.frames ∧ 8 + (7 + 11) + rmX8_reads.locals ≤ R.locals) : tCw R own index yX8_reads cX8_reads 7 (some .int) rmX8_reads 1 := ⟨kw_399, kw_373, ⟨rfl, rfl, h.1, h.2⟩, by decide +kernel, by decide +kernel, by decide +kernel⟩
set_option maxHeartbeats 4000000 in
set_option maxRecDepth 100000 in
theorem wk_X8_reads_122 {p : Program} {l : Launch} {e : Env} {s : State} {m : MethodId} {args : Array Value} {below : List Frame} {meth : Method} {c : Code} {dC : Nat → ClassId} {dI : Nat → Nat → Nat} {a : Nat → Nat} {ca : Nat → ClassId} {tb : Nat → Nat} {w0 : Cond} (S : CallFix p m c cX8_reads 7 s args (w0 :: tWALL) RX8) (hr : meth.sig.returnType = (some .int)) (hlk : meth.locks = false) (E : tEnv 21 dC dI a ca tb s) (post : Int32 → tSt → Prop) (k11 : Int32 → Int32 → Int32 → tSt → Prop) (hk11 : ∀ (x1 : Int32) (x2 : Int32) (x3 : Int32) (st : tSt), k11 x1 x2 x3 st → tAt p l e rmX8_reads s m args below meth c (dC, dI) (cwM a ca) (tA 21 a s.heap.size) (tQi (cwM a ca) 21 dC dI a args below s post) 7 11 [(0, .ref (a 0)), (1, .int x1), (2, .int x2), (3, .int x3)] [] st) : ∀ (x1 : Int32) (x2 : Int32) (x3 : Int32) (x4 : Int32) (x5 : Int32) (x6 : Int32) (st : tSt), wp_M_reads_122 post k11 x1 x2 x3 x4 x5 x6 st → tAt p l e rmX8_reads s m args below meth c (dC, dI) (cwM a ca) (tA 21 a s.heap.size) (tQi (cwM a ca) 21 dC dI a args below s post) 7 122 [(0, .ref (a 0)), (1, .int x1), (2, .int x2), (3, .int x3), (4, .int x4), (5, .int x5), (6, .int x6)] [] st := by
  intro x1 x2 x3 x4 x5 x6 st h H locs ls hP hS hl
  refine lv_iload (pc := 122) S.1 S.2.1 dX8_reads_122 (lv_at hl 4 rfl) ?_
  refine lv_iload (pc := 124) S.1 S.2.1 dX8_reads_124 (lv_at hl 6 rfl) ?_
  refine tGi hS (tRunS (pc := 126) (As := [.int x4, .int x6]) (rest := []) S E hP hS (mt_X8_canBe l dC dI a ca tb _ x4 x6 st _ h) (cw_X8_canBe ⟨Nat.le_of_ble_eq_true rfl, Nat.le_of_ble_eq_true rfl⟩) kw_388 kw_387 rfl hl.1 rfl (Nat.le_of_ble_eq_true rfl) dX8_reads_126) (fun r2 st1 H locs h hP hS => ?_)
  refine lv_if_ne (pc := 129) (tgt := 139) S.1 S.2.1 dX8_reads_129 (by decide) (fun c1 => ?_) (fun c1 => ?_)
  · have h := h.2 c1
    refine lv_aload_n (pc := 139) S.1 S.2.1 dX8_reads_139 rfl (lv_at hl 0 rfl) ?_
    refine tp_get (pc := 140) S E.1 hP iwX8 0 (cM_mo a ca st1) rfl 8 (by decide) kw_389 (v := .ref (a 3)) rfl dX8_reads_140 ?_
    refine lv_iload (pc := 143) S.1 S.2.1 dX8_reads_143 (lv_at hl 4 rfl) ?_
    refine lv_iload (pc := 145) S.1 S.2.1 dX8_reads_145 (lv_at hl 6 rfl) ?_
    obtain ⟨hn2, h⟩ := h
    refine tp_iast (pc := 147) S E.1 hP (cM_D E st1) hS 3 0 (cM_four a ca st1 (j := 1) (by decide)) rfl (j := x4.toNatClampNeg) rfl hn2 (sM_four a ca st1 (j := 1) (by decide) _ _) dX8_reads_147 (fun st3 H locs e3 hP hS => ?_)
    have h := h st3 e3
    refine lv_iload_n (pc := 148) S.1 S.2.1 dX8_reads_148 rfl (lv_at hl 2 rfl) ?_
    refine lv_iload_n (pc := 149) S.1 S.2.1 dX8_reads_149 rfl (lv_at hl 1 rfl) ?_
    refine lv_icmp_ne (pc := 150) (tgt := 155) S.1 S.2.1 dX8_reads_150 (by decide) (fun c4 => ?_) (fun c4 => ?_)
    · have h := h.2 c4
      refine lv_aload_n (pc := 155) S.1 S.2.1 dX8_reads_155 rfl (lv_at hl 0 rfl) ?_
      refine lv_iload_n (pc := 156) S.1 S.2.1 dX8_reads_156 rfl (lv_at hl 2 rfl) ?_
      refine lv_iload_n (pc := 157) S.1 S.2.1 dX8_reads_157 rfl (lv_at hl 1 rfl) ?_
      refine tGi hS (tRunV (pc := 158) (As := [.int x2, .int x1]) (rest := []) S E hP hS (mt_X8_at l dC dI a ca tb _ x2 x1 st3 _ h) (cw_X8_at ⟨Nat.le_of_ble_eq_true rfl, Nat.le_of_ble_eq_true rfl⟩) kw_390 kw_391 kw_392 0 8 rfl rfl (cM_mo a ca st3) rfl hl.1 rfl (Nat.le_of_ble_eq_true rfl) dX8_reads_158) (fun r5 st4 H locs h hP hS => ?_)
      refine lv_bipush (pc := 161) S.1 S.2.1 (v := 59) dX8_reads_161 (by decide) ?_
      refine lv_icmp_eq (pc := 163) (tgt := 172) S.1 S.2.1 dX8_reads_163 (by decide) (fun c5 => ?_) (fun c5 => ?_)
      · have h := h.1 c5
        obtain ⟨y2_6, e6⟩ : ∃ y : Int32, y = x2 + 1 := ⟨_, rfl⟩
        have h := h y2_6 e6
        refine lv_iinc (pc := 172) S.1 S.2.1 (v := y2_6) (lv' := [(2, .int y2_6), (0, .ref (a 0)), (1, .int x1), (3, .int x3), (4, .int x4), (5, .int x5), (6, .int x6)]) dX8_reads_172 hl (k := 2) rfl (by rw [e6]; rfl) (by decide) rfl (fun ls hl => ?_)
        obtain ⟨y3_7, e7⟩ : ∃ y : Int32, y = x3 + 1 := ⟨_, rfl⟩
        have h := h y3_7 e7
        refine lv_iinc (pc := 175) S.1 S.2.1 (v := y3_7) (lv' := [(3, .int y3_7), (2, .int y2_6), (0, .ref (a 0)), (1, .int x1), (4, .int x4), (5, .int x5), (6, .int x6)]) dX8_reads_175 hl (k := 3) rfl (by rw [e7]; rfl) (by decide) rfl (fun ls hl => ?_)
        refine lv_goto (pc := 178) S.1 S.2.1 (tgt := 11) dX8_reads_178 (by decide) ?_
        exact hk11 x1 y2_6 y3_7 st4 h _ _ _ hP hS (lv_sub hl [2, 3, 1, 0] rfl)
      · have h := h.2 c5
        refine lv_sipush (pc := 166) S.1 S.2.1 (v := 500) dX8_reads_166 (by decide) ?_
        refine lv_iload_n (pc := 169) S.1 S.2.1 dX8_reads_169 rfl (lv_at hl 2 rfl) ?_
        refine lv_iadd (pc := 170) S.1 S.2.1 dX8_reads_170 ?_
        exact tRi S hr hlk hP hS h dX8_reads_171
    · have h := h.1 c4
      refine lv_iconst (pc := 153) S.1 S.2.1 (v := 0) dX8_reads_153 (by decide) ?_
      exact tRi S hr hlk hP hS h dX8_reads_154
  · have h := h.1 c1
    refine lv_sipush (pc := 132) S.1 S.2.1 (v := 400) dX8_reads_132 (by decide) ?_
    refine lv_iload (pc := 135) S.1 S.2.1 dX8_reads_135 (lv_at hl 5 rfl) ?_
    refine lv_iadd (pc := 137) S.1 S.2.1 dX8_reads_137 ?_
    exact tRi S hr hlk hP hS h dX8_reads_138
set_option maxHeartbeats 4000000 in
set_option maxRecDepth 100000 in
theorem wk_X8_reads_69 {p : Program} {l : Launch} {e : Env} {s : State} {m : MethodId} {args : Array Value} {below : List Frame} {meth : Method} {c : Code} {dC : Nat → ClassId} {dI : Nat → Nat → Nat} {a : Nat → Nat} {ca : Nat → ClassId} {tb : Nat → Nat} {w0 : Cond} (S : CallFix p m c cX8_reads 7 s args (w0 :: tWALL) RX8) (hr : meth.sig.returnType = (some .int)) (hlk : meth.locks = false) (E : tEnv 21 dC dI a ca tb s) (post : Int32 → tSt → Prop) (k122 : Int32 → Int32 → Int32 → Int32 → Int32 → Int32 → tSt → Prop) (hk122 : ∀ (x1 : Int32) (x2 : Int32) (x3 : Int32) (x4 : Int32) (x5 : Int32) (x6 : Int32) (st : tSt), k122 x1 x2 x3 x4 x5 x6 st → tAt p l e rmX8_reads s m args below meth c (dC, dI) (cwM a ca) (tA 21 a s.heap.size) (tQi (cwM a ca) 21 dC dI a args below s post) 7 122 [(0, .ref (a 0)), (1, .int x1), (2, .int x2), (3, .int x3), (4, .int x4), (5, .int x5), (6, .int x6)] [] st) : ∀ (n : Nat) (x1 : Int32) (x2 : Int32) (x3 : Int32) (x4 : Int32) (x5 : Int32) (x6 : Int32) (st : tSt), wp_M_reads_69 post k122 n x1 x2 x3 x4 x5 x6 st → tAt p l e rmX8_reads s m args below meth c (dC, dI) (cwM a ca) (tA 21 a s.heap.size) (tQi (cwM a ca) 21 dC dI a args below s post) 7 69 [(0, .ref (a 0)), (1, .int x1), (2, .int x2), (3, .int x3), (4, .int x4), (5, .int x5), (6, .int x6)] [] st := by
  intro n
  induction n with
  | zero => intro x1 x2 x3 x4 x5 x6 st h; exact absurd h id
  | succ n ih =>
    intro x1 x2 x3 x4 x5 x6 st h H locs ls hP hS hl
    rw [wp_M_reads_69] at h
    refine lv_aload_n (pc := 69) S.1 S.2.1 dX8_reads_69 rfl (lv_at hl 0 rfl) ?_
    refine lv_iload_n (pc := 70) S.1 S.2.1 dX8_reads_70 rfl (lv_at hl 2 rfl) ?_
    refine lv_iload_n (pc := 71) S.1 S.2.1 dX8_reads_71 rfl (lv_at hl 1 rfl) ?_
    refine tGi hS (tRunV (pc := 72) (As := [.int x2, .int x1]) (rest := []) S E hP hS (mt_X8_at l dC dI a ca tb _ x2 x1 st _ h) (cw_X8_at ⟨Nat.le_of_ble_eq_true rfl, Nat.le_of_ble_eq_true rfl⟩) kw_390 kw_391 kw_392 0 8 rfl rfl (cM_mo a ca st) rfl hl.1 rfl (Nat.le_of_ble_eq_true rfl) dX8_reads_72) (fun r2 st1 H locs h hP hS => ?_)
    refine lv_bipush (pc := 75) S.1 S.2.1 (v := 48) dX8_reads_75 (by decide) ?_
    refine lv_bipush (pc := 77) S.1 S.2.1 (v := 57) dX8_reads_77 (by decide) ?_
    refine tGi hS (tRunS (pc := 79) (As := [.int r2, .int (48 : Int32), .int (57 : Int32)]) (rest := []) S E hP hS (mt_X8_lies l dC dI a ca tb _ r2 (48 : Int32) (57 : Int32) st1 _ h) (cw_X8_lies ⟨Nat.le_of_ble_eq_true rfl, Nat.le_of_ble_eq_true rfl⟩) kw_394 kw_393 rfl hl.1 rfl (Nat.le_of_ble_eq_true rfl) dX8_reads_79) (fun r4 st3 H locs h hP hS => ?_)
    refine lv_if_eq (pc := 82) (tgt := 122) S.1 S.2.1 dX8_reads_82 (by decide) (fun c1 => ?_) (fun c1 => ?_)
    · have h := h.1 c1
      exact hk122 x1 x2 x3 x4 x5 x6 st3 h _ _ _ hP hS (lv_sub hl [0, 1, 2, 3, 4, 5, 6] rfl)
    · have h := h.2 c1
      refine lv_iload_n (pc := 85) S.1 S.2.1 dX8_reads_85 rfl (lv_at hl 2 rfl) ?_
      refine lv_iload (pc := 86) S.1 S.2.1 dX8_reads_86 (lv_at hl 5 rfl) ?_
      refine lv_iconst (pc := 88) S.1 S.2.1 (v := 4) dX8_reads_88 (by decide) ?_
      refine lv_iadd (pc := 89) S.1 S.2.1 dX8_reads_89 ?_
      refine lv_icmp_ne (pc := 90) (tgt := 99) S.1 S.2.1 dX8_reads_90 (by decide) (fun c2 => ?_) (fun c2 => ?_)
      · have h := h.2 c2
        refine lv_bipush (pc := 99) S.1 S.2.1 (v := 10) dX8_reads_99 (by decide) ?_
        refine lv_iload (pc := 101) S.1 S.2.1 dX8_reads_101 (lv_at hl 6 rfl) ?_
        refine lv_imul (pc := 103) S.1 S.2.1 dX8_reads_103 ?_
        refine lv_aload_n (pc := 104) S.1 S.2.1 dX8_reads_104 rfl (lv_at hl 0 rfl) ?_
        refine lv_iload_n (pc := 105) S.1 S.2.1 dX8_reads_105 rfl (lv_at hl 2 rfl) ?_
        refine lv_iload_n (pc := 106) S.1 S.2.1 dX8_reads_106 rfl (lv_at hl 1 rfl) ?_
        refine tGi hS (tRunV (pc := 107) (As := [.int x2, .int x1]) (rest := [.int ((10 : Int32) * x6)]) S E hP hS (mt_X8_at l dC dI a ca tb _ x2 x1 st3 _ h) (cw_X8_at ⟨Nat.le_of_ble_eq_true rfl, Nat.le_of_ble_eq_true rfl⟩) kw_390 kw_391 kw_392 0 8 rfl rfl (cM_mo a ca st3) rfl hl.1 rfl (Nat.le_of_ble_eq_true rfl) dX8_reads_107) (fun r6 st5 H locs h hP hS => ?_)
        refine lv_iadd (pc := 110) S.1 S.2.1 dX8_reads_110 ?_
        refine lv_bipush (pc := 111) S.1 S.2.1 (v := 48) dX8_reads_111 (by decide) ?_
        refine lv_isub (pc := 113) S.1 S.2.1 dX8_reads_113 ?_
        refine lv_topi (fun y6_7 e3 => ?_)
        have h := h y6_7 e3
        refine lv_istore (pc := 114) S.1 S.2.1 (lv' := [(6, .int y6_7), (0, .ref (a 0)), (1, .int x1), (2, .int x2), (3, .int x3), (4, .int x4), (5, .int x5)]) dX8_reads_114 hl (by decide) rfl (fun ls hl => ?_)
        obtain ⟨y2_8, e4⟩ : ∃ y : Int32, y = x2 + 1 := ⟨_, rfl⟩
        have h := h y2_8 e4
        refine lv_iinc (pc := 116) S.1 S.2.1 (v := y2_8) (lv' := [(2, .int y2_8), (6, .int y6_7), (0, .ref (a 0)), (1, .int x1), (3, .int x3), (4, .int x4), (5, .int x5)]) dX8_reads_116 hl (k := 3) rfl (by rw [e4]; rfl) (by decide) rfl (fun ls hl => ?_)
        refine lv_goto (pc := 119) S.1 S.2.1 (tgt := 69) dX8_reads_119 (by decide) ?_
        exact ih x1 y2_8 x3 x4 x5 y6_7 st5 h _ _ _ hP hS (lv_sub hl [2, 3, 0, 4, 5, 6, 1] rfl)
      · have h := h.1 c2
        refine lv_sipush (pc := 93) S.1 S.2.1 (v := 300) dX8_reads_93 (by decide) ?_
        refine lv_iload_n (pc := 96) S.1 S.2.1 dX8_reads_96 rfl (lv_at hl 2 rfl) ?_
        refine lv_iadd (pc := 97) S.1 S.2.1 dX8_reads_97 ?_
        exact tRi S hr hlk hP hS h dX8_reads_98
set_option maxHeartbeats 4000000 in
set_option maxRecDepth 100000 in
theorem wk_X8_reads_11 {p : Program} {l : Launch} {e : Env} {s : State} {m : MethodId} {args : Array Value} {below : List Frame} {meth : Method} {c : Code} {dC : Nat → ClassId} {dI : Nat → Nat → Nat} {a : Nat → Nat} {ca : Nat → ClassId} {tb : Nat → Nat} {w0 : Cond} (S : CallFix p m c cX8_reads 7 s args (w0 :: tWALL) RX8) (hr : meth.sig.returnType = (some .int)) (hlk : meth.locks = false) (E : tEnv 21 dC dI a ca tb s) (post : Int32 → tSt → Prop) : ∀ (n : Nat) (x1 : Int32) (x2 : Int32) (x3 : Int32) (st : tSt), wp_M_reads_11 post n x1 x2 x3 st → tAt p l e rmX8_reads s m args below meth c (dC, dI) (cwM a ca) (tA 21 a s.heap.size) (tQi (cwM a ca) 21 dC dI a args below s post) 7 11 [(0, .ref (a 0)), (1, .int x1), (2, .int x2), (3, .int x3)] [] st := by
  intro n
  induction n with
  | zero => intro x1 x2 x3 st h; exact absurd h id
  | succ n ih =>
    intro x1 x2 x3 st h H locs ls hP hS hl
    refine lv_iload_n (pc := 11) S.1 S.2.1 dX8_reads_11 rfl (lv_at hl 3 rfl) ?_
    refine lv_iload_n (pc := 12) S.1 S.2.1 dX8_reads_12 rfl (lv_at hl 1 rfl) ?_
    refine lv_icmp_gt (pc := 13) (tgt := 181) S.1 S.2.1 dX8_reads_13 (by decide) (fun c1 => ?_) (fun c1 => ?_)
    · have h := h.1 c1
      refine lv_bipush (pc := 181) S.1 S.2.1 (v := 100) dX8_reads_181 (by decide) ?_
      refine lv_iload_n (pc := 183) S.1 S.2.1 dX8_reads_183 rfl (lv_at hl 2 rfl) ?_
      refine lv_iadd (pc := 184) S.1 S.2.1 dX8_reads_184 ?_
      exact tRi S hr hlk hP hS h dX8_reads_185
    · have h := h.2 c1
      refine lv_aload_n (pc := 16) S.1 S.2.1 dX8_reads_16 rfl (lv_at hl 0 rfl) ?_
      refine lv_iload_n (pc := 17) S.1 S.2.1 dX8_reads_17 rfl (lv_at hl 2 rfl) ?_
      refine lv_iload_n (pc := 18) S.1 S.2.1 dX8_reads_18 rfl (lv_at hl 1 rfl) ?_
      refine tGi hS (tRunV (pc := 19) (As := [.int x2, .int x1]) (rest := []) S E hP hS (mt_X8_at l dC dI a ca tb _ x2 x1 st _ h) (cw_X8_at ⟨Nat.le_of_ble_eq_true rfl, Nat.le_of_ble_eq_true rfl⟩) kw_390 kw_391 kw_392 0 8 rfl rfl (cM_mo a ca st) rfl hl.1 rfl (Nat.le_of_ble_eq_true rfl) dX8_reads_19) (fun r2 st1 H locs h hP hS => ?_)
      refine tGi hS (tRunS (pc := 22) (As := [.int r2]) (rest := []) S E hP hS (mt_X8_letter l dC dI a ca tb _ r2 st1 _ h) (cw_X8_letter ⟨Nat.le_of_ble_eq_true rfl, Nat.le_of_ble_eq_true rfl⟩) kw_396 kw_395 rfl hl.1 rfl (Nat.le_of_ble_eq_true rfl) dX8_reads_22) (fun r4 st3 H locs h hP hS => ?_)
      refine lv_istore (pc := 25) S.1 S.2.1 (lv' := [(4, .int r4), (0, .ref (a 0)), (1, .int x1), (2, .int x2), (3, .int x3)]) dX8_reads_25 hl (by decide) rfl (fun ls hl => ?_)
      refine lv_iload (pc := 27) S.1 S.2.1 dX8_reads_27 (lv_at hl 0 rfl) ?_
      refine lv_iconst (pc := 29) S.1 S.2.1 (v := (-1)) dX8_reads_29 (by decide) ?_
      refine lv_icmp_ne (pc := 30) (tgt := 38) S.1 S.2.1 dX8_reads_30 (by decide) (fun c2 => ?_) (fun c2 => ?_)
      · have h := h.2 c2
        obtain ⟨y2_5, e3⟩ : ∃ y : Int32, y = x2 + 1 := ⟨_, rfl⟩
        have h := h y2_5 e3
        refine lv_iinc (pc := 38) S.1 S.2.1 (v := y2_5) (lv' := [(2, .int y2_5), (4, .int r4), (0, .ref (a 0)), (1, .int x1), (3, .int x3)]) dX8_reads_38 hl (k := 3) rfl (by rw [e3]; rfl) (by decide) rfl (fun ls hl => ?_)
        refine lv_aload_n (pc := 41) S.1 S.2.1 dX8_reads_41 rfl (lv_at hl 2 rfl) ?_
        refine lv_iload_n (pc := 42) S.1 S.2.1 dX8_reads_42 rfl (lv_at hl 0 rfl) ?_
        refine lv_iload_n (pc := 43) S.1 S.2.1 dX8_reads_43 rfl (lv_at hl 3 rfl) ?_
        refine tGi hS (tRunV (pc := 44) (As := [.int y2_5, .int x1]) (rest := []) S E hP hS (mt_X8_at l dC dI a ca tb _ y2_5 x1 st3 _ h) (cw_X8_at ⟨Nat.le_of_ble_eq_true rfl, Nat.le_of_ble_eq_true rfl⟩) kw_390 kw_391 kw_392 0 8 rfl rfl (cM_mo a ca st3) rfl hl.1 rfl (Nat.le_of_ble_eq_true rfl) dX8_reads_44) (fun r7 st6 H locs h hP hS => ?_)
        refine lv_bipush (pc := 47) S.1 S.2.1 (v := 48) dX8_reads_47 (by decide) ?_
        refine lv_bipush (pc := 49) S.1 S.2.1 (v := 57) dX8_reads_49 (by decide) ?_
        refine tGi hS (tRunS (pc := 51) (As := [.int r7, .int (48 : Int32), .int (57 : Int32)]) (rest := []) S E hP hS (mt_X8_lies l dC dI a ca tb _ r7 (48 : Int32) (57 : Int32) st6 _ h) (cw_X8_lies ⟨Nat.le_of_ble_eq_true rfl, Nat.le_of_ble_eq_true rfl⟩) kw_394 kw_393 rfl hl.1 rfl (Nat.le_of_ble_eq_true rfl) dX8_reads_51) (fun r9 st8 H locs h hP hS => ?_)
        refine lv_if_ne (pc := 54) (tgt := 63) S.1 S.2.1 dX8_reads_54 (by decide) (fun c4 => ?_) (fun c4 => ?_)
        · have h := h.2 c4
          refine lv_iload_n (pc := 63) S.1 S.2.1 dX8_reads_63 rfl (lv_at hl 0 rfl) ?_
          refine lv_istore (pc := 64) S.1 S.2.1 (lv' := [(5, .int y2_5), (2, .int y2_5), (4, .int r4), (0, .ref (a 0)), (1, .int x1), (3, .int x3)]) dX8_reads_64 hl (by decide) rfl (fun ls hl => ?_)
          refine lv_iconst (pc := 66) S.1 S.2.1 (v := 0) dX8_reads_66 (by decide) ?_
          refine lv_istore (pc := 67) S.1 S.2.1 (lv' := [(6, .int (0 : Int32)), (5, .int y2_5), (2, .int y2_5), (4, .int r4), (0, .ref (a 0)), (1, .int x1), (3, .int x3)]) dX8_reads_67 hl (by decide) rfl (fun ls hl => ?_)
          exact (fun x1 x2 x3 x4 x5 x6 st h => Exists.elim h (fun q h => wk_X8_reads_69 S hr hlk E post (wp_M_reads_122 post (wp_M_reads_11 post n)) (fun x1 x2 x3 x4 x5 x6 st h => wk_X8_reads_122 S hr hlk E post (wp_M_reads_11 post n) ih x1 x2 x3 x4 x5 x6 st h) q x1 x2 x3 x4 x5 x6 st h)) x1 y2_5 x3 r4 y2_5 (0 : Int32) st8 h _ _ _ hP hS (lv_sub hl [4, 5, 2, 6, 3, 1, 0] rfl)
        · have h := h.1 c4
          refine lv_sipush (pc := 57) S.1 S.2.1 (v := 200) dX8_reads_57 (by decide) ?_
          refine lv_iload_n (pc := 60) S.1 S.2.1 dX8_reads_60 rfl (lv_at hl 0 rfl) ?_
          refine lv_iadd (pc := 61) S.1 S.2.1 dX8_reads_61 ?_
          exact tRi S hr hlk hP hS h dX8_reads_62
      · have h := h.1 c2
        refine lv_bipush (pc := 33) S.1 S.2.1 (v := 100) dX8_reads_33 (by decide) ?_
        refine lv_iload_n (pc := 35) S.1 S.2.1 dX8_reads_35 rfl (lv_at hl 3 rfl) ?_
        refine lv_iadd (pc := 36) S.1 S.2.1 dX8_reads_36 ?_
        exact tRi S hr hlk hP hS h dX8_reads_37
set_option maxHeartbeats 4000000 in
set_option maxRecDepth 100000 in
theorem mt_X8_reads (l : Launch) (dC : Nat → ClassId) (dI : Nat → Nat → Nat) (a : Nat → Nat) (ca : Nat → ClassId) (tb : Nat → Nat) (sz : Nat) (x1 : Int32) (st : tSt) (post : Int32 → tSt → Prop) (h : wp_M_reads x1 st post) : Met l yX8_reads (.code yX8_reads cX8_reads 7 (some .int) :: tWALL) rmX8_reads (va_Pc [.ref (a 0), .int x1] (tPre 21 (cwM a ca) dC dI a ca tb sz st)) (va_Qi post (tB (cwM a ca) dC dI) (tA 21 a sz)) 0 0 (tA 21 a sz) := by
  refine tp_met (by decide) (Nat.le_of_ble_eq_true rfl) ?_
  intro p e s m below meth c ls S hr hlk hsz E hP hl
  subst hsz
  have S : CallFix p m c cX8_reads 7 s _ (.code yX8_reads cX8_reads 7 (some .int) :: tWALL) RX8 := S
  have hl : lv_has ls 7 [(0, .ref (a 0)), (1, .int x1)] := hl
  have hS : va_S (tA 21 a s.heap.size) s.heap s.heap [] := va_S.rf
  show W p l e _ s m _ below meth c s.heap [] 0 0 (tQi (cwM a ca) 21 dC dI a ([.ref (a 0), .int x1] : List Value).toArray below s post) (F0 m 0 ls [])
  refine lv_aload_n (pc := 0) S.1 S.2.1 dX8_reads_0 rfl (lv_at hl 0 rfl) ?_
  refine tp_get (pc := 1) S E.1 hP iwX8 0 (cM_mo a ca st) rfl 8 (by decide) kw_389 (v := .ref (a 3)) rfl dX8_reads_1 ?_
  refine tGv hS (tRunS (pc := 4) (As := [.ref (a 3)]) (rest := []) S E hP hS (mt_X8_asAtFirst l dC dI a ca tb _ (j := 1) (by decide) st _ h) (cw_X8_asAtFirst ⟨Nat.le_of_ble_eq_true rfl, Nat.le_of_ble_eq_true rfl⟩) kw_398 kw_397 rfl hl.1 rfl (Nat.le_of_ble_eq_true rfl) dX8_reads_4) (fun st1 H locs h hP hS => ?_)
  refine lv_iconst (pc := 7) S.1 S.2.1 (v := 0) dX8_reads_7 (by decide) ?_
  refine lv_istore_n (pc := 8) S.1 S.2.1 (lv' := [(2, .int (0 : Int32)), (0, .ref (a 0)), (1, .int x1)]) dX8_reads_8 rfl hl (by decide) rfl (fun ls hl => ?_)
  refine lv_iconst (pc := 9) S.1 S.2.1 (v := 0) dX8_reads_9 (by decide) ?_
  refine lv_istore_n (pc := 10) S.1 S.2.1 (lv' := [(3, .int (0 : Int32)), (2, .int (0 : Int32)), (0, .ref (a 0)), (1, .int x1)]) dX8_reads_10 rfl hl (by decide) rfl (fun ls hl => ?_)
  exact (fun x1 x2 x3 st h => Exists.elim h (fun q h => wk_X8_reads_11 S hr hlk E post  q x1 x2 x3 st h)) x1 (0 : Int32) (0 : Int32) st1 h _ _ _ hP hS (lv_sub hl [2, 3, 1, 0] rfl)

abbrev rmX8_word : Room := { frames := 2, cells := 0, slots := 0, locals := 48 }
theorem cw_X8_word {R : Room} {own : String} {index : Nat} (h : rmX8_word.frames + 1 ≤ R.frames ∧ 8 + (4 + 11) + rmX8_word.locals ≤ R.locals) : tCw R own index yX8_word cX8_word 4 (some .int) rmX8_word 1 := ⟨kw_404, kw_373, ⟨rfl, rfl, h.1, h.2⟩, by decide +kernel, by decide +kernel, by decide +kernel⟩
set_option maxHeartbeats 4000000 in
set_option maxRecDepth 100000 in
theorem wk_X8_word_27 {p : Program} {l : Launch} {e : Env} {s : State} {m : MethodId} {args : Array Value} {below : List Frame} {meth : Method} {c : Code} {dC : Nat → ClassId} {dI : Nat → Nat → Nat} {a : Nat → Nat} {ca : Nat → ClassId} {tb : Nat → Nat} {w0 : Cond} (S : CallFix p m c cX8_word 4 s args (w0 :: tWALL) RX8) (hr : meth.sig.returnType = (some .int)) (hlk : meth.locks = false) (E : tEnv 21 dC dI a ca tb s) (post : Int32 → tSt → Prop) : ∀ (n : Nat) (x2 : Int32) (x3 : Int32) (st : tSt), wp_M_word_27 post n x2 x3 st → tAt p l e rmX8_word s m args below meth c (dC, dI) (cwM a ca) (tA 21 a s.heap.size) (tQi (cwM a ca) 21 dC dI a args below s post) 4 27 [(0, .ref (a 0)), (2, .int x2), (3, .int x3)] [] st := by
  intro n
  induction n with
  | zero => intro x2 x3 st h; exact absurd h id
  | succ n ih =>
    intro x2 x3 st h H locs ls hP hS hl
    refine lv_iload_n (pc := 27) S.1 S.2.1 dX8_word_27 rfl (lv_at hl 2 rfl) ?_
    refine lv_iconst (pc := 28) S.1 S.2.1 (v := 4) dX8_word_28 (by decide) ?_
    refine lv_icmp_ge (pc := 29) (tgt := 54) S.1 S.2.1 dX8_word_29 (by decide) (fun c1 => ?_) (fun c1 => ?_)
    · have h := h.1 c1
      refine lv_iload_n (pc := 54) S.1 S.2.1 dX8_word_54 rfl (lv_at hl 1 rfl) ?_
      exact tRi S hr hlk hP hS h dX8_word_55
    · have h := h.2 c1
      refine lv_iload_n (pc := 32) S.1 S.2.1 dX8_word_32 rfl (lv_at hl 1 rfl) ?_
      refine lv_if_ne (pc := 33) (tgt := 54) S.1 S.2.1 dX8_word_33 (by decide) (fun c2 => ?_) (fun c2 => ?_)
      · have h := h.2 c2
        refine lv_iload_n (pc := 54) S.1 S.2.1 dX8_word_54 rfl (lv_at hl 1 rfl) ?_
        exact tRi S hr hlk hP hS h dX8_word_55
      · have h := h.1 c2
        refine lv_aload_n (pc := 36) S.1 S.2.1 dX8_word_36 rfl (lv_at hl 0 rfl) ?_
        refine tp_get (pc := 37) S E.1 hP iwX8 0 (cM_mo a ca st) rfl 7 (by decide) kw_400 (v := .ref (a 2)) rfl dX8_word_37 ?_
        refine lv_iload_n (pc := 40) S.1 S.2.1 dX8_word_40 rfl (lv_at hl 2 rfl) ?_
        refine lv_aload_n (pc := 41) S.1 S.2.1 dX8_word_41 rfl (lv_at hl 0 rfl) ?_
        refine tp_get (pc := 42) S E.1 hP iwX8 0 (cM_mo a ca st) rfl 8 (by decide) kw_389 (v := .ref (a 3)) rfl dX8_word_42 ?_
        refine lv_iload_n (pc := 45) S.1 S.2.1 dX8_word_45 rfl (lv_at hl 2 rfl) ?_
        obtain ⟨hn3, h⟩ := h
        refine tp_iald (pc := 46) S E.1 hP 3 0 (cM_four a ca st (j := 1) (by decide)) rfl (j := x3.toNatClampNeg) rfl hn3 dX8_word_46 ?_
        obtain ⟨hn4, h⟩ := h
        refine tp_iast (pc := 47) S E.1 hP (cM_D E st) hS 2 0 (cM_four a ca st (j := 0) (by decide)) rfl (j := x3.toNatClampNeg) rfl hn4 (sM_four a ca st (j := 0) (by decide) _ _) dX8_word_47 (fun st1 H locs e5 hP hS => ?_)
        have h := h st1 e5
        obtain ⟨y3_2, e6⟩ : ∃ y : Int32, y = x3 + 1 := ⟨_, rfl⟩
        have h := h y3_2 e6
        refine lv_iinc (pc := 48) S.1 S.2.1 (v := y3_2) (lv' := [(3, .int y3_2), (0, .ref (a 0)), (2, .int x2)]) dX8_word_48 hl (k := 2) rfl (by rw [e6]; rfl) (by decide) rfl (fun ls hl => ?_)
        refine lv_goto (pc := 51) S.1 S.2.1 (tgt := 27) dX8_word_51 (by decide) ?_
        exact ih x2 y3_2 st1 h _ _ _ hP hS (lv_sub hl [1, 2, 0] rfl)
set_option maxHeartbeats 4000000 in
set_option maxRecDepth 100000 in
theorem mt_X8_word (l : Launch) (dC : Nat → ClassId) (dI : Nat → Nat → Nat) (a : Nat → Nat) (ca : Nat → ClassId) (tb : Nat → Nat) (sz : Nat) (x1 : Int32) (st : tSt) (post : Int32 → tSt → Prop) (h : wp_M_word x1 st post) : Met l yX8_word (.code yX8_word cX8_word 4 (some .int) :: tWALL) rmX8_word (va_Pc [.ref (a 0), .int x1] (tPre 21 (cwM a ca) dC dI a ca tb sz st)) (va_Qi post (tB (cwM a ca) dC dI) (tA 21 a sz)) 0 0 (tA 21 a sz) := by
  refine tp_met (by decide) (Nat.le_of_ble_eq_true rfl) ?_
  intro p e s m below meth c ls S hr hlk hsz E hP hl
  subst hsz
  have S : CallFix p m c cX8_word 4 s _ (.code yX8_word cX8_word 4 (some .int) :: tWALL) RX8 := S
  have hl : lv_has ls 4 [(0, .ref (a 0)), (1, .int x1)] := hl
  have hS : va_S (tA 21 a s.heap.size) s.heap s.heap [] := va_S.rf
  show W p l e _ s m _ below meth c s.heap [] 0 0 (tQi (cwM a ca) 21 dC dI a ([.ref (a 0), .int x1] : List Value).toArray below s post) (F0 m 0 ls [])
  refine lv_iload_n (pc := 0) S.1 S.2.1 dX8_word_0 rfl (lv_at hl 1 rfl) ?_
  refine lv_if_lt (pc := 1) (tgt := 12) S.1 S.2.1 dX8_word_1 (by decide) (fun c1 => ?_) (fun c1 => ?_)
  · have h := h.1 c1
    refine lv_iconst (pc := 12) S.1 S.2.1 (v := (-1)) dX8_word_12 (by decide) ?_
    exact tRi S hr hlk hP hS h dX8_word_13
  · have h := h.2 c1
    refine lv_iload_n (pc := 4) S.1 S.2.1 dX8_word_4 rfl (lv_at hl 1 rfl) ?_
    refine lv_aload_n (pc := 5) S.1 S.2.1 dX8_word_5 rfl (lv_at hl 0 rfl) ?_
    refine tp_get (pc := 6) S E.1 hP iwX8 0 (cM_mo a ca st) rfl 1 (by decide) kw_377 (v := .int (st 0 0)) rfl dX8_word_6 ?_
    refine lv_icmp_le (pc := 9) (tgt := 14) S.1 S.2.1 dX8_word_9 (by decide) (fun c2 => ?_) (fun c2 => ?_)
    · have h := h.1 c2
      refine lv_aload_n (pc := 14) S.1 S.2.1 dX8_word_14 rfl (lv_at hl 0 rfl) ?_
      refine lv_iconst (pc := 15) S.1 S.2.1 (v := 0) dX8_word_15 (by decide) ?_
      refine tp_put (pc := 16) S E.1 hP (cM_D E st) hS iwX8 tyX8 tyX8_ok nmX8 0 (cM_mo a ca st) rfl 1 (by decide) kw_377 rfl (v := .int (0 : Int32)) (tyX8_ok 1 (by decide)) rfl rfl (Nat.le_of_ble_eq_true rfl) (sM_mo_taped a ca st _) dX8_word_16 (fun st1 H locs e3 hP hS => ?_)
      have h := h st1 e3
      refine lv_aload_n (pc := 19) S.1 S.2.1 dX8_word_19 rfl (lv_at hl 0 rfl) ?_
      refine lv_iload_n (pc := 20) S.1 S.2.1 dX8_word_20 rfl (lv_at hl 1 rfl) ?_
      refine tGi hS (tRunV (pc := 21) (As := [.int x1]) (rest := []) S E hP hS (mt_X8_reads l dC dI a ca tb _ x1 st1 _ h) (cw_X8_reads ⟨Nat.le_of_ble_eq_true rfl, Nat.le_of_ble_eq_true rfl⟩) kw_401 kw_402 kw_403 0 8 rfl rfl (cM_mo a ca st1) rfl hl.1 rfl (Nat.le_of_ble_eq_true rfl) dX8_word_21) (fun r3 st2 H locs h hP hS => ?_)
      refine lv_istore_n (pc := 24) S.1 S.2.1 (lv' := [(2, .int r3), (0, .ref (a 0)), (1, .int x1)]) dX8_word_24 rfl hl (by decide) rfl (fun ls hl => ?_)
      refine lv_iconst (pc := 25) S.1 S.2.1 (v := 0) dX8_word_25 (by decide) ?_
      refine lv_istore_n (pc := 26) S.1 S.2.1 (lv' := [(3, .int (0 : Int32)), (2, .int r3), (0, .ref (a 0)), (1, .int x1)]) dX8_word_26 rfl hl (by decide) rfl (fun ls hl => ?_)
      exact (fun x2 x3 st h => Exists.elim h (fun q h => wk_X8_word_27 S hr hlk E post  q x2 x3 st h)) r3 (0 : Int32) st2 h _ _ _ hP hS (lv_sub hl [2, 1, 0] rfl)
    · have h := h.2 c2
      refine lv_iconst (pc := 12) S.1 S.2.1 (v := (-1)) dX8_word_12 (by decide) ?_
      exact tRi S hr hlk hP hS h dX8_word_13

abbrev rmX8_isPiper : Room := { frames := 1, cells := 0, slots := 0, locals := 22 }
theorem cw_X8_isPiper {R : Room} {own : String} {index : Nat} (h : rmX8_isPiper.frames + 1 ≤ R.frames ∧ 8 + (2 + 11) + rmX8_isPiper.locals ≤ R.locals) : tCw R own index yX8_isPiper cX8_isPiper 2 (some .boolean) rmX8_isPiper 1 := ⟨kw_406, kw_373, ⟨rfl, rfl, h.1, h.2⟩, by decide +kernel, by decide +kernel, by decide +kernel⟩

set_option maxHeartbeats 4000000 in
set_option maxRecDepth 100000 in
theorem mt_X8_isPiper (l : Launch) (dC : Nat → ClassId) (dI : Nat → Nat → Nat) (a : Nat → Nat) (ca : Nat → ClassId) (tb : Nat → Nat) (sz : Nat) (x1 : Int32) (st : tSt) (post : Int32 → tSt → Prop) (h : wp_M_isPiper x1 st post) : Met l yX8_isPiper (.code yX8_isPiper cX8_isPiper 2 (some .boolean) :: tWALL) rmX8_isPiper (va_Pc [.ref (a 0), .int x1] (tPre 21 (cwM a ca) dC dI a ca tb sz st)) (va_Qi post (tB (cwM a ca) dC dI) (tA 21 a sz)) 0 0 (tA 21 a sz) := by
  refine tp_met (by decide) (Nat.le_of_ble_eq_true rfl) ?_
  intro p e s m below meth c ls S hr hlk hsz E hP hl
  subst hsz
  have S : CallFix p m c cX8_isPiper 2 s _ (.code yX8_isPiper cX8_isPiper 2 (some .boolean) :: tWALL) RX8 := S
  have hl : lv_has ls 2 [(0, .ref (a 0)), (1, .int x1)] := hl
  have hS : va_S (tA 21 a s.heap.size) s.heap s.heap [] := va_S.rf
  show W p l e _ s m _ below meth c s.heap [] 0 0 (tQi (cwM a ca) 21 dC dI a ([.ref (a 0), .int x1] : List Value).toArray below s post) (F0 m 0 ls [])
  refine lv_iload_n (pc := 0) S.1 S.2.1 dX8_isPiper_0 rfl (lv_at hl 1 rfl) ?_
  refine lv_iconst (pc := 1) S.1 S.2.1 (v := 0) dX8_isPiper_1 (by decide) ?_
  refine lv_aload_n (pc := 2) S.1 S.2.1 dX8_isPiper_2 rfl (lv_at hl 0 rfl) ?_
  refine tp_get (pc := 3) S E.1 hP iwX8 0 (cM_mo a ca st) rfl 3 (by decide) kw_405 (v := .int (st 2 0)) rfl dX8_isPiper_3 ?_
  refine lv_iconst (pc := 6) S.1 S.2.1 (v := 1) dX8_isPiper_6 (by decide) ?_
  refine lv_isub (pc := 7) S.1 S.2.1 dX8_isPiper_7 ?_
  refine tGi hS (tRunS (pc := 8) (As := [.int x1, .int (0 : Int32), .int ((st 2 0) - (1 : Int32))]) (rest := []) S E hP hS (mt_X8_lies l dC dI a ca tb _ x1 (0 : Int32) ((st 2 0) - (1 : Int32)) st _ h) (cw_X8_lies ⟨Nat.le_of_ble_eq_true rfl, Nat.le_of_ble_eq_true rfl⟩) kw_394 kw_393 rfl hl.1 rfl (Nat.le_of_ble_eq_true rfl) dX8_isPiper_8) (fun r2 st1 H locs h hP hS => ?_)
  obtain ⟨hn1, h⟩ := h
  exact tRz S hr hlk hP hS hn1 h dX8_isPiper_11

abbrev rmX8_piper : Room := { frames := 1, cells := 0, slots := 0, locals := 22 }
theorem cw_X8_piper {R : Room} {own : String} {index : Nat} (h : rmX8_piper.frames + 1 ≤ R.frames ∧ 8 + (3 + 11) + rmX8_piper.locals ≤ R.locals) : tCw R own index yX8_piper cX8_piper 3 (some .int) rmX8_piper 2 := ⟨kw_409, kw_373, ⟨rfl, rfl, h.1, h.2⟩, by decide +kernel, by decide +kernel, by decide +kernel⟩

set_option maxHeartbeats 4000000 in
set_option maxRecDepth 100000 in
theorem mt_X8_piper (l : Launch) (dC : Nat → ClassId) (dI : Nat → Nat → Nat) (a : Nat → Nat) (ca : Nat → ClassId) (tb : Nat → Nat) (sz : Nat) (x1 : Int32) (x2 : Int32) (st : tSt) (post : Int32 → tSt → Prop) (h : wp_M_piper x1 x2 st post) : Met l yX8_piper (.code yX8_piper cX8_piper 3 (some .int) :: tWALL) rmX8_piper (va_Pc [.ref (a 0), .int x1, .int x2] (tPre 21 (cwM a ca) dC dI a ca tb sz st)) (va_Qi post (tB (cwM a ca) dC dI) (tA 21 a sz)) 0 0 (tA 21 a sz) := by
  refine tp_met (by decide) (Nat.le_of_ble_eq_true rfl) ?_
  intro p e s m below meth c ls S hr hlk hsz E hP hl
  subst hsz
  have S : CallFix p m c cX8_piper 3 s _ (.code yX8_piper cX8_piper 3 (some .int) :: tWALL) RX8 := S
  have hl : lv_has ls 3 [(0, .ref (a 0)), (1, .int x1), (2, .int x2)] := hl
  have hS : va_S (tA 21 a s.heap.size) s.heap s.heap [] := va_S.rf
  show W p l e _ s m _ below meth c s.heap [] 0 0 (tQi (cwM a ca) 21 dC dI a ([.ref (a 0), .int x1, .int x2] : List Value).toArray below s post) (F0 m 0 ls [])
  refine lv_aload_n (pc := 0) S.1 S.2.1 dX8_piper_0 rfl (lv_at hl 0 rfl) ?_
  refine tp_get (pc := 1) S E.1 hP iwX8 0 (cM_mo a ca st) rfl 3 (by decide) kw_405 (v := .int (st 2 0)) rfl dX8_piper_1 ?_
  refine lv_bipush (pc := 4) S.1 S.2.1 (v := 6) dX8_piper_4 (by decide) ?_
  refine lv_icmp_eq (pc := 6) (tgt := 29) S.1 S.2.1 dX8_piper_6 (by decide) (fun c1 => ?_) (fun c1 => ?_)
  · have h := h.1 c1
    refine lv_iconst (pc := 29) S.1 S.2.1 (v := (-1)) dX8_piper_29 (by decide) ?_
    exact tRi S hr hlk hP hS h dX8_piper_30
  · have h := h.2 c1
    refine lv_iload_n (pc := 9) S.1 S.2.1 dX8_piper_9 rfl (lv_at hl 1 rfl) ?_
    refine lv_iconst (pc := 10) S.1 S.2.1 (v := 1) dX8_piper_10 (by decide) ?_
    refine lv_bipush (pc := 11) S.1 S.2.1 (v := 9) dX8_piper_11 (by decide) ?_
    refine tGi hS (tRunS (pc := 13) (As := [.int x1, .int (1 : Int32), .int (9 : Int32)]) (rest := []) S E hP hS (mt_X8_lies l dC dI a ca tb _ x1 (1 : Int32) (9 : Int32) st _ h) (cw_X8_lies ⟨Nat.le_of_ble_eq_true rfl, Nat.le_of_ble_eq_true rfl⟩) kw_394 kw_393 rfl hl.1 rfl (Nat.le_of_ble_eq_true rfl) dX8_piper_13) (fun r2 st1 H locs h hP hS => ?_)
    refine lv_if_eq (pc := 16) (tgt := 29) S.1 S.2.1 dX8_piper_16 (by decide) (fun c2 => ?_) (fun c2 => ?_)
    · have h := h.1 c2
      refine lv_iconst (pc := 29) S.1 S.2.1 (v := (-1)) dX8_piper_29 (by decide) ?_
      exact tRi S hr hlk hP hS h dX8_piper_30
    · have h := h.2 c2
      refine lv_iload_n (pc := 19) S.1 S.2.1 dX8_piper_19 rfl (lv_at hl 2 rfl) ?_
      refine lv_iconst (pc := 20) S.1 S.2.1 (v := 1) dX8_piper_20 (by decide) ?_
      refine lv_bipush (pc := 21) S.1 S.2.1 (v := 31) dX8_piper_21 (by decide) ?_
      refine tGi hS (tRunS (pc := 23) (As := [.int x2, .int (1 : Int32), .int (31 : Int32)]) (rest := []) S E hP hS (mt_X8_lies l dC dI a ca tb _ x2 (1 : Int32) (31 : Int32) st1 _ h) (cw_X8_lies ⟨Nat.le_of_ble_eq_true rfl, Nat.le_of_ble_eq_true rfl⟩) kw_394 kw_393 rfl hl.1 rfl (Nat.le_of_ble_eq_true rfl) dX8_piper_23) (fun r4 st3 H locs h hP hS => ?_)
      refine lv_if_ne (pc := 26) (tgt := 31) S.1 S.2.1 dX8_piper_26 (by decide) (fun c3 => ?_) (fun c3 => ?_)
      · have h := h.2 c3
        refine lv_aload_n (pc := 31) S.1 S.2.1 dX8_piper_31 rfl (lv_at hl 0 rfl) ?_
        refine tp_get (pc := 32) S E.1 hP iwX8 0 (cM_mo a ca st3) rfl 9 (by decide) kw_407 (v := .ref (a 4)) rfl dX8_piper_32 ?_
        refine lv_aload_n (pc := 35) S.1 S.2.1 dX8_piper_35 rfl (lv_at hl 0 rfl) ?_
        refine tp_get (pc := 36) S E.1 hP iwX8 0 (cM_mo a ca st3) rfl 3 (by decide) kw_405 (v := .int (st3 2 0)) rfl dX8_piper_36 ?_
        refine lv_iload_n (pc := 39) S.1 S.2.1 dX8_piper_39 rfl (lv_at hl 1 rfl) ?_
        obtain ⟨hn4, h⟩ := h
        refine tp_iast (pc := 40) S E.1 hP (cM_D E st3) hS 4 0 (cM_rank a ca st3) rfl (j := (st3 2 0).toNatClampNeg) rfl hn4 (sM_rank a ca st3 _ _) dX8_piper_40 (fun st5 H locs e5 hP hS => ?_)
        have h := h st5 e5
        refine lv_aload_n (pc := 41) S.1 S.2.1 dX8_piper_41 rfl (lv_at hl 0 rfl) ?_
        refine tp_get (pc := 42) S E.1 hP iwX8 0 (cM_mo a ca st5) rfl 10 (by decide) kw_408 (v := .ref (a 5)) rfl dX8_piper_42 ?_
        refine lv_aload_n (pc := 45) S.1 S.2.1 dX8_piper_45 rfl (lv_at hl 0 rfl) ?_
        refine tp_get (pc := 46) S E.1 hP iwX8 0 (cM_mo a ca st5) rfl 3 (by decide) kw_405 (v := .int (st5 2 0)) rfl dX8_piper_46 ?_
        refine lv_iload_n (pc := 49) S.1 S.2.1 dX8_piper_49 rfl (lv_at hl 2 rfl) ?_
        obtain ⟨hn6, h⟩ := h
        refine tp_iast (pc := 50) S E.1 hP (cM_D E st5) hS 5 0 (cM_plays a ca st5) rfl (j := (st5 2 0).toNatClampNeg) rfl hn6 (sM_plays a ca st5 _ _) dX8_piper_50 (fun st6 H locs e7 hP hS => ?_)
        have h := h st6 e7
        refine lv_aload_n (pc := 51) S.1 S.2.1 dX8_piper_51 rfl (lv_at hl 0 rfl) ?_
        refine lv_dup (pc := 52) S.1 S.2.1 dX8_piper_52 rfl ?_
        refine tp_get (pc := 53) S E.1 hP iwX8 0 (cM_mo a ca st6) rfl 3 (by decide) kw_405 (v := .int (st6 2 0)) rfl dX8_piper_53 ?_
        refine lv_iconst (pc := 56) S.1 S.2.1 (v := 1) dX8_piper_56 (by decide) ?_
        refine lv_iadd (pc := 57) S.1 S.2.1 dX8_piper_57 ?_
        refine tp_put (pc := 58) S E.1 hP (cM_D E st6) hS iwX8 tyX8 tyX8_ok nmX8 0 (cM_mo a ca st6) rfl 3 (by decide) kw_405 rfl (v := .int ((st6 2 0) + (1 : Int32))) (tyX8_ok 3 (by decide)) rfl rfl (Nat.le_of_ble_eq_true rfl) (sM_mo_pipers a ca st6 _) dX8_piper_58 (fun st7 H locs e8 hP hS => ?_)
        have h := h st7 e8
        refine lv_aload_n (pc := 61) S.1 S.2.1 dX8_piper_61 rfl (lv_at hl 0 rfl) ?_
        refine tp_get (pc := 62) S E.1 hP iwX8 0 (cM_mo a ca st7) rfl 3 (by decide) kw_405 (v := .int (st7 2 0)) rfl dX8_piper_62 ?_
        refine lv_iconst (pc := 65) S.1 S.2.1 (v := 1) dX8_piper_65 (by decide) ?_
        refine lv_isub (pc := 66) S.1 S.2.1 dX8_piper_66 ?_
        exact tRi S hr hlk hP hS h dX8_piper_67
      · have h := h.1 c3
        refine lv_iconst (pc := 29) S.1 S.2.1 (v := (-1)) dX8_piper_29 (by decide) ?_
        exact tRi S hr hlk hP hS h dX8_piper_30

abbrev rmX8_ill : Room := { frames := 2, cells := 0, slots := 0, locals := 43 }
theorem cw_X8_ill {R : Room} {own : String} {index : Nat} (h : rmX8_ill.frames + 1 ≤ R.frames ∧ 8 + (3 + 11) + rmX8_ill.locals ≤ R.locals) : tCw R own index yX8_ill cX8_ill 3 (some .boolean) rmX8_ill 2 := ⟨kw_414, kw_373, ⟨rfl, rfl, h.1, h.2⟩, by decide +kernel, by decide +kernel, by decide +kernel⟩
set_option maxHeartbeats 4000000 in
set_option maxRecDepth 100000 in
theorem wk_X8_ill_53 {p : Program} {l : Launch} {e : Env} {s : State} {m : MethodId} {args : Array Value} {below : List Frame} {meth : Method} {c : Code} {dC : Nat → ClassId} {dI : Nat → Nat → Nat} {a : Nat → Nat} {ca : Nat → ClassId} {tb : Nat → Nat} {w0 : Cond} (S : CallFix p m c cX8_ill 3 s args (w0 :: tWALL) RX8) (hr : meth.sig.returnType = (some .boolean)) (hlk : meth.locks = false) (E : tEnv 21 dC dI a ca tb s) (post : Int32 → tSt → Prop) : ∀ (s1 : Int32) (s2 : Int32) (st : tSt), wp_M_ill_53 post s1 s2 st → tAt p l e rmX8_ill s m args below meth c (dC, dI) (cwM a ca) (tA 21 a s.heap.size) (tQi (cwM a ca) 21 dC dI a args below s post) 3 53 [] [.int s2, .int s1, .ref (a 6)] st := by
  intro s1 s2 st h H locs ls hP hS hl
  obtain ⟨hn1, h⟩ := h
  refine tp_iast (pc := 53) S E.1 hP (cM_D E st) hS 6 0 (cM_how a ca st) rfl (j := s1.toNatClampNeg) rfl hn1 (sM_how a ca st _ _) dX8_ill_53 (fun st1 H locs e2 hP hS => ?_)
  have h := h st1 e2
  refine lv_iconst (pc := 54) S.1 S.2.1 (v := 1) dX8_ill_54 (by decide) ?_
  exact tRz S hr hlk hP hS (Or.inr rfl) h dX8_ill_55
set_option maxHeartbeats 4000000 in
set_option maxRecDepth 100000 in
theorem wk_X8_ill_33 {p : Program} {l : Launch} {e : Env} {s : State} {m : MethodId} {args : Array Value} {below : List Frame} {meth : Method} {c : Code} {dC : Nat → ClassId} {dI : Nat → Nat → Nat} {a : Nat → Nat} {ca : Nat → ClassId} {tb : Nat → Nat} {w0 : Cond} (S : CallFix p m c cX8_ill 3 s args (w0 :: tWALL) RX8) (hr : meth.sig.returnType = (some .boolean)) (hlk : meth.locks = false) (E : tEnv 21 dC dI a ca tb s) (post : Int32 → tSt → Prop) : ∀ (x1 : Int32) (x2 : Int32) (s0 : Int32) (st : tSt), wp_M_ill_33 post x1 x2 s0 st → tAt p l e rmX8_ill s m args below meth c (dC, dI) (cwM a ca) (tA 21 a s.heap.size) (tQi (cwM a ca) 21 dC dI a args below s post) 3 33 [(0, .ref (a 0)), (1, .int x1), (2, .int x2)] [.int s0] st := by
  intro x1 x2 s0 st h H locs ls hP hS hl
  refine lv_iload_n (pc := 33) S.1 S.2.1 dX8_ill_33 rfl (lv_at hl 2 rfl) ?_
  refine lv_icmp_ne (pc := 34) (tgt := 39) S.1 S.2.1 dX8_ill_34 (by decide) (fun c1 => ?_) (fun c1 => ?_)
  · have h := h.2 c1
    refine lv_aload_n (pc := 39) S.1 S.2.1 dX8_ill_39 rfl (lv_at hl 0 rfl) ?_
    refine tp_get (pc := 40) S E.1 hP iwX8 0 (cM_mo a ca st) rfl 11 (by decide) kw_410 (v := .ref (a 6)) rfl dX8_ill_40 ?_
    refine lv_iload_n (pc := 43) S.1 S.2.1 dX8_ill_43 rfl (lv_at hl 1 rfl) ?_
    refine lv_iload_n (pc := 44) S.1 S.2.1 dX8_ill_44 rfl (lv_at hl 2 rfl) ?_
    refine lv_if_eq (pc := 45) (tgt := 52) S.1 S.2.1 dX8_ill_45 (by decide) (fun c2 => ?_) (fun c2 => ?_)
    · have h := h.1 c2
      refine lv_iconst (pc := 52) S.1 S.2.1 (v := 0) dX8_ill_52 (by decide) ?_
      exact (fun s1 s2 st h => wk_X8_ill_53 S hr hlk E post  s1 s2 st h) x1 (0 : Int32) st h _ _ _ hP hS (lv_sub hl [] rfl)
    · have h := h.2 c2
      refine lv_iconst (pc := 48) S.1 S.2.1 (v := 1) dX8_ill_48 (by decide) ?_
      refine lv_goto (pc := 49) S.1 S.2.1 (tgt := 53) dX8_ill_49 (by decide) ?_
      exact (fun s1 s2 st h => wk_X8_ill_53 S hr hlk E post  s1 s2 st h) x1 (1 : Int32) st h _ _ _ hP hS (lv_sub hl [] rfl)
  · have h := h.1 c1
    refine lv_iconst (pc := 37) S.1 S.2.1 (v := 0) dX8_ill_37 (by decide) ?_
    exact tRz S hr hlk hP hS (Or.inl rfl) h dX8_ill_38
set_option maxHeartbeats 4000000 in
set_option maxRecDepth 100000 in
theorem mt_X8_ill (l : Launch) (dC : Nat → ClassId) (dI : Nat → Nat → Nat) (a : Nat → Nat) (ca : Nat → ClassId) (tb : Nat → Nat) (sz : Nat) (x1 : Int32) (x2 : Int32) (st : tSt) (post : Int32 → tSt → Prop) (h : wp_M_ill x1 x2 st post) : Met l yX8_ill (.code yX8_ill cX8_ill 3 (some .boolean) :: tWALL) rmX8_ill (va_Pc [.ref (a 0), .int x1, .int x2] (tPre 21 (cwM a ca) dC dI a ca tb sz st)) (va_Qi post (tB (cwM a ca) dC dI) (tA 21 a sz)) 0 0 (tA 21 a sz) := by
  refine tp_met (by decide) (Nat.le_of_ble_eq_true rfl) ?_
  intro p e s m below meth c ls S hr hlk hsz E hP hl
  subst hsz
  have S : CallFix p m c cX8_ill 3 s _ (.code yX8_ill cX8_ill 3 (some .boolean) :: tWALL) RX8 := S
  have hl : lv_has ls 3 [(0, .ref (a 0)), (1, .int x1), (2, .int x2)] := hl
  have hS : va_S (tA 21 a s.heap.size) s.heap s.heap [] := va_S.rf
  show W p l e _ s m _ below meth c s.heap [] 0 0 (tQi (cwM a ca) 21 dC dI a ([.ref (a 0), .int x1, .int x2] : List Value).toArray below s post) (F0 m 0 ls [])
  refine lv_aload_n (pc := 0) S.1 S.2.1 dX8_ill_0 rfl (lv_at hl 0 rfl) ?_
  refine lv_iload_n (pc := 1) S.1 S.2.1 dX8_ill_1 rfl (lv_at hl 1 rfl) ?_
  refine tGi hS (tRunV (pc := 2) (As := [.int x1]) (rest := []) S E hP hS (mt_X8_isPiper l dC dI a ca tb _ x1 st _ h) (cw_X8_isPiper ⟨Nat.le_of_ble_eq_true rfl, Nat.le_of_ble_eq_true rfl⟩) kw_411 kw_412 kw_413 0 8 rfl rfl (cM_mo a ca st) rfl hl.1 rfl (Nat.le_of_ble_eq_true rfl) dX8_ill_2) (fun r2 st1 H locs h hP hS => ?_)
  refine lv_if_eq (pc := 5) (tgt := 37) S.1 S.2.1 dX8_ill_5 (by decide) (fun c1 => ?_) (fun c1 => ?_)
  · have h := h.1 c1
    refine lv_iconst (pc := 37) S.1 S.2.1 (v := 0) dX8_ill_37 (by decide) ?_
    exact tRz S hr hlk hP hS (Or.inl rfl) h dX8_ill_38
  · have h := h.2 c1
    refine lv_aload_n (pc := 8) S.1 S.2.1 dX8_ill_8 rfl (lv_at hl 0 rfl) ?_
    refine tp_get (pc := 9) S E.1 hP iwX8 0 (cM_mo a ca st1) rfl 11 (by decide) kw_410 (v := .ref (a 6)) rfl dX8_ill_9 ?_
    refine lv_iload_n (pc := 12) S.1 S.2.1 dX8_ill_12 rfl (lv_at hl 1 rfl) ?_
    obtain ⟨hn2, h⟩ := h
    refine tp_iald (pc := 13) S E.1 hP 6 0 (cM_how a ca st1) rfl (j := x1.toNatClampNeg) rfl hn2 dX8_ill_13 ?_
    refine lv_iconst (pc := 14) S.1 S.2.1 (v := 2) dX8_ill_14 (by decide) ?_
    refine lv_icmp_eq (pc := 15) (tgt := 37) S.1 S.2.1 dX8_ill_15 (by decide) (fun c3 => ?_) (fun c3 => ?_)
    · have h := h.1 c3
      refine lv_iconst (pc := 37) S.1 S.2.1 (v := 0) dX8_ill_37 (by decide) ?_
      exact tRz S hr hlk hP hS (Or.inl rfl) h dX8_ill_38
    · have h := h.2 c3
      refine lv_aload_n (pc := 18) S.1 S.2.1 dX8_ill_18 rfl (lv_at hl 0 rfl) ?_
      refine tp_get (pc := 19) S E.1 hP iwX8 0 (cM_mo a ca st1) rfl 11 (by decide) kw_410 (v := .ref (a 6)) rfl dX8_ill_19 ?_
      refine lv_iload_n (pc := 22) S.1 S.2.1 dX8_ill_22 rfl (lv_at hl 1 rfl) ?_
      obtain ⟨hn4, h⟩ := h
      refine tp_iald (pc := 23) S E.1 hP 6 0 (cM_how a ca st1) rfl (j := x1.toNatClampNeg) rfl hn4 dX8_ill_23 ?_
      refine lv_iconst (pc := 24) S.1 S.2.1 (v := 1) dX8_ill_24 (by decide) ?_
      refine lv_icmp_ne (pc := 25) (tgt := 32) S.1 S.2.1 dX8_ill_25 (by decide) (fun c5 => ?_) (fun c5 => ?_)
      · have h := h.2 c5
        refine lv_iconst (pc := 32) S.1 S.2.1 (v := 0) dX8_ill_32 (by decide) ?_
        exact (fun x1 x2 s0 st h => wk_X8_ill_33 S hr hlk E post  x1 x2 s0 st h) x1 x2 (0 : Int32) st1 h _ _ _ hP hS (lv_sub hl [0, 1, 2] rfl)
      · have h := h.1 c5
        refine lv_iconst (pc := 28) S.1 S.2.1 (v := 1) dX8_ill_28 (by decide) ?_
        refine lv_goto (pc := 29) S.1 S.2.1 (tgt := 33) dX8_ill_29 (by decide) ?_
        exact (fun x1 x2 s0 st h => wk_X8_ill_33 S hr hlk E post  x1 x2 s0 st h) x1 x2 (1 : Int32) st1 h _ _ _ hP hS (lv_sub hl [0, 1, 2] rfl)

abbrev rmX8_old : Room := { frames := 2, cells := 0, slots := 0, locals := 43 }
theorem cw_X8_old {R : Room} {own : String} {index : Nat} (h : rmX8_old.frames + 1 ≤ R.frames ∧ 8 + (2 + 11) + rmX8_old.locals ≤ R.locals) : tCw R own index yX8_old cX8_old 2 (some .boolean) rmX8_old 1 := ⟨kw_415, kw_373, ⟨rfl, rfl, h.1, h.2⟩, by decide +kernel, by decide +kernel, by decide +kernel⟩

set_option maxHeartbeats 4000000 in
set_option maxRecDepth 100000 in
theorem mt_X8_old (l : Launch) (dC : Nat → ClassId) (dI : Nat → Nat → Nat) (a : Nat → Nat) (ca : Nat → ClassId) (tb : Nat → Nat) (sz : Nat) (x1 : Int32) (st : tSt) (post : Int32 → tSt → Prop) (h : wp_M_old x1 st post) : Met l yX8_old (.code yX8_old cX8_old 2 (some .boolean) :: tWALL) rmX8_old (va_Pc [.ref (a 0), .int x1] (tPre 21 (cwM a ca) dC dI a ca tb sz st)) (va_Qi post (tB (cwM a ca) dC dI) (tA 21 a sz)) 0 0 (tA 21 a sz) := by
  refine tp_met (by decide) (Nat.le_of_ble_eq_true rfl) ?_
  intro p e s m below meth c ls S hr hlk hsz E hP hl
  subst hsz
  have S : CallFix p m c cX8_old 2 s _ (.code yX8_old cX8_old 2 (some .boolean) :: tWALL) RX8 := S
  have hl : lv_has ls 2 [(0, .ref (a 0)), (1, .int x1)] := hl
  have hS : va_S (tA 21 a s.heap.size) s.heap s.heap [] := va_S.rf
  show W p l e _ s m _ below meth c s.heap [] 0 0 (tQi (cwM a ca) 21 dC dI a ([.ref (a 0), .int x1] : List Value).toArray below s post) (F0 m 0 ls [])
  refine lv_aload_n (pc := 0) S.1 S.2.1 dX8_old_0 rfl (lv_at hl 0 rfl) ?_
  refine lv_iload_n (pc := 1) S.1 S.2.1 dX8_old_1 rfl (lv_at hl 1 rfl) ?_
  refine tGi hS (tRunV (pc := 2) (As := [.int x1]) (rest := []) S E hP hS (mt_X8_isPiper l dC dI a ca tb _ x1 st _ h) (cw_X8_isPiper ⟨Nat.le_of_ble_eq_true rfl, Nat.le_of_ble_eq_true rfl⟩) kw_411 kw_412 kw_413 0 8 rfl rfl (cM_mo a ca st) rfl hl.1 rfl (Nat.le_of_ble_eq_true rfl) dX8_old_2) (fun r2 st1 H locs h hP hS => ?_)
  refine lv_if_eq (pc := 5) (tgt := 18) S.1 S.2.1 dX8_old_5 (by decide) (fun c1 => ?_) (fun c1 => ?_)
  · have h := h.1 c1
    refine lv_iconst (pc := 18) S.1 S.2.1 (v := 0) dX8_old_18 (by decide) ?_
    exact tRz S hr hlk hP hS (Or.inl rfl) h dX8_old_19
  · have h := h.2 c1
    refine lv_aload_n (pc := 8) S.1 S.2.1 dX8_old_8 rfl (lv_at hl 0 rfl) ?_
    refine tp_get (pc := 9) S E.1 hP iwX8 0 (cM_mo a ca st1) rfl 11 (by decide) kw_410 (v := .ref (a 6)) rfl dX8_old_9 ?_
    refine lv_iload_n (pc := 12) S.1 S.2.1 dX8_old_12 rfl (lv_at hl 1 rfl) ?_
    obtain ⟨hn2, h⟩ := h
    refine tp_iald (pc := 13) S E.1 hP 6 0 (cM_how a ca st1) rfl (j := x1.toNatClampNeg) rfl hn2 dX8_old_13 ?_
    refine lv_iconst (pc := 14) S.1 S.2.1 (v := 2) dX8_old_14 (by decide) ?_
    refine lv_icmp_ne (pc := 15) (tgt := 20) S.1 S.2.1 dX8_old_15 (by decide) (fun c3 => ?_) (fun c3 => ?_)
    · have h := h.2 c3
      refine lv_aload_n (pc := 20) S.1 S.2.1 dX8_old_20 rfl (lv_at hl 0 rfl) ?_
      refine tp_get (pc := 21) S E.1 hP iwX8 0 (cM_mo a ca st1) rfl 11 (by decide) kw_410 (v := .ref (a 6)) rfl dX8_old_21 ?_
      refine lv_iload_n (pc := 24) S.1 S.2.1 dX8_old_24 rfl (lv_at hl 1 rfl) ?_
      refine lv_iconst (pc := 25) S.1 S.2.1 (v := 2) dX8_old_25 (by decide) ?_
      obtain ⟨hn4, h⟩ := h
      refine tp_iast (pc := 26) S E.1 hP (cM_D E st1) hS 6 0 (cM_how a ca st1) rfl (j := x1.toNatClampNeg) rfl hn4 (sM_how a ca st1 _ _) dX8_old_26 (fun st3 H locs e5 hP hS => ?_)
      have h := h st3 e5
      refine lv_iconst (pc := 27) S.1 S.2.1 (v := 1) dX8_old_27 (by decide) ?_
      exact tRz S hr hlk hP hS (Or.inr rfl) h dX8_old_28
    · have h := h.1 c3
      refine lv_iconst (pc := 18) S.1 S.2.1 (v := 0) dX8_old_18 (by decide) ?_
      exact tRz S hr hlk hP hS (Or.inl rfl) h dX8_old_19

abbrev rmX8_pieces : Room := { frames := 1, cells := 0, slots := 0, locals := 22 }
theorem cw_X8_pieces {R : Room} {own : String} {index : Nat} (h : rmX8_pieces.frames + 1 ≤ R.frames ∧ 8 + (3 + 11) + rmX8_pieces.locals ≤ R.locals) : tCw R own index yX8_pieces cX8_pieces 3 (some .boolean) rmX8_pieces 2 := ⟨kw_417, kw_373, ⟨rfl, rfl, h.1, h.2⟩, by decide +kernel, by decide +kernel, by decide +kernel⟩

set_option maxHeartbeats 4000000 in
set_option maxRecDepth 100000 in
theorem mt_X8_pieces (l : Launch) (dC : Nat → ClassId) (dI : Nat → Nat → Nat) (a : Nat → Nat) (ca : Nat → ClassId) (tb : Nat → Nat) (sz : Nat) (x1 : Int32) (x2 : Int32) (st : tSt) (post : Int32 → tSt → Prop) (h : wp_M_pieces x1 x2 st post) : Met l yX8_pieces (.code yX8_pieces cX8_pieces 3 (some .boolean) :: tWALL) rmX8_pieces (va_Pc [.ref (a 0), .int x1, .int x2] (tPre 21 (cwM a ca) dC dI a ca tb sz st)) (va_Qi post (tB (cwM a ca) dC dI) (tA 21 a sz)) 0 0 (tA 21 a sz) := by
  refine tp_met (by decide) (Nat.le_of_ble_eq_true rfl) ?_
  intro p e s m below meth c ls S hr hlk hsz E hP hl
  subst hsz
  have S : CallFix p m c cX8_pieces 3 s _ (.code yX8_pieces cX8_pieces 3 (some .boolean) :: tWALL) RX8 := S
  have hl : lv_has ls 3 [(0, .ref (a 0)), (1, .int x1), (2, .int x2)] := hl
  have hS : va_S (tA 21 a s.heap.size) s.heap s.heap [] := va_S.rf
  show W p l e _ s m _ below meth c s.heap [] 0 0 (tQi (cwM a ca) 21 dC dI a ([.ref (a 0), .int x1, .int x2] : List Value).toArray below s post) (F0 m 0 ls [])
  refine lv_iload_n (pc := 0) S.1 S.2.1 dX8_pieces_0 rfl (lv_at hl 1 rfl) ?_
  refine lv_iconst (pc := 1) S.1 S.2.1 (v := 0) dX8_pieces_1 (by decide) ?_
  refine lv_iconst (pc := 2) S.1 S.2.1 (v := 4) dX8_pieces_2 (by decide) ?_
  refine tGi hS (tRunS (pc := 3) (As := [.int x1, .int (0 : Int32), .int (4 : Int32)]) (rest := []) S E hP hS (mt_X8_lies l dC dI a ca tb _ x1 (0 : Int32) (4 : Int32) st _ h) (cw_X8_lies ⟨Nat.le_of_ble_eq_true rfl, Nat.le_of_ble_eq_true rfl⟩) kw_394 kw_393 rfl hl.1 rfl (Nat.le_of_ble_eq_true rfl) dX8_pieces_3) (fun r2 st1 H locs h hP hS => ?_)
  refine lv_if_eq (pc := 6) (tgt := 18) S.1 S.2.1 dX8_pieces_6 (by decide) (fun c1 => ?_) (fun c1 => ?_)
  · have h := h.1 c1
    refine lv_iconst (pc := 18) S.1 S.2.1 (v := 0) dX8_pieces_18 (by decide) ?_
    exact tRz S hr hlk hP hS (Or.inl rfl) h dX8_pieces_19
  · have h := h.2 c1
    refine lv_iload_n (pc := 9) S.1 S.2.1 dX8_pieces_9 rfl (lv_at hl 2 rfl) ?_
    refine lv_iconst (pc := 10) S.1 S.2.1 (v := 0) dX8_pieces_10 (by decide) ?_
    refine lv_iconst (pc := 11) S.1 S.2.1 (v := 3) dX8_pieces_11 (by decide) ?_
    refine tGi hS (tRunS (pc := 12) (As := [.int x2, .int (0 : Int32), .int (3 : Int32)]) (rest := []) S E hP hS (mt_X8_lies l dC dI a ca tb _ x2 (0 : Int32) (3 : Int32) st1 _ h) (cw_X8_lies ⟨Nat.le_of_ble_eq_true rfl, Nat.le_of_ble_eq_true rfl⟩) kw_394 kw_393 rfl hl.1 rfl (Nat.le_of_ble_eq_true rfl) dX8_pieces_12) (fun r4 st3 H locs h hP hS => ?_)
    refine lv_if_ne (pc := 15) (tgt := 20) S.1 S.2.1 dX8_pieces_15 (by decide) (fun c2 => ?_) (fun c2 => ?_)
    · have h := h.2 c2
      refine lv_aload_n (pc := 20) S.1 S.2.1 dX8_pieces_20 rfl (lv_at hl 0 rfl) ?_
      refine tp_get (pc := 21) S E.1 hP iwX8 0 (cM_mo a ca st3) rfl 13 (by decide) kw_416 (v := .ref (a 8)) rfl dX8_pieces_21 ?_
      refine lv_iload_n (pc := 24) S.1 S.2.1 dX8_pieces_24 rfl (lv_at hl 1 rfl) ?_
      refine lv_iload_n (pc := 25) S.1 S.2.1 dX8_pieces_25 rfl (lv_at hl 2 rfl) ?_
      obtain ⟨hn3, h⟩ := h
      refine tp_iast (pc := 26) S E.1 hP (cM_D E st3) hS 8 0 (cM_pieces a ca st3) rfl (j := x1.toNatClampNeg) rfl hn3 (sM_pieces a ca st3 _ _) dX8_pieces_26 (fun st5 H locs e4 hP hS => ?_)
      have h := h st5 e4
      refine lv_iconst (pc := 27) S.1 S.2.1 (v := 1) dX8_pieces_27 (by decide) ?_
      exact tRz S hr hlk hP hS (Or.inr rfl) h dX8_pieces_28
    · have h := h.1 c2
      refine lv_iconst (pc := 18) S.1 S.2.1 (v := 0) dX8_pieces_18 (by decide) ?_
      exact tRz S hr hlk hP hS (Or.inl rfl) h dX8_pieces_19

abbrev rmX8_isInstrument : Room := { frames := 1, cells := 0, slots := 0, locals := 22 }
theorem cw_X8_isInstrument {R : Room} {own : String} {index : Nat} (h : rmX8_isInstrument.frames + 1 ≤ R.frames ∧ 8 + (1 + 11) + rmX8_isInstrument.locals ≤ R.locals) : tCw R own index yX8_isInstrument cX8_isInstrument 1 (some .boolean) rmX8_isInstrument 1 := ⟨kw_418, kw_373, ⟨rfl, rfl, h.1, h.2⟩, by decide +kernel, by decide +kernel, by decide +kernel⟩

set_option maxHeartbeats 4000000 in
set_option maxRecDepth 100000 in
theorem mt_X8_isInstrument (l : Launch) (dC : Nat → ClassId) (dI : Nat → Nat → Nat) (a : Nat → Nat) (ca : Nat → ClassId) (tb : Nat → Nat) (sz : Nat) (x0 : Int32) (st : tSt) (post : Int32 → tSt → Prop) (h : wp_M_isInstrument x0 st post) : Met l yX8_isInstrument (.code yX8_isInstrument cX8_isInstrument 1 (some .boolean) :: tWALL) rmX8_isInstrument (va_Pc [.int x0] (tPre 21 (cwM a ca) dC dI a ca tb sz st)) (va_Qi post (tB (cwM a ca) dC dI) (tA 21 a sz)) 0 0 (tA 21 a sz) := by
  refine tp_met (by decide) (Nat.le_of_ble_eq_true rfl) ?_
  intro p e s m below meth c ls S hr hlk hsz E hP hl
  subst hsz
  have S : CallFix p m c cX8_isInstrument 1 s _ (.code yX8_isInstrument cX8_isInstrument 1 (some .boolean) :: tWALL) RX8 := S
  have hl : lv_has ls 1 [(0, .int x0)] := hl
  have hS : va_S (tA 21 a s.heap.size) s.heap s.heap [] := va_S.rf
  show W p l e _ s m _ below meth c s.heap [] 0 0 (tQi (cwM a ca) 21 dC dI a ([.int x0] : List Value).toArray below s post) (F0 m 0 ls [])
  refine lv_iload_n (pc := 0) S.1 S.2.1 dX8_isInstrument_0 rfl (lv_at hl 0 rfl) ?_
  refine lv_iconst (pc := 1) S.1 S.2.1 (v := 0) dX8_isInstrument_1 (by decide) ?_
  refine lv_iconst (pc := 2) S.1 S.2.1 (v := 4) dX8_isInstrument_2 (by decide) ?_
  refine tGi hS (tRunS (pc := 3) (As := [.int x0, .int (0 : Int32), .int (4 : Int32)]) (rest := []) S E hP hS (mt_X8_lies l dC dI a ca tb _ x0 (0 : Int32) (4 : Int32) st _ h) (cw_X8_lies ⟨Nat.le_of_ble_eq_true rfl, Nat.le_of_ble_eq_true rfl⟩) kw_394 kw_393 rfl hl.1 rfl (Nat.le_of_ble_eq_true rfl) dX8_isInstrument_3) (fun r2 st1 H locs h hP hS => ?_)
  obtain ⟨hn1, h⟩ := h
  exact tRz S hr hlk hP hS hn1 h dX8_isInstrument_6

abbrev rmX8_isCall : Room := { frames := 1, cells := 0, slots := 0, locals := 22 }
theorem cw_X8_isCall {R : Room} {own : String} {index : Nat} (h : rmX8_isCall.frames + 1 ≤ R.frames ∧ 8 + (2 + 11) + rmX8_isCall.locals ≤ R.locals) : tCw R own index yX8_isCall cX8_isCall 2 (some .boolean) rmX8_isCall 1 := ⟨kw_420, kw_373, ⟨rfl, rfl, h.1, h.2⟩, by decide +kernel, by decide +kernel, by decide +kernel⟩

set_option maxHeartbeats 4000000 in
set_option maxRecDepth 100000 in
theorem mt_X8_isCall (l : Launch) (dC : Nat → ClassId) (dI : Nat → Nat → Nat) (a : Nat → Nat) (ca : Nat → ClassId) (tb : Nat → Nat) (sz : Nat) (x1 : Int32) (st : tSt) (post : Int32 → tSt → Prop) (h : wp_M_isCall x1 st post) : Met l yX8_isCall (.code yX8_isCall cX8_isCall 2 (some .boolean) :: tWALL) rmX8_isCall (va_Pc [.ref (a 0), .int x1] (tPre 21 (cwM a ca) dC dI a ca tb sz st)) (va_Qi post (tB (cwM a ca) dC dI) (tA 21 a sz)) 0 0 (tA 21 a sz) := by
  refine tp_met (by decide) (Nat.le_of_ble_eq_true rfl) ?_
  intro p e s m below meth c ls S hr hlk hsz E hP hl
  subst hsz
  have S : CallFix p m c cX8_isCall 2 s _ (.code yX8_isCall cX8_isCall 2 (some .boolean) :: tWALL) RX8 := S
  have hl : lv_has ls 2 [(0, .ref (a 0)), (1, .int x1)] := hl
  have hS : va_S (tA 21 a s.heap.size) s.heap s.heap [] := va_S.rf
  show W p l e _ s m _ below meth c s.heap [] 0 0 (tQi (cwM a ca) 21 dC dI a ([.ref (a 0), .int x1] : List Value).toArray below s post) (F0 m 0 ls [])
  refine lv_iload_n (pc := 0) S.1 S.2.1 dX8_isCall_0 rfl (lv_at hl 1 rfl) ?_
  refine lv_iconst (pc := 1) S.1 S.2.1 (v := 0) dX8_isCall_1 (by decide) ?_
  refine lv_iconst (pc := 2) S.1 S.2.1 (v := 5) dX8_isCall_2 (by decide) ?_
  refine tGi hS (tRunS (pc := 3) (As := [.int x1, .int (0 : Int32), .int (5 : Int32)]) (rest := []) S E hP hS (mt_X8_lies l dC dI a ca tb _ x1 (0 : Int32) (5 : Int32) st _ h) (cw_X8_lies ⟨Nat.le_of_ble_eq_true rfl, Nat.le_of_ble_eq_true rfl⟩) kw_394 kw_393 rfl hl.1 rfl (Nat.le_of_ble_eq_true rfl) dX8_isCall_3) (fun r2 st1 H locs h hP hS => ?_)
  refine lv_if_eq (pc := 6) (tgt := 26) S.1 S.2.1 dX8_isCall_6 (by decide) (fun c1 => ?_) (fun c1 => ?_)
  · have h := h.1 c1
    refine lv_iconst (pc := 26) S.1 S.2.1 (v := 0) dX8_isCall_26 (by decide) ?_
    exact tRz S hr hlk hP hS (Or.inl rfl) h dX8_isCall_27
  · have h := h.2 c1
    refine lv_aload_n (pc := 9) S.1 S.2.1 dX8_isCall_9 rfl (lv_at hl 0 rfl) ?_
    refine tp_get (pc := 10) S E.1 hP iwX8 0 (cM_mo a ca st1) rfl 14 (by decide) kw_419 (v := .ref (a 9)) rfl dX8_isCall_10 ?_
    refine lv_bipush (pc := 13) S.1 S.2.1 (v := 8) dX8_isCall_13 (by decide) ?_
    refine lv_iload_n (pc := 15) S.1 S.2.1 dX8_isCall_15 rfl (lv_at hl 1 rfl) ?_
    refine lv_imul (pc := 16) S.1 S.2.1 dX8_isCall_16 ?_
    obtain ⟨hn2, h⟩ := h
    refine tp_iald (pc := 17) S E.1 hP 9 0 (cM_call a ca st1) rfl (j := ((8 : Int32) * x1).toNatClampNeg) rfl hn2 dX8_isCall_17 ?_
    refine lv_iconst (pc := 18) S.1 S.2.1 (v := (-1)) dX8_isCall_18 (by decide) ?_
    refine lv_icmp_eq (pc := 19) (tgt := 26) S.1 S.2.1 dX8_isCall_19 (by decide) (fun c3 => ?_) (fun c3 => ?_)
    · have h := h.1 c3
      refine lv_iconst (pc := 26) S.1 S.2.1 (v := 0) dX8_isCall_26 (by decide) ?_
      exact tRz S hr hlk hP hS (Or.inl rfl) h dX8_isCall_27
    · have h := h.2 c3
      refine lv_iconst (pc := 22) S.1 S.2.1 (v := 1) dX8_isCall_22 (by decide) ?_
      refine lv_goto (pc := 23) S.1 S.2.1 (tgt := 27) dX8_isCall_23 (by decide) ?_
      exact tRz S hr hlk hP hS (Or.inr rfl) h dX8_isCall_27

abbrev rmX8_of : Room := { frames := 0, cells := 0, slots := 0, locals := 0 }
theorem cw_X8_of {R : Room} {own : String} {index : Nat} (h : rmX8_of.frames + 1 ≤ R.frames ∧ 8 + (3 + 11) + rmX8_of.locals ≤ R.locals) : tCw R own index yX8_of cX8_of 3 (some .int) rmX8_of 2 := ⟨kw_421, kw_373, ⟨rfl, rfl, h.1, h.2⟩, by decide +kernel, by decide +kernel, by decide +kernel⟩

set_option maxHeartbeats 4000000 in
set_option maxRecDepth 100000 in
theorem mt_X8_of (l : Launch) (dC : Nat → ClassId) (dI : Nat → Nat → Nat) (a : Nat → Nat) (ca : Nat → ClassId) (tb : Nat → Nat) (sz : Nat) (x1 : Int32) (x2 : Int32) (st : tSt) (post : Int32 → tSt → Prop) (h : wp_M_of x1 x2 st post) : Met l yX8_of (.code yX8_of cX8_of 3 (some .int) :: tWALL) rmX8_of (va_Pc [.ref (a 0), .int x1, .int x2] (tPre 21 (cwM a ca) dC dI a ca tb sz st)) (va_Qi post (tB (cwM a ca) dC dI) (tA 21 a sz)) 0 0 (tA 21 a sz) := by
  refine tp_met (by decide) (Nat.le_of_ble_eq_true rfl) ?_
  intro p e s m below meth c ls S hr hlk hsz E hP hl
  subst hsz
  have S : CallFix p m c cX8_of 3 s _ (.code yX8_of cX8_of 3 (some .int) :: tWALL) RX8 := S
  have hl : lv_has ls 3 [(0, .ref (a 0)), (1, .int x1), (2, .int x2)] := hl
  have hS : va_S (tA 21 a s.heap.size) s.heap s.heap [] := va_S.rf
  show W p l e _ s m _ below meth c s.heap [] 0 0 (tQi (cwM a ca) 21 dC dI a ([.ref (a 0), .int x1, .int x2] : List Value).toArray below s post) (F0 m 0 ls [])
  refine lv_aload_n (pc := 0) S.1 S.2.1 dX8_of_0 rfl (lv_at hl 0 rfl) ?_
  refine tp_get (pc := 1) S E.1 hP iwX8 0 (cM_mo a ca st) rfl 14 (by decide) kw_419 (v := .ref (a 9)) rfl dX8_of_1 ?_
  refine lv_bipush (pc := 4) S.1 S.2.1 (v := 8) dX8_of_4 (by decide) ?_
  refine lv_iload_n (pc := 6) S.1 S.2.1 dX8_of_6 rfl (lv_at hl 1 rfl) ?_
  refine lv_imul (pc := 7) S.1 S.2.1 dX8_of_7 ?_
  refine lv_iload_n (pc := 8) S.1 S.2.1 dX8_of_8 rfl (lv_at hl 2 rfl) ?_
  refine lv_iadd (pc := 9) S.1 S.2.1 dX8_of_9 ?_
  obtain ⟨hn1, h⟩ := h
  refine tp_iald (pc := 10) S E.1 hP 9 0 (cM_call a ca st) rfl (j := (((8 : Int32) * x1) + x2).toNatClampNeg) rfl hn1 dX8_of_10 ?_
  exact tRi S hr hlk hP hS h dX8_of_11
