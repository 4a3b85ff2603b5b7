abbrev rmX8_call : Room := { frames := 2, cells := 0, slots := 0, locals := 43 }
theorem cw_X8_call {R : Room} {own : String} {index : Nat} (h : rmX8_call.frames + 1 ≤ R.frames ∧ 8 + (10 + 11) + rmX8_call.locals ≤ R.locals) : tCw R own index yX8_call cX8_call 10 (some .int) rmX8_call 8 := ⟨kw_427, kw_373, ⟨rfl, rfl, h.1, h.2⟩, by decide +kernel, by decide +kernel, by decide +kernel⟩
set_option maxHeartbeats 4000000 in
set_option maxRecDepth 100000 in
theorem wk_X8_call_116 {p : Program} {l : Launch} {e : Env} {s : State} {m : MethodId} {args : Array Value} {below : List Frame} {meth : Method} {c : Code} {dC : Nat → ClassId} {dI : Nat → Nat → Nat} {a : Nat → Nat} {ca : Nat → ClassId} {tb : Nat → Nat} {w0 : Cond} (S : CallFix p m c cX8_call 10 s args (w0 :: tWALL) RX8) (hr : meth.sig.returnType = (some .int)) (hlk : meth.locks = false) (E : tEnv 21 dC dI a ca tb s) (post : Int32 → tSt → Prop) : ∀ (x1 : Int32) (x2 : Int32) (x3 : Int32) (x4 : Int32) (x5 : Int32) (x6 : Int32) (x7 : Int32) (x8 : Int32) (x9 : Int32) (st : tSt), wp_M_call_116 post x1 x2 x3 x4 x5 x6 x7 x8 x9 st → tAt p l e rmX8_call s m args below meth c (dC, dI) (cwM a ca) (tA 21 a s.heap.size) (tQi (cwM a ca) 21 dC dI a args below s post) 10 116 [(0, .ref (a 0)), (1, .int x1), (2, .int x2), (3, .int x3), (4, .int x4), (5, .int x5), (6, .int x6), (7, .int x7), (8, .int x8), (9, .int x9)] [] st := by
  intro x1 x2 x3 x4 x5 x6 x7 x8 x9 st h H locs ls hP hS hl
  refine lv_aload_n (pc := 116) S.1 S.2.1 dX8_call_116 rfl (lv_at hl 0 rfl) ?_
  refine tp_get (pc := 117) S E.1 hP iwX8 0 (cM_mo a ca st) rfl 14 (by decide) kw_419 (v := .ref (a 9)) rfl dX8_call_117 ?_
  refine lv_bipush (pc := 120) S.1 S.2.1 (v := 8) dX8_call_120 (by decide) ?_
  refine lv_iload (pc := 122) S.1 S.2.1 dX8_call_122 (lv_at hl 9 rfl) ?_
  refine lv_imul (pc := 124) S.1 S.2.1 dX8_call_124 ?_
  refine lv_iload_n (pc := 125) S.1 S.2.1 dX8_call_125 rfl (lv_at hl 1 rfl) ?_
  obtain ⟨hn1, h⟩ := h
  refine tp_iast (pc := 126) S E.1 hP (cM_D E st) hS 9 0 (cM_call a ca st) rfl (j := ((8 : Int32) * x9).toNatClampNeg) rfl hn1 (sM_call a ca st _ _) dX8_call_126 (fun st1 H locs e2 hP hS => ?_)
  have h := h st1 e2
  refine lv_aload_n (pc := 127) S.1 S.2.1 dX8_call_127 rfl (lv_at hl 0 rfl) ?_
  refine tp_get (pc := 128) S E.1 hP iwX8 0 (cM_mo a ca st1) rfl 14 (by decide) kw_419 (v := .ref (a 9)) rfl dX8_call_128 ?_
  refine lv_bipush (pc := 131) S.1 S.2.1 (v := 8) dX8_call_131 (by decide) ?_
  refine lv_iload (pc := 133) S.1 S.2.1 dX8_call_133 (lv_at hl 9 rfl) ?_
  refine lv_imul (pc := 135) S.1 S.2.1 dX8_call_135 ?_
  refine lv_iconst (pc := 136) S.1 S.2.1 (v := 1) dX8_call_136 (by decide) ?_
  refine lv_iadd (pc := 137) S.1 S.2.1 dX8_call_137 ?_
  refine lv_iload_n (pc := 138) S.1 S.2.1 dX8_call_138 rfl (lv_at hl 2 rfl) ?_
  obtain ⟨hn3, h⟩ := h
  refine tp_iast (pc := 139) S E.1 hP (cM_D E st1) hS 9 0 (cM_call a ca st1) rfl (j := (((8 : Int32) * x9) + (1 : Int32)).toNatClampNeg) rfl hn3 (sM_call a ca st1 _ _) dX8_call_139 (fun st2 H locs e4 hP hS => ?_)
  have h := h st2 e4
  refine lv_aload_n (pc := 140) S.1 S.2.1 dX8_call_140 rfl (lv_at hl 0 rfl) ?_
  refine tp_get (pc := 141) S E.1 hP iwX8 0 (cM_mo a ca st2) rfl 14 (by decide) kw_419 (v := .ref (a 9)) rfl dX8_call_141 ?_
  refine lv_bipush (pc := 144) S.1 S.2.1 (v := 8) dX8_call_144 (by decide) ?_
  refine lv_iload (pc := 146) S.1 S.2.1 dX8_call_146 (lv_at hl 9 rfl) ?_
  refine lv_imul (pc := 148) S.1 S.2.1 dX8_call_148 ?_
  refine lv_iconst (pc := 149) S.1 S.2.1 (v := 2) dX8_call_149 (by decide) ?_
  refine lv_iadd (pc := 150) S.1 S.2.1 dX8_call_150 ?_
  refine lv_iload_n (pc := 151) S.1 S.2.1 dX8_call_151 rfl (lv_at hl 3 rfl) ?_
  obtain ⟨hn5, h⟩ := h
  refine tp_iast (pc := 152) S E.1 hP (cM_D E st2) hS 9 0 (cM_call a ca st2) rfl (j := (((8 : Int32) * x9) + (2 : Int32)).toNatClampNeg) rfl hn5 (sM_call a ca st2 _ _) dX8_call_152 (fun st3 H locs e6 hP hS => ?_)
  have h := h st3 e6
  refine lv_aload_n (pc := 153) S.1 S.2.1 dX8_call_153 rfl (lv_at hl 0 rfl) ?_
  refine tp_get (pc := 154) S E.1 hP iwX8 0 (cM_mo a ca st3) rfl 14 (by decide) kw_419 (v := .ref (a 9)) rfl dX8_call_154 ?_
  refine lv_bipush (pc := 157) S.1 S.2.1 (v := 8) dX8_call_157 (by decide) ?_
  refine lv_iload (pc := 159) S.1 S.2.1 dX8_call_159 (lv_at hl 9 rfl) ?_
  refine lv_imul (pc := 161) S.1 S.2.1 dX8_call_161 ?_
  refine lv_iconst (pc := 162) S.1 S.2.1 (v := 3) dX8_call_162 (by decide) ?_
  refine lv_iadd (pc := 163) S.1 S.2.1 dX8_call_163 ?_
  refine lv_iload (pc := 164) S.1 S.2.1 dX8_call_164 (lv_at hl 4 rfl) ?_
  obtain ⟨hn7, h⟩ := h
  refine tp_iast (pc := 166) S E.1 hP (cM_D E st3) hS 9 0 (cM_call a ca st3) rfl (j := (((8 : Int32) * x9) + (3 : Int32)).toNatClampNeg) rfl hn7 (sM_call a ca st3 _ _) dX8_call_166 (fun st4 H locs e8 hP hS => ?_)
  have h := h st4 e8
  refine lv_aload_n (pc := 167) S.1 S.2.1 dX8_call_167 rfl (lv_at hl 0 rfl) ?_
  refine tp_get (pc := 168) S E.1 hP iwX8 0 (cM_mo a ca st4) rfl 14 (by decide) kw_419 (v := .ref (a 9)) rfl dX8_call_168 ?_
  refine lv_bipush (pc := 171) S.1 S.2.1 (v := 8) dX8_call_171 (by decide) ?_
  refine lv_iload (pc := 173) S.1 S.2.1 dX8_call_173 (lv_at hl 9 rfl) ?_
  refine lv_imul (pc := 175) S.1 S.2.1 dX8_call_175 ?_
  refine lv_iconst (pc := 176) S.1 S.2.1 (v := 4) dX8_call_176 (by decide) ?_
  refine lv_iadd (pc := 177) S.1 S.2.1 dX8_call_177 ?_
  refine lv_iload (pc := 178) S.1 S.2.1 dX8_call_178 (lv_at hl 5 rfl) ?_
  obtain ⟨hn9, h⟩ := h
  refine tp_iast (pc := 180) S E.1 hP (cM_D E st4) hS 9 0 (cM_call a ca st4) rfl (j := (((8 : Int32) * x9) + (4 : Int32)).toNatClampNeg) rfl hn9 (sM_call a ca st4 _ _) dX8_call_180 (fun st5 H locs e10 hP hS => ?_)
  have h := h st5 e10
  refine lv_aload_n (pc := 181) S.1 S.2.1 dX8_call_181 rfl (lv_at hl 0 rfl) ?_
  refine tp_get (pc := 182) S E.1 hP iwX8 0 (cM_mo a ca st5) rfl 14 (by decide) kw_419 (v := .ref (a 9)) rfl dX8_call_182 ?_
  refine lv_bipush (pc := 185) S.1 S.2.1 (v := 8) dX8_call_185 (by decide) ?_
  refine lv_iload (pc := 187) S.1 S.2.1 dX8_call_187 (lv_at hl 9 rfl) ?_
  refine lv_imul (pc := 189) S.1 S.2.1 dX8_call_189 ?_
  refine lv_iconst (pc := 190) S.1 S.2.1 (v := 5) dX8_call_190 (by decide) ?_
  refine lv_iadd (pc := 191) S.1 S.2.1 dX8_call_191 ?_
  refine lv_iload (pc := 192) S.1 S.2.1 dX8_call_192 (lv_at hl 6 rfl) ?_
  obtain ⟨hn11, h⟩ := h
  refine tp_iast (pc := 194) S E.1 hP (cM_D E st5) hS 9 0 (cM_call a ca st5) rfl (j := (((8 : Int32) * x9) + (5 : Int32)).toNatClampNeg) rfl hn11 (sM_call a ca st5 _ _) dX8_call_194 (fun st6 H locs e12 hP hS => ?_)
  have h := h st6 e12
  refine lv_aload_n (pc := 195) S.1 S.2.1 dX8_call_195 rfl (lv_at hl 0 rfl) ?_
  refine tp_get (pc := 196) S E.1 hP iwX8 0 (cM_mo a ca st6) rfl 14 (by decide) kw_419 (v := .ref (a 9)) rfl dX8_call_196 ?_
  refine lv_bipush (pc := 199) S.1 S.2.1 (v := 8) dX8_call_199 (by decide) ?_
  refine lv_iload (pc := 201) S.1 S.2.1 dX8_call_201 (lv_at hl 9 rfl) ?_
  refine lv_imul (pc := 203) S.1 S.2.1 dX8_call_203 ?_
  refine lv_bipush (pc := 204) S.1 S.2.1 (v := 6) dX8_call_204 (by decide) ?_
  refine lv_iadd (pc := 206) S.1 S.2.1 dX8_call_206 ?_
  refine lv_iload (pc := 207) S.1 S.2.1 dX8_call_207 (lv_at hl 7 rfl) ?_
  obtain ⟨hn13, h⟩ := h
  refine tp_iast (pc := 209) S E.1 hP (cM_D E st6) hS 9 0 (cM_call a ca st6) rfl (j := (((8 : Int32) * x9) + (6 : Int32)).toNatClampNeg) rfl hn13 (sM_call a ca st6 _ _) dX8_call_209 (fun st7 H locs e14 hP hS => ?_)
  have h := h st7 e14
  refine lv_aload_n (pc := 210) S.1 S.2.1 dX8_call_210 rfl (lv_at hl 0 rfl) ?_
  refine tp_get (pc := 211) S E.1 hP iwX8 0 (cM_mo a ca st7) rfl 14 (by decide) kw_419 (v := .ref (a 9)) rfl dX8_call_211 ?_
  refine lv_bipush (pc := 214) S.1 S.2.1 (v := 8) dX8_call_214 (by decide) ?_
  refine lv_iload (pc := 216) S.1 S.2.1 dX8_call_216 (lv_at hl 9 rfl) ?_
  refine lv_imul (pc := 218) S.1 S.2.1 dX8_call_218 ?_
  refine lv_bipush (pc := 219) S.1 S.2.1 (v := 7) dX8_call_219 (by decide) ?_
  refine lv_iadd (pc := 221) S.1 S.2.1 dX8_call_221 ?_
  refine lv_iload (pc := 222) S.1 S.2.1 dX8_call_222 (lv_at hl 8 rfl) ?_
  obtain ⟨hn15, h⟩ := h
  refine tp_iast (pc := 224) S E.1 hP (cM_D E st7) hS 9 0 (cM_call a ca st7) rfl (j := (((8 : Int32) * x9) + (7 : Int32)).toNatClampNeg) rfl hn15 (sM_call a ca st7 _ _) dX8_call_224 (fun st8 H locs e16 hP hS => ?_)
  have h := h st8 e16
  refine lv_iload (pc := 225) S.1 S.2.1 dX8_call_225 (lv_at hl 9 rfl) ?_
  exact tRi S hr hlk hP hS h dX8_call_227
set_option maxHeartbeats 4000000 in
set_option maxRecDepth 100000 in
theorem wk_X8_call_97 {p : Program} {l : Launch} {e : Env} {s : State} {m : MethodId} {args : Array Value} {below : List Frame} {meth : Method} {c : Code} {dC : Nat → ClassId} {dI : Nat → Nat → Nat} {a : Nat → Nat} {ca : Nat → ClassId} {tb : Nat → Nat} {w0 : Cond} (S : CallFix p m c cX8_call 10 s args (w0 :: tWALL) RX8) (hr : meth.sig.returnType = (some .int)) (hlk : meth.locks = false) (E : tEnv 21 dC dI a ca tb s) (post : Int32 → tSt → Prop) (k116 : Int32 → Int32 → Int32 → Int32 → Int32 → Int32 → Int32 → Int32 → Int32 → tSt → Prop) (hk116 : ∀ (x1 : Int32) (x2 : Int32) (x3 : Int32) (x4 : Int32) (x5 : Int32) (x6 : Int32) (x7 : Int32) (x8 : Int32) (x9 : Int32) (st : tSt), k116 x1 x2 x3 x4 x5 x6 x7 x8 x9 st → tAt p l e rmX8_call s m args below meth c (dC, dI) (cwM a ca) (tA 21 a s.heap.size) (tQi (cwM a ca) 21 dC dI a args below s post) 10 116 [(0, .ref (a 0)), (1, .int x1), (2, .int x2), (3, .int x3), (4, .int x4), (5, .int x5), (6, .int x6), (7, .int x7), (8, .int x8), (9, .int x9)] [] st) : ∀ (n : Nat) (x1 : Int32) (x2 : Int32) (x3 : Int32) (x4 : Int32) (x5 : Int32) (x6 : Int32) (x7 : Int32) (x8 : Int32) (x9 : Int32) (st : tSt), wp_M_call_97 post k116 n x1 x2 x3 x4 x5 x6 x7 x8 x9 st → tAt p l e rmX8_call s m args below meth c (dC, dI) (cwM a ca) (tA 21 a s.heap.size) (tQi (cwM a ca) 21 dC dI a args below s post) 10 97 [(0, .ref (a 0)), (1, .int x1), (2, .int x2), (3, .int x3), (4, .int x4), (5, .int x5), (6, .int x6), (7, .int x7), (8, .int x8), (9, .int x9)] [] st := by
  intro n
  induction n with
  | zero => intro x1 x2 x3 x4 x5 x6 x7 x8 x9 st h; exact absurd h id
  | succ n ih =>
    intro x1 x2 x3 x4 x5 x6 x7 x8 x9 st h H locs ls hP hS hl
    refine lv_iload (pc := 97) S.1 S.2.1 dX8_call_97 (lv_at hl 9 rfl) ?_
    refine lv_bipush (pc := 99) S.1 S.2.1 (v := 6) dX8_call_99 (by decide) ?_
    refine lv_icmp_ge (pc := 101) (tgt := 234) S.1 S.2.1 dX8_call_101 (by decide) (fun c1 => ?_) (fun c1 => ?_)
    · have h := h.1 c1
      refine lv_iconst (pc := 234) S.1 S.2.1 (v := (-1)) dX8_call_234 (by decide) ?_
      exact tRi S hr hlk hP hS h dX8_call_235
    · have h := h.2 c1
      refine lv_aload_n (pc := 104) S.1 S.2.1 dX8_call_104 rfl (lv_at hl 0 rfl) ?_
      refine lv_iload (pc := 105) S.1 S.2.1 dX8_call_105 (lv_at hl 9 rfl) ?_
      refine tGi hS (tRunV (pc := 107) (As := [.int x9]) (rest := []) S E hP hS (mt_X8_isCall l dC dI a ca tb _ x9 st _ h) (cw_X8_isCall ⟨Nat.le_of_ble_eq_true rfl, Nat.le_of_ble_eq_true rfl⟩) kw_422 kw_423 kw_424 0 8 rfl rfl (cM_mo a ca st) rfl hl.1 rfl (Nat.le_of_ble_eq_true rfl) dX8_call_107) (fun r2 st1 H locs h hP hS => ?_)
      refine lv_if_eq (pc := 110) (tgt := 116) S.1 S.2.1 dX8_call_110 (by decide) (fun c2 => ?_) (fun c2 => ?_)
      · have h := h.1 c2
        exact hk116 x1 x2 x3 x4 x5 x6 x7 x8 x9 st1 h _ _ _ hP hS (lv_sub hl [0, 1, 2, 3, 4, 5, 6, 7, 8, 9] rfl)
      · have h := h.2 c2
        refine lv_goto (pc := 113) S.1 S.2.1 (tgt := 228) dX8_call_113 (by decide) ?_
        obtain ⟨y9_3, e3⟩ : ∃ y : Int32, y = x9 + 1 := ⟨_, rfl⟩
        have h := h y9_3 e3
        refine lv_iinc (pc := 228) S.1 S.2.1 (v := y9_3) (lv' := [(9, .int y9_3), (0, .ref (a 0)), (1, .int x1), (2, .int x2), (3, .int x3), (4, .int x4), (5, .int x5), (6, .int x6), (7, .int x7), (8, .int x8)]) dX8_call_228 hl (k := 9) rfl (by rw [e3]; rfl) (by decide) rfl (fun ls hl => ?_)
        refine lv_goto (pc := 231) S.1 S.2.1 (tgt := 97) dX8_call_231 (by decide) ?_
        exact ih x1 x2 x3 x4 x5 x6 x7 x8 y9_3 st1 h _ _ _ hP hS (lv_sub hl [1, 2, 3, 4, 5, 6, 7, 8, 9, 0] rfl)
set_option maxHeartbeats 4000000 in
set_option maxRecDepth 100000 in
theorem wk_X8_call_80 {p : Program} {l : Launch} {e : Env} {s : State} {m : MethodId} {args : Array Value} {below : List Frame} {meth : Method} {c : Code} {dC : Nat → ClassId} {dI : Nat → Nat → Nat} {a : Nat → Nat} {ca : Nat → ClassId} {tb : Nat → Nat} {w0 : Cond} (S : CallFix p m c cX8_call 10 s args (w0 :: tWALL) RX8) (hr : meth.sig.returnType = (some .int)) (hlk : meth.locks = false) (E : tEnv 21 dC dI a ca tb s) (post : Int32 → tSt → Prop) : ∀ (x1 : Int32) (x2 : Int32) (x3 : Int32) (x4 : Int32) (x5 : Int32) (x6 : Int32) (x7 : Int32) (x8 : Int32) (st : tSt), wp_M_call_80 post x1 x2 x3 x4 x5 x6 x7 x8 st → tAt p l e rmX8_call s m args below meth c (dC, dI) (cwM a ca) (tA 21 a s.heap.size) (tQi (cwM a ca) 21 dC dI a args below s post) 10 80 [(0, .ref (a 0)), (1, .int x1), (2, .int x2), (3, .int x3), (4, .int x4), (5, .int x5), (6, .int x6), (7, .int x7), (8, .int x8)] [] st := by
  intro x1 x2 x3 x4 x5 x6 x7 x8 st h H locs ls hP hS hl
  refine lv_iload (pc := 80) S.1 S.2.1 dX8_call_80 (lv_at hl 8 rfl) ?_
  refine lv_iconst (pc := 82) S.1 S.2.1 (v := 0) dX8_call_82 (by decide) ?_
  refine lv_sipush (pc := 83) S.1 S.2.1 (v := 9999) dX8_call_83 (by decide) ?_
  refine tGi hS (tRunS (pc := 86) (As := [.int x8, .int (0 : Int32), .int (9999 : Int32)]) (rest := []) S E hP hS (mt_X8_lies l dC dI a ca tb _ x8 (0 : Int32) (9999 : Int32) st _ h) (cw_X8_lies ⟨Nat.le_of_ble_eq_true rfl, Nat.le_of_ble_eq_true rfl⟩) kw_394 kw_393 rfl hl.1 rfl (Nat.le_of_ble_eq_true rfl) dX8_call_86) (fun r2 st1 H locs h hP hS => ?_)
  refine lv_if_ne (pc := 89) (tgt := 94) S.1 S.2.1 dX8_call_89 (by decide) (fun c1 => ?_) (fun c1 => ?_)
  · have h := h.2 c1
    refine lv_iconst (pc := 94) S.1 S.2.1 (v := 0) dX8_call_94 (by decide) ?_
    refine lv_istore (pc := 95) S.1 S.2.1 (lv' := [(9, .int (0 : Int32)), (0, .ref (a 0)), (1, .int x1), (2, .int x2), (3, .int x3), (4, .int x4), (5, .int x5), (6, .int x6), (7, .int x7), (8, .int x8)]) dX8_call_95 hl (by decide) rfl (fun ls hl => ?_)
    exact (fun x1 x2 x3 x4 x5 x6 x7 x8 x9 st h => Exists.elim h (fun q h => wk_X8_call_97 S hr hlk E post (wp_M_call_116 post) (fun x1 x2 x3 x4 x5 x6 x7 x8 x9 st h => wk_X8_call_116 S hr hlk E post  x1 x2 x3 x4 x5 x6 x7 x8 x9 st h) q x1 x2 x3 x4 x5 x6 x7 x8 x9 st h)) x1 x2 x3 x4 x5 x6 x7 x8 (0 : Int32) st1 h _ _ _ hP hS (lv_sub hl [1, 2, 3, 4, 5, 6, 7, 8, 9, 0] rfl)
  · have h := h.1 c1
    refine lv_iconst (pc := 92) S.1 S.2.1 (v := (-1)) dX8_call_92 (by decide) ?_
    exact tRi S hr hlk hP hS h dX8_call_93
set_option maxHeartbeats 4000000 in
set_option maxRecDepth 100000 in
theorem mt_X8_call (l : Launch) (dC : Nat → ClassId) (dI : Nat → Nat → Nat) (a : Nat → Nat) (ca : Nat → ClassId) (tb : Nat → Nat) (sz : Nat) (x1 : Int32) (x2 : Int32) (x3 : Int32) (x4 : Int32) (x5 : Int32) (x6 : Int32) (x7 : Int32) (x8 : Int32) (st : tSt) (post : Int32 → tSt → Prop) (h : wp_M_call x1 x2 x3 x4 x5 x6 x7 x8 st post) : Met l yX8_call (.code yX8_call cX8_call 10 (some .int) :: tWALL) rmX8_call (va_Pc [.ref (a 0), .int x1, .int x2, .int x3, .int x4, .int x5, .int x6, .int x7, .int x8] (tPre 21 (cwM a ca) dC dI a ca tb sz st)) (va_Qi post (tB (cwM a ca) dC dI) (tA 21 a sz)) 0 0 (tA 21 a sz) := by
  refine tp_met (by decide) (Nat.le_of_ble_eq_true rfl) ?_
  intro p e s m below meth c ls S hr hlk hsz E hP hl
  subst hsz
  have S : CallFix p m c cX8_call 10 s _ (.code yX8_call cX8_call 10 (some .int) :: tWALL) RX8 := S
  have hl : lv_has ls 10 [(0, .ref (a 0)), (1, .int x1), (2, .int x2), (3, .int x3), (4, .int x4), (5, .int x5), (6, .int x6), (7, .int x7), (8, .int x8)] := hl
  have hS : va_S (tA 21 a s.heap.size) s.heap s.heap [] := va_S.rf
  show W p l e _ s m _ below meth c s.heap [] 0 0 (tQi (cwM a ca) 21 dC dI a ([.ref (a 0), .int x1, .int x2, .int x3, .int x4, .int x5, .int x6, .int x7, .int x8] : List Value).toArray below s post) (F0 m 0 ls [])
  refine lv_iload_n (pc := 0) S.1 S.2.1 dX8_call_0 rfl (lv_at hl 1 rfl) ?_
  refine lv_iconst (pc := 1) S.1 S.2.1 (v := 0) dX8_call_1 (by decide) ?_
  refine lv_iconst (pc := 2) S.1 S.2.1 (v := 3) dX8_call_2 (by decide) ?_
  refine tGi hS (tRunS (pc := 3) (As := [.int x1, .int (0 : Int32), .int (3 : Int32)]) (rest := []) S E hP hS (mt_X8_lies l dC dI a ca tb _ x1 (0 : Int32) (3 : Int32) st _ h) (cw_X8_lies ⟨Nat.le_of_ble_eq_true rfl, Nat.le_of_ble_eq_true rfl⟩) kw_394 kw_393 rfl hl.1 rfl (Nat.le_of_ble_eq_true rfl) dX8_call_3) (fun r2 st1 H locs h hP hS => ?_)
  refine lv_if_eq (pc := 6) (tgt := 92) S.1 S.2.1 dX8_call_6 (by decide) (fun c1 => ?_) (fun c1 => ?_)
  · have h := h.1 c1
    refine lv_iconst (pc := 92) S.1 S.2.1 (v := (-1)) dX8_call_92 (by decide) ?_
    exact tRi S hr hlk hP hS h dX8_call_93
  · have h := h.2 c1
    refine lv_iload_n (pc := 9) S.1 S.2.1 dX8_call_9 rfl (lv_at hl 2 rfl) ?_
    refine lv_iconst (pc := 10) S.1 S.2.1 (v := 0) dX8_call_10 (by decide) ?_
    refine lv_bipush (pc := 11) S.1 S.2.1 (v := 95) dX8_call_11 (by decide) ?_
    refine tGi hS (tRunS (pc := 13) (As := [.int x2, .int (0 : Int32), .int (95 : Int32)]) (rest := []) S E hP hS (mt_X8_lies l dC dI a ca tb _ x2 (0 : Int32) (95 : Int32) st1 _ h) (cw_X8_lies ⟨Nat.le_of_ble_eq_true rfl, Nat.le_of_ble_eq_true rfl⟩) kw_394 kw_393 rfl hl.1 rfl (Nat.le_of_ble_eq_true rfl) dX8_call_13) (fun r4 st3 H locs h hP hS => ?_)
    refine lv_if_eq (pc := 16) (tgt := 92) S.1 S.2.1 dX8_call_16 (by decide) (fun c2 => ?_) (fun c2 => ?_)
    · have h := h.1 c2
      refine lv_iconst (pc := 92) S.1 S.2.1 (v := (-1)) dX8_call_92 (by decide) ?_
      exact tRi S hr hlk hP hS h dX8_call_93
    · have h := h.2 c2
      refine lv_iload_n (pc := 19) S.1 S.2.1 dX8_call_19 rfl (lv_at hl 3 rfl) ?_
      refine lv_iconst (pc := 20) S.1 S.2.1 (v := 1) dX8_call_20 (by decide) ?_
      refine lv_bipush (pc := 21) S.1 S.2.1 (v := 24) dX8_call_21 (by decide) ?_
      refine tGi hS (tRunS (pc := 23) (As := [.int x3, .int (1 : Int32), .int (24 : Int32)]) (rest := []) S E hP hS (mt_X8_lies l dC dI a ca tb _ x3 (1 : Int32) (24 : Int32) st3 _ h) (cw_X8_lies ⟨Nat.le_of_ble_eq_true rfl, Nat.le_of_ble_eq_true rfl⟩) kw_394 kw_393 rfl hl.1 rfl (Nat.le_of_ble_eq_true rfl) dX8_call_23) (fun r6 st5 H locs h hP hS => ?_)
      refine lv_if_eq (pc := 26) (tgt := 92) S.1 S.2.1 dX8_call_26 (by decide) (fun c3 => ?_) (fun c3 => ?_)
      · have h := h.1 c3
        refine lv_iconst (pc := 92) S.1 S.2.1 (v := (-1)) dX8_call_92 (by decide) ?_
        exact tRi S hr hlk hP hS h dX8_call_93
      · have h := h.2 c3
        refine lv_iload_n (pc := 29) S.1 S.2.1 dX8_call_29 rfl (lv_at hl 2 rfl) ?_
        refine lv_iload_n (pc := 30) S.1 S.2.1 dX8_call_30 rfl (lv_at hl 3 rfl) ?_
        refine lv_iadd (pc := 31) S.1 S.2.1 dX8_call_31 ?_
        refine lv_bipush (pc := 32) S.1 S.2.1 (v := 96) dX8_call_32 (by decide) ?_
        refine lv_icmp_gt (pc := 34) (tgt := 92) S.1 S.2.1 dX8_call_34 (by decide) (fun c4 => ?_) (fun c4 => ?_)
        · have h := h.1 c4
          refine lv_iconst (pc := 92) S.1 S.2.1 (v := (-1)) dX8_call_92 (by decide) ?_
          exact tRi S hr hlk hP hS h dX8_call_93
        · have h := h.2 c4
          refine lv_iload (pc := 37) S.1 S.2.1 dX8_call_37 (lv_at hl 4 rfl) ?_
          refine lv_iconst (pc := 39) S.1 S.2.1 (v := 0) dX8_call_39 (by decide) ?_
          refine lv_bipush (pc := 40) S.1 S.2.1 (v := 9) dX8_call_40 (by decide) ?_
          refine tGi hS (tRunS (pc := 42) (As := [.int x4, .int (0 : Int32), .int (9 : Int32)]) (rest := []) S E hP hS (mt_X8_lies l dC dI a ca tb _ x4 (0 : Int32) (9 : Int32) st5 _ h) (cw_X8_lies ⟨Nat.le_of_ble_eq_true rfl, Nat.le_of_ble_eq_true rfl⟩) kw_394 kw_393 rfl hl.1 rfl (Nat.le_of_ble_eq_true rfl) dX8_call_42) (fun r8 st7 H locs h hP hS => ?_)
          refine lv_if_eq (pc := 45) (tgt := 92) S.1 S.2.1 dX8_call_45 (by decide) (fun c5 => ?_) (fun c5 => ?_)
          · have h := h.1 c5
            refine lv_iconst (pc := 92) S.1 S.2.1 (v := (-1)) dX8_call_92 (by decide) ?_
            exact tRi S hr hlk hP hS h dX8_call_93
          · have h := h.2 c5
            refine lv_iload (pc := 48) S.1 S.2.1 dX8_call_48 (lv_at hl 5 rfl) ?_
            refine lv_iconst (pc := 50) S.1 S.2.1 (v := 0) dX8_call_50 (by decide) ?_
            refine lv_iconst (pc := 51) S.1 S.2.1 (v := 5) dX8_call_51 (by decide) ?_
            refine tGi hS (tRunS (pc := 52) (As := [.int x5, .int (0 : Int32), .int (5 : Int32)]) (rest := []) S E hP hS (mt_X8_lies l dC dI a ca tb _ x5 (0 : Int32) (5 : Int32) st7 _ h) (cw_X8_lies ⟨Nat.le_of_ble_eq_true rfl, Nat.le_of_ble_eq_true rfl⟩) kw_394 kw_393 rfl hl.1 rfl (Nat.le_of_ble_eq_true rfl) dX8_call_52) (fun r10 st9 H locs h hP hS => ?_)
            refine lv_if_eq (pc := 55) (tgt := 92) S.1 S.2.1 dX8_call_55 (by decide) (fun c6 => ?_) (fun c6 => ?_)
            · have h := h.1 c6
              refine lv_iconst (pc := 92) S.1 S.2.1 (v := (-1)) dX8_call_92 (by decide) ?_
              exact tRi S hr hlk hP hS h dX8_call_93
            · have h := h.2 c6
              refine lv_iload (pc := 58) S.1 S.2.1 dX8_call_58 (lv_at hl 6 rfl) ?_
              refine tGi hS (tRunS (pc := 60) (As := [.int x6]) (rest := []) S E hP hS (mt_X8_isInstrument l dC dI a ca tb _ x6 st9 _ h) (cw_X8_isInstrument ⟨Nat.le_of_ble_eq_true rfl, Nat.le_of_ble_eq_true rfl⟩) kw_426 kw_425 rfl hl.1 rfl (Nat.le_of_ble_eq_true rfl) dX8_call_60) (fun r12 st11 H locs h hP hS => ?_)
              refine lv_if_eq (pc := 63) (tgt := 92) S.1 S.2.1 dX8_call_63 (by decide) (fun c7 => ?_) (fun c7 => ?_)
              · have h := h.1 c7
                refine lv_iconst (pc := 92) S.1 S.2.1 (v := (-1)) dX8_call_92 (by decide) ?_
                exact tRi S hr hlk hP hS h dX8_call_93
              · have h := h.2 c7
                refine lv_iload (pc := 66) S.1 S.2.1 dX8_call_66 (lv_at hl 7 rfl) ?_
                refine lv_iconst (pc := 68) S.1 S.2.1 (v := (-1)) dX8_call_68 (by decide) ?_
                refine lv_icmp_eq (pc := 69) (tgt := 80) S.1 S.2.1 dX8_call_69 (by decide) (fun c8 => ?_) (fun c8 => ?_)
                · have h := h.1 c8
                  exact (fun x1 x2 x3 x4 x5 x6 x7 x8 st h => wk_X8_call_80 S hr hlk E post  x1 x2 x3 x4 x5 x6 x7 x8 st h) x1 x2 x3 x4 x5 x6 x7 x8 st11 h _ _ _ hP hS (lv_sub hl [0, 1, 2, 3, 4, 5, 6, 7, 8] rfl)
                · have h := h.2 c8
                  refine lv_iload (pc := 72) S.1 S.2.1 dX8_call_72 (lv_at hl 7 rfl) ?_
                  refine tGi hS (tRunS (pc := 74) (As := [.int x7]) (rest := []) S E hP hS (mt_X8_isInstrument l dC dI a ca tb _ x7 st11 _ h) (cw_X8_isInstrument ⟨Nat.le_of_ble_eq_true rfl, Nat.le_of_ble_eq_true rfl⟩) kw_426 kw_425 rfl hl.1 rfl (Nat.le_of_ble_eq_true rfl) dX8_call_74) (fun r14 st13 H locs h hP hS => ?_)
                  refine lv_if_eq (pc := 77) (tgt := 92) S.1 S.2.1 dX8_call_77 (by decide) (fun c9 => ?_) (fun c9 => ?_)
                  · have h := h.1 c9
                    refine lv_iconst (pc := 92) S.1 S.2.1 (v := (-1)) dX8_call_92 (by decide) ?_
                    exact tRi S hr hlk hP hS h dX8_call_93
                  · have h := h.2 c9
                    exact (fun x1 x2 x3 x4 x5 x6 x7 x8 st h => wk_X8_call_80 S hr hlk E post  x1 x2 x3 x4 x5 x6 x7 x8 st h) x1 x2 x3 x4 x5 x6 x7 x8 st13 h _ _ _ hP hS (lv_sub hl [0, 1, 2, 3, 4, 5, 6, 7, 8] rfl)

abbrev rmX8_off : Room := { frames := 2, cells := 0, slots := 0, locals := 43 }
theorem cw_X8_off {R : Room} {own : String} {index : Nat} (h : rmX8_off.frames + 1 ≤ R.frames ∧ 8 + (2 + 11) + rmX8_off.locals ≤ R.locals) : tCw R own index yX8_off cX8_off 2 (some .boolean) rmX8_off 1 := ⟨kw_428, kw_373, ⟨rfl, rfl, h.1, h.2⟩, by decide +kernel, by decide +kernel, by decide +kernel⟩

set_option maxHeartbeats 4000000 in
set_option maxRecDepth 100000 in
theorem mt_X8_off (l : Launch) (dC : Nat → ClassId) (dI : Nat → Nat → Nat) (a : Nat → Nat) (ca : Nat → ClassId) (tb : Nat → Nat) (sz : Nat) (x1 : Int32) (st : tSt) (post : Int32 → tSt → Prop) (h : wp_M_off x1 st post) : Met l yX8_off (.code yX8_off cX8_off 2 (some .boolean) :: tWALL) rmX8_off (va_Pc [.ref (a 0), .int x1] (tPre 21 (cwM a ca) dC dI a ca tb sz st)) (va_Qi post (tB (cwM a ca) dC dI) (tA 21 a sz)) 0 0 (tA 21 a sz) := by
  refine tp_met (by decide) (Nat.le_of_ble_eq_true rfl) ?_
  intro p e s m below meth c ls S hr hlk hsz E hP hl
  subst hsz
  have S : CallFix p m c cX8_off 2 s _ (.code yX8_off cX8_off 2 (some .boolean) :: tWALL) RX8 := S
  have hl : lv_has ls 2 [(0, .ref (a 0)), (1, .int x1)] := hl
  have hS : va_S (tA 21 a s.heap.size) s.heap s.heap [] := va_S.rf
  show W p l e _ s m _ below meth c s.heap [] 0 0 (tQi (cwM a ca) 21 dC dI a ([.ref (a 0), .int x1] : List Value).toArray below s post) (F0 m 0 ls [])
  refine lv_aload_n (pc := 0) S.1 S.2.1 dX8_off_0 rfl (lv_at hl 0 rfl) ?_
  refine lv_iload_n (pc := 1) S.1 S.2.1 dX8_off_1 rfl (lv_at hl 1 rfl) ?_
  refine tGi hS (tRunV (pc := 2) (As := [.int x1]) (rest := []) S E hP hS (mt_X8_isCall l dC dI a ca tb _ x1 st _ h) (cw_X8_isCall ⟨Nat.le_of_ble_eq_true rfl, Nat.le_of_ble_eq_true rfl⟩) kw_422 kw_423 kw_424 0 8 rfl rfl (cM_mo a ca st) rfl hl.1 rfl (Nat.le_of_ble_eq_true rfl) dX8_off_2) (fun r2 st1 H locs h hP hS => ?_)
  refine lv_if_ne (pc := 5) (tgt := 10) S.1 S.2.1 dX8_off_5 (by decide) (fun c1 => ?_) (fun c1 => ?_)
  · have h := h.2 c1
    refine lv_aload_n (pc := 10) S.1 S.2.1 dX8_off_10 rfl (lv_at hl 0 rfl) ?_
    refine tp_get (pc := 11) S E.1 hP iwX8 0 (cM_mo a ca st1) rfl 14 (by decide) kw_419 (v := .ref (a 9)) rfl dX8_off_11 ?_
    refine lv_bipush (pc := 14) S.1 S.2.1 (v := 8) dX8_off_14 (by decide) ?_
    refine lv_iload_n (pc := 16) S.1 S.2.1 dX8_off_16 rfl (lv_at hl 1 rfl) ?_
    refine lv_imul (pc := 17) S.1 S.2.1 dX8_off_17 ?_
    refine lv_iconst (pc := 18) S.1 S.2.1 (v := (-1)) dX8_off_18 (by decide) ?_
    obtain ⟨hn2, h⟩ := h
    refine tp_iast (pc := 19) S E.1 hP (cM_D E st1) hS 9 0 (cM_call a ca st1) rfl (j := ((8 : Int32) * x1).toNatClampNeg) rfl hn2 (sM_call a ca st1 _ _) dX8_off_19 (fun st3 H locs e3 hP hS => ?_)
    have h := h st3 e3
    refine lv_iconst (pc := 20) S.1 S.2.1 (v := 1) dX8_off_20 (by decide) ?_
    exact tRz S hr hlk hP hS (Or.inr rfl) h dX8_off_21
  · have h := h.1 c1
    refine lv_iconst (pc := 8) S.1 S.2.1 (v := 0) dX8_off_8 (by decide) ?_
    exact tRz S hr hlk hP hS (Or.inl rfl) h dX8_off_9

abbrev rmX8_sorts : Room := { frames := 2, cells := 0, slots := 0, locals := 43 }
theorem cw_X8_sorts {R : Room} {own : String} {index : Nat} (h : rmX8_sorts.frames + 1 ≤ R.frames ∧ 8 + (3 + 11) + rmX8_sorts.locals ≤ R.locals) : tCw R own index yX8_sorts cX8_sorts 3 none rmX8_sorts 0 := ⟨kw_434, kw_373, ⟨rfl, rfl, h.1, h.2⟩, by decide +kernel, by decide +kernel, by decide +kernel⟩
set_option maxHeartbeats 4000000 in
set_option maxRecDepth 100000 in
theorem wk_X8_sorts_61 {p : Program} {l : Launch} {e : Env} {s : State} {m : MethodId} {args : Array Value} {below : List Frame} {meth : Method} {c : Code} {dC : Nat → ClassId} {dI : Nat → Nat → Nat} {a : Nat → Nat} {ca : Nat → ClassId} {tb : Nat → Nat} {w0 : Cond} (S : CallFix p m c cX8_sorts 3 s args (w0 :: tWALL) RX8) (hr : meth.sig.returnType = none) (hlk : meth.locks = false) (E : tEnv 21 dC dI a ca tb s) (post : tSt → Prop) (k14 : Int32 → Int32 → tSt → Prop) (hk14 : ∀ (x1 : Int32) (x2 : Int32) (st : tSt), k14 x1 x2 st → tAt p l e rmX8_sorts s m args below meth c (dC, dI) (cwM a ca) (tA 21 a s.heap.size) (tQv (cwM a ca) 21 dC dI a args below s post) 3 14 [(0, .ref (a 0)), (1, .int x1), (2, .int x2)] [] st) (k67 : Int32 → tSt → Prop) (hk67 : ∀ (x1 : Int32) (st : tSt), k67 x1 st → tAt p l e rmX8_sorts s m args below meth c (dC, dI) (cwM a ca) (tA 21 a s.heap.size) (tQv (cwM a ca) 21 dC dI a args below s post) 3 67 [(0, .ref (a 0)), (1, .int x1)] [] st) : ∀ (x1 : Int32) (x2 : Int32) (st : tSt), wp_M_sorts_61 post k14 k67 x1 x2 st → tAt p l e rmX8_sorts s m args below meth c (dC, dI) (cwM a ca) (tA 21 a s.heap.size) (tQv (cwM a ca) 21 dC dI a args below s post) 3 61 [(0, .ref (a 0)), (1, .int x1), (2, .int x2)] [] st := by
  intro x1 x2 st h H locs ls hP hS hl
  obtain ⟨y2_1, e1⟩ : ∃ y : Int32, y = x2 + 1 := ⟨_, rfl⟩
  have h := h y2_1 e1
  refine lv_iinc (pc := 61) S.1 S.2.1 (v := y2_1) (lv' := [(2, .int y2_1), (0, .ref (a 0)), (1, .int x1)]) dX8_sorts_61 hl (k := 2) rfl (by rw [e1]; rfl) (by decide) rfl (fun ls hl => ?_)
  refine lv_goto (pc := 64) S.1 S.2.1 (tgt := 14) dX8_sorts_64 (by decide) ?_
  exact hk14 x1 y2_1 st h _ _ _ hP hS (lv_sub hl [1, 2, 0] rfl)
set_option maxHeartbeats 4000000 in
set_option maxRecDepth 100000 in
theorem wk_X8_sorts_67 {p : Program} {l : Launch} {e : Env} {s : State} {m : MethodId} {args : Array Value} {below : List Frame} {meth : Method} {c : Code} {dC : Nat → ClassId} {dI : Nat → Nat → Nat} {a : Nat → Nat} {ca : Nat → ClassId} {tb : Nat → Nat} {w0 : Cond} (S : CallFix p m c cX8_sorts 3 s args (w0 :: tWALL) RX8) (hr : meth.sig.returnType = none) (hlk : meth.locks = false) (E : tEnv 21 dC dI a ca tb s) (post : tSt → Prop) (k7 : Int32 → tSt → Prop) (hk7 : ∀ (x1 : Int32) (st : tSt), k7 x1 st → tAt p l e rmX8_sorts s m args below meth c (dC, dI) (cwM a ca) (tA 21 a s.heap.size) (tQv (cwM a ca) 21 dC dI a args below s post) 3 7 [(0, .ref (a 0)), (1, .int x1)] [] st) : ∀ (x1 : Int32) (st : tSt), wp_M_sorts_67 post k7 x1 st → tAt p l e rmX8_sorts s m args below meth c (dC, dI) (cwM a ca) (tA 21 a s.heap.size) (tQv (cwM a ca) 21 dC dI a args below s post) 3 67 [(0, .ref (a 0)), (1, .int x1)] [] st := by
  intro x1 st h H locs ls hP hS hl
  obtain ⟨y1_1, e1⟩ : ∃ y : Int32, y = x1 + 1 := ⟨_, rfl⟩
  have h := h y1_1 e1
  refine lv_iinc (pc := 67) S.1 S.2.1 (v := y1_1) (lv' := [(1, .int y1_1), (0, .ref (a 0))]) dX8_sorts_67 hl (k := 1) rfl (by rw [e1]; rfl) (by decide) rfl (fun ls hl => ?_)
  refine lv_goto (pc := 70) S.1 S.2.1 (tgt := 7) dX8_sorts_70 (by decide) ?_
  exact hk7 y1_1 st h _ _ _ hP hS (lv_sub hl [1, 0] rfl)
set_option maxHeartbeats 4000000 in
set_option maxRecDepth 100000 in
theorem wk_X8_sorts_14 {p : Program} {l : Launch} {e : Env} {s : State} {m : MethodId} {args : Array Value} {below : List Frame} {meth : Method} {c : Code} {dC : Nat → ClassId} {dI : Nat → Nat → Nat} {a : Nat → Nat} {ca : Nat → ClassId} {tb : Nat → Nat} {w0 : Cond} (S : CallFix p m c cX8_sorts 3 s args (w0 :: tWALL) RX8) (hr : meth.sig.returnType = none) (hlk : meth.locks = false) (E : tEnv 21 dC dI a ca tb s) (post : tSt → Prop) (k67 : Int32 → tSt → Prop) (hk67 : ∀ (x1 : Int32) (st : tSt), k67 x1 st → tAt p l e rmX8_sorts s m args below meth c (dC, dI) (cwM a ca) (tA 21 a s.heap.size) (tQv (cwM a ca) 21 dC dI a args below s post) 3 67 [(0, .ref (a 0)), (1, .int x1)] [] st) : ∀ (n : Nat) (x1 : Int32) (x2 : Int32) (st : tSt), wp_M_sorts_14 post k67 n x1 x2 st → tAt p l e rmX8_sorts s m args below meth c (dC, dI) (cwM a ca) (tA 21 a s.heap.size) (tQv (cwM a ca) 21 dC dI a args below s post) 3 14 [(0, .ref (a 0)), (1, .int x1), (2, .int x2)] [] st := by
  intro n
  induction n with
  | zero => intro x1 x2 st h; exact absurd h id
  | succ n ih =>
    intro x1 x2 st h H locs ls hP hS hl
    refine lv_iload_n (pc := 14) S.1 S.2.1 dX8_sorts_14 rfl (lv_at hl 2 rfl) ?_
    refine lv_bipush (pc := 15) S.1 S.2.1 (v := 6) dX8_sorts_15 (by decide) ?_
    refine lv_icmp_ge (pc := 17) (tgt := 67) S.1 S.2.1 dX8_sorts_17 (by decide) (fun c1 => ?_) (fun c1 => ?_)
    · have h := h.1 c1
      exact hk67 x1 st h _ _ _ hP hS (lv_sub hl [0, 1] rfl)
    · have h := h.2 c1
      refine lv_aload_n (pc := 20) S.1 S.2.1 dX8_sorts_20 rfl (lv_at hl 0 rfl) ?_
      refine lv_iload_n (pc := 21) S.1 S.2.1 dX8_sorts_21 rfl (lv_at hl 2 rfl) ?_
      refine tGi hS (tRunV (pc := 22) (As := [.int x2]) (rest := []) S E hP hS (mt_X8_isCall l dC dI a ca tb _ x2 st _ h) (cw_X8_isCall ⟨Nat.le_of_ble_eq_true rfl, Nat.le_of_ble_eq_true rfl⟩) kw_422 kw_423 kw_424 0 8 rfl rfl (cM_mo a ca st) rfl hl.1 rfl (Nat.le_of_ble_eq_true rfl) dX8_sorts_22) (fun r2 st1 H locs h hP hS => ?_)
      refine lv_if_eq (pc := 25) (tgt := 61) S.1 S.2.1 dX8_sorts_25 (by decide) (fun c2 => ?_) (fun c2 => ?_)
      · have h := h.1 c2
        exact (fun x1 x2 st h => wk_X8_sorts_61 S hr hlk E post (wp_M_sorts_14 post k67 n) ih k67 hk67 x1 x2 st h) x1 x2 st1 h _ _ _ hP hS (lv_sub hl [0, 1, 2] rfl)
      · have h := h.2 c2
        refine lv_aload_n (pc := 28) S.1 S.2.1 dX8_sorts_28 rfl (lv_at hl 0 rfl) ?_
        refine lv_iload_n (pc := 29) S.1 S.2.1 dX8_sorts_29 rfl (lv_at hl 2 rfl) ?_
        refine lv_iconst (pc := 30) S.1 S.2.1 (v := 0) dX8_sorts_30 (by decide) ?_
        refine tGi hS (tRunV (pc := 31) (As := [.int x2, .int (0 : Int32)]) (rest := []) S E hP hS (mt_X8_of l dC dI a ca tb _ x2 (0 : Int32) st1 _ h) (cw_X8_of ⟨Nat.le_of_ble_eq_true rfl, Nat.le_of_ble_eq_true rfl⟩) kw_429 kw_430 kw_431 0 8 rfl rfl (cM_mo a ca st1) rfl hl.1 rfl (Nat.le_of_ble_eq_true rfl) dX8_sorts_31) (fun r4 st3 H locs h hP hS => ?_)
        refine lv_iload_n (pc := 34) S.1 S.2.1 dX8_sorts_34 rfl (lv_at hl 1 rfl) ?_
        refine lv_icmp_eq (pc := 35) (tgt := 41) S.1 S.2.1 dX8_sorts_35 (by decide) (fun c3 => ?_) (fun c3 => ?_)
        · have h := h.1 c3
          refine lv_aload_n (pc := 41) S.1 S.2.1 dX8_sorts_41 rfl (lv_at hl 0 rfl) ?_
          refine tp_get (pc := 42) S E.1 hP iwX8 0 (cM_mo a ca st3) rfl 22 (by decide) kw_432 (v := .ref (a 14)) rfl dX8_sorts_42 ?_
          refine lv_aload_n (pc := 45) S.1 S.2.1 dX8_sorts_45 rfl (lv_at hl 0 rfl) ?_
          refine tp_get (pc := 46) S E.1 hP iwX8 0 (cM_mo a ca st3) rfl 19 (by decide) kw_433 (v := .int (st3 6 0)) rfl dX8_sorts_46 ?_
          refine lv_iload_n (pc := 49) S.1 S.2.1 dX8_sorts_49 rfl (lv_at hl 2 rfl) ?_
          obtain ⟨hn4, h⟩ := h
          refine tp_iast (pc := 50) S E.1 hP (cM_D E st3) hS 14 0 (cM_row a ca st3) rfl (j := (st3 6 0).toNatClampNeg) rfl hn4 (sM_row a ca st3 _ _) dX8_sorts_50 (fun st5 H locs e5 hP hS => ?_)
          have h := h st5 e5
          refine lv_aload_n (pc := 51) S.1 S.2.1 dX8_sorts_51 rfl (lv_at hl 0 rfl) ?_
          refine lv_dup (pc := 52) S.1 S.2.1 dX8_sorts_52 rfl ?_
          refine tp_get (pc := 53) S E.1 hP iwX8 0 (cM_mo a ca st5) rfl 19 (by decide) kw_433 (v := .int (st5 6 0)) rfl dX8_sorts_53 ?_
          refine lv_iconst (pc := 56) S.1 S.2.1 (v := 1) dX8_sorts_56 (by decide) ?_
          refine lv_iadd (pc := 57) S.1 S.2.1 dX8_sorts_57 ?_
          refine tp_put (pc := 58) S E.1 hP (cM_D E st5) hS iwX8 tyX8 tyX8_ok nmX8 0 (cM_mo a ca st5) rfl 19 (by decide) kw_433 rfl (v := .int ((st5 6 0) + (1 : Int32))) (tyX8_ok 19 (by decide)) rfl rfl (Nat.le_of_ble_eq_true rfl) (sM_mo_many a ca st5 _) dX8_sorts_58 (fun st6 H locs e6 hP hS => ?_)
          have h := h st6 e6
          exact (fun x1 x2 st h => wk_X8_sorts_61 S hr hlk E post (wp_M_sorts_14 post k67 n) ih k67 hk67 x1 x2 st h) x1 x2 st6 h _ _ _ hP hS (lv_sub hl [0, 1, 2] rfl)
        · have h := h.2 c3
          refine lv_goto (pc := 38) S.1 S.2.1 (tgt := 61) dX8_sorts_38 (by decide) ?_
          exact (fun x1 x2 st h => wk_X8_sorts_61 S hr hlk E post (wp_M_sorts_14 post k67 n) ih k67 hk67 x1 x2 st h) x1 x2 st3 h _ _ _ hP hS (lv_sub hl [0, 1, 2] rfl)
set_option maxHeartbeats 4000000 in
set_option maxRecDepth 100000 in
theorem wk_X8_sorts_7 {p : Program} {l : Launch} {e : Env} {s : State} {m : MethodId} {args : Array Value} {below : List Frame} {meth : Method} {c : Code} {dC : Nat → ClassId} {dI : Nat → Nat → Nat} {a : Nat → Nat} {ca : Nat → ClassId} {tb : Nat → Nat} {w0 : Cond} (S : CallFix p m c cX8_sorts 3 s args (w0 :: tWALL) RX8) (hr : meth.sig.returnType = none) (hlk : meth.locks = false) (E : tEnv 21 dC dI a ca tb s) (post : tSt → Prop) : ∀ (n : Nat) (x1 : Int32) (st : tSt), wp_M_sorts_7 post n x1 st → tAt p l e rmX8_sorts s m args below meth c (dC, dI) (cwM a ca) (tA 21 a s.heap.size) (tQv (cwM a ca) 21 dC dI a args below s post) 3 7 [(0, .ref (a 0)), (1, .int x1)] [] st := by
  intro n
  induction n with
  | zero => intro x1 st h; exact absurd h id
  | succ n ih =>
    intro x1 st h H locs ls hP hS hl
    refine lv_iload_n (pc := 7) S.1 S.2.1 dX8_sorts_7 rfl (lv_at hl 1 rfl) ?_
    refine lv_iconst (pc := 8) S.1 S.2.1 (v := 4) dX8_sorts_8 (by decide) ?_
    refine lv_icmp_ge (pc := 9) (tgt := 73) S.1 S.2.1 dX8_sorts_9 (by decide) (fun c1 => ?_) (fun c1 => ?_)
    · have h := h.1 c1
      exact tRv S hr hlk hP hS h dX8_sorts_73
    · have h := h.2 c1
      refine lv_iconst (pc := 12) S.1 S.2.1 (v := 0) dX8_sorts_12 (by decide) ?_
      refine lv_istore_n (pc := 13) S.1 S.2.1 (lv' := [(2, .int (0 : Int32)), (0, .ref (a 0)), (1, .int x1)]) dX8_sorts_13 rfl hl (by decide) rfl (fun ls hl => ?_)
      exact (fun x1 x2 st h => Exists.elim h (fun q h => wk_X8_sorts_14 S hr hlk E post (wp_M_sorts_67 post (wp_M_sorts_7 post n)) (fun x1 st h => wk_X8_sorts_67 S hr hlk E post (wp_M_sorts_7 post n) ih x1 st h) q x1 x2 st h)) x1 (0 : Int32) st h _ _ _ hP hS (lv_sub hl [1, 2, 0] rfl)
set_option maxHeartbeats 4000000 in
set_option maxRecDepth 100000 in
theorem mt_X8_sorts (l : Launch) (dC : Nat → ClassId) (dI : Nat → Nat → Nat) (a : Nat → Nat) (ca : Nat → ClassId) (tb : Nat → Nat) (sz : Nat) (st : tSt) (post : tSt → Prop) (h : wp_M_sorts  st post) : Met l yX8_sorts (.code yX8_sorts cX8_sorts 3 none :: tWALL) rmX8_sorts (va_Pc [.ref (a 0)] (tPre 21 (cwM a ca) dC dI a ca tb sz st)) (va_Qv post (tB (cwM a ca) dC dI) (tA 21 a sz)) 0 0 (tA 21 a sz) := by
  refine tp_met (by decide) (Nat.le_of_ble_eq_true rfl) ?_
  intro p e s m below meth c ls S hr hlk hsz E hP hl
  subst hsz
  have S : CallFix p m c cX8_sorts 3 s _ (.code yX8_sorts cX8_sorts 3 none :: tWALL) RX8 := S
  have hl : lv_has ls 3 [(0, .ref (a 0))] := hl
  have hS : va_S (tA 21 a s.heap.size) s.heap s.heap [] := va_S.rf
  show W p l e _ s m _ below meth c s.heap [] 0 0 (tQv (cwM a ca) 21 dC dI a ([.ref (a 0)] : List Value).toArray below s post) (F0 m 0 ls [])
  refine lv_aload_n (pc := 0) S.1 S.2.1 dX8_sorts_0 rfl (lv_at hl 0 rfl) ?_
  refine lv_iconst (pc := 1) S.1 S.2.1 (v := 0) dX8_sorts_1 (by decide) ?_
  refine tp_put (pc := 2) S E.1 hP (cM_D E st) hS iwX8 tyX8 tyX8_ok nmX8 0 (cM_mo a ca st) rfl 19 (by decide) kw_433 rfl (v := .int (0 : Int32)) (tyX8_ok 19 (by decide)) rfl rfl (Nat.le_of_ble_eq_true rfl) (sM_mo_many a ca st _) dX8_sorts_2 (fun st1 H locs e1 hP hS => ?_)
  have h := h st1 e1
  refine lv_iconst (pc := 5) S.1 S.2.1 (v := 0) dX8_sorts_5 (by decide) ?_
  refine lv_istore_n (pc := 6) S.1 S.2.1 (lv' := [(1, .int (0 : Int32)), (0, .ref (a 0))]) dX8_sorts_6 rfl hl (by decide) rfl (fun ls hl => ?_)
  exact (fun x1 st h => Exists.elim h (fun q h => wk_X8_sorts_7 S hr hlk E post  q x1 st h)) (0 : Int32) st1 h _ _ _ hP hS (lv_sub hl [1, 0] rfl)

abbrev rmX8_apart : Room := { frames := 0, cells := 0, slots := 0, locals := 0 }
theorem cw_X8_apart {R : Room} {own : String} {index : Nat} (h : rmX8_apart.frames + 1 ≤ R.frames ∧ 8 + (2 + 11) + rmX8_apart.locals ≤ R.locals) : tCw R own index yX8_apart cX8_apart 2 (some .int) rmX8_apart 2 := ⟨kw_435, kw_373, ⟨rfl, rfl, h.1, h.2⟩, by decide +kernel, by decide +kernel, by decide +kernel⟩

set_option maxHeartbeats 4000000 in
set_option maxRecDepth 100000 in
theorem mt_X8_apart (l : Launch) (dC : Nat → ClassId) (dI : Nat → Nat → Nat) (a : Nat → Nat) (ca : Nat → ClassId) (tb : Nat → Nat) (sz : Nat) (x0 : Int32) (x1 : Int32) (st : tSt) (post : Int32 → tSt → Prop) (h : wp_M_apart x0 x1 st post) : Met l yX8_apart (.code yX8_apart cX8_apart 2 (some .int) :: tWALL) rmX8_apart (va_Pc [.int x0, .int x1] (tPre 21 (cwM a ca) dC dI a ca tb sz st)) (va_Qi post (tB (cwM a ca) dC dI) (tA 21 a sz)) 0 0 (tA 21 a sz) := by
  refine tp_met (by decide) (Nat.le_of_ble_eq_true rfl) ?_
  intro p e s m below meth c ls S hr hlk hsz E hP hl
  subst hsz
  have S : CallFix p m c cX8_apart 2 s _ (.code yX8_apart cX8_apart 2 (some .int) :: tWALL) RX8 := S
  have hl : lv_has ls 2 [(0, .int x0), (1, .int x1)] := hl
  have hS : va_S (tA 21 a s.heap.size) s.heap s.heap [] := va_S.rf
  show W p l e _ s m _ below meth c s.heap [] 0 0 (tQi (cwM a ca) 21 dC dI a ([.int x0, .int x1] : List Value).toArray below s post) (F0 m 0 ls [])
  refine lv_iload_n (pc := 0) S.1 S.2.1 dX8_apart_0 rfl (lv_at hl 0 rfl) ?_
  refine lv_iload_n (pc := 1) S.1 S.2.1 dX8_apart_1 rfl (lv_at hl 1 rfl) ?_
  refine lv_icmp_ge (pc := 2) (tgt := 11) S.1 S.2.1 dX8_apart_2 (by decide) (fun c1 => ?_) (fun c1 => ?_)
  · have h := h.1 c1
    refine lv_iload_n (pc := 11) S.1 S.2.1 dX8_apart_11 rfl (lv_at hl 0 rfl) ?_
    refine lv_iload_n (pc := 12) S.1 S.2.1 dX8_apart_12 rfl (lv_at hl 1 rfl) ?_
    refine lv_isub (pc := 13) S.1 S.2.1 dX8_apart_13 ?_
    exact tRi S hr hlk hP hS h dX8_apart_14
  · have h := h.2 c1
    refine lv_iload_n (pc := 5) S.1 S.2.1 dX8_apart_5 rfl (lv_at hl 1 rfl) ?_
    refine lv_iload_n (pc := 6) S.1 S.2.1 dX8_apart_6 rfl (lv_at hl 0 rfl) ?_
    refine lv_isub (pc := 7) S.1 S.2.1 dX8_apart_7 ?_
    refine lv_goto (pc := 8) S.1 S.2.1 (tgt := 14) dX8_apart_8 (by decide) ?_
    exact tRi S hr hlk hP hS h dX8_apart_14

abbrev rmX8_goes : Room := { frames := 1, cells := 0, slots := 0, locals := 22 }
theorem cw_X8_goes {R : Room} {own : String} {index : Nat} (h : rmX8_goes.frames + 1 ≤ R.frames ∧ 8 + (6 + 11) + rmX8_goes.locals ≤ R.locals) : tCw R own index yX8_goes cX8_goes 6 (some .boolean) rmX8_goes 2 := ⟨kw_438, kw_373, ⟨rfl, rfl, h.1, h.2⟩, by decide +kernel, by decide +kernel, by decide +kernel⟩
set_option maxHeartbeats 4000000 in
set_option maxRecDepth 100000 in
theorem wk_X8_goes_61 {p : Program} {l : Launch} {e : Env} {s : State} {m : MethodId} {args : Array Value} {below : List Frame} {meth : Method} {c : Code} {dC : Nat → ClassId} {dI : Nat → Nat → Nat} {a : Nat → Nat} {ca : Nat → ClassId} {tb : Nat → Nat} {w0 : Cond} (S : CallFix p m c cX8_goes 6 s args (w0 :: tWALL) RX8) (hr : meth.sig.returnType = (some .boolean)) (hlk : meth.locks = false) (E : tEnv 21 dC dI a ca tb s) (post : Int32 → tSt → Prop) : ∀ (x4 : Int32) (s0 : Int32) (st : tSt), wp_M_goes_61 post x4 s0 st → tAt p l e rmX8_goes s m args below meth c (dC, dI) (cwM a ca) (tA 21 a s.heap.size) (tQi (cwM a ca) 21 dC dI a args below s post) 6 61 [(0, .ref (a 0)), (4, .int x4)] [.int s0] st := by
  intro x4 s0 st h H locs ls hP hS hl
  refine lv_istore (pc := 61) S.1 S.2.1 (lv' := [(5, .int s0), (0, .ref (a 0)), (4, .int x4)]) dX8_goes_61 hl (by decide) rfl (fun ls hl => ?_)
  refine lv_aload_n (pc := 63) S.1 S.2.1 dX8_goes_63 rfl (lv_at hl 1 rfl) ?_
  refine lv_iload (pc := 64) S.1 S.2.1 dX8_goes_64 (lv_at hl 0 rfl) ?_
  refine lv_iconst (pc := 66) S.1 S.2.1 (v := 1) dX8_goes_66 (by decide) ?_
  refine tGi hS (tRunV (pc := 67) (As := [.int s0, .int (1 : Int32)]) (rest := []) S E hP hS (mt_X8_of l dC dI a ca tb _ s0 (1 : Int32) st _ h) (cw_X8_of ⟨Nat.le_of_ble_eq_true rfl, Nat.le_of_ble_eq_true rfl⟩) kw_429 kw_430 kw_431 0 8 rfl rfl (cM_mo a ca st) rfl hl.1 rfl (Nat.le_of_ble_eq_true rfl) dX8_goes_67) (fun r2 st1 H locs h hP hS => ?_)
  refine lv_aload_n (pc := 70) S.1 S.2.1 dX8_goes_70 rfl (lv_at hl 1 rfl) ?_
  refine lv_iload (pc := 71) S.1 S.2.1 dX8_goes_71 (lv_at hl 2 rfl) ?_
  refine lv_iconst (pc := 73) S.1 S.2.1 (v := 1) dX8_goes_73 (by decide) ?_
  refine tGi hS (tRunV (pc := 74) (As := [.int x4, .int (1 : Int32)]) (rest := [.int r2]) S E hP hS (mt_X8_of l dC dI a ca tb _ x4 (1 : Int32) st1 _ h) (cw_X8_of ⟨Nat.le_of_ble_eq_true rfl, Nat.le_of_ble_eq_true rfl⟩) kw_429 kw_430 kw_431 0 8 rfl rfl (cM_mo a ca st1) rfl hl.1 rfl (Nat.le_of_ble_eq_true rfl) dX8_goes_74) (fun r4 st3 H locs h hP hS => ?_)
  refine lv_aload_n (pc := 77) S.1 S.2.1 dX8_goes_77 rfl (lv_at hl 1 rfl) ?_
  refine lv_iload (pc := 78) S.1 S.2.1 dX8_goes_78 (lv_at hl 2 rfl) ?_
  refine lv_iconst (pc := 80) S.1 S.2.1 (v := 2) dX8_goes_80 (by decide) ?_
  refine tGi hS (tRunV (pc := 81) (As := [.int x4, .int (2 : Int32)]) (rest := [.int r4, .int r2]) S E hP hS (mt_X8_of l dC dI a ca tb _ x4 (2 : Int32) st3 _ h) (cw_X8_of ⟨Nat.le_of_ble_eq_true rfl, Nat.le_of_ble_eq_true rfl⟩) kw_429 kw_430 kw_431 0 8 rfl rfl (cM_mo a ca st3) rfl hl.1 rfl (Nat.le_of_ble_eq_true rfl) dX8_goes_81) (fun r6 st5 H locs h hP hS => ?_)
  refine lv_iadd (pc := 84) S.1 S.2.1 dX8_goes_84 ?_
  refine lv_aload_n (pc := 85) S.1 S.2.1 dX8_goes_85 rfl (lv_at hl 1 rfl) ?_
  refine tp_get (pc := 86) S E.1 hP iwX8 0 (cM_mo a ca st5) rfl 7 (by decide) kw_400 (v := .ref (a 2)) rfl dX8_goes_86 ?_
  refine lv_iconst (pc := 89) S.1 S.2.1 (v := 0) dX8_goes_89 (by decide) ?_
  refine tp_iald (pc := 90) S E.1 hP 2 0 (cM_four a ca st5 (j := 0) (by decide)) rfl (j := 0) (by decide +kernel) (by decide +kernel : ¬ ((0 : Int32) < 0 ∨ 4 ≤ (0 : Int32).toNatClampNeg)) dX8_goes_90 ?_
  refine lv_aload_n (pc := 91) S.1 S.2.1 dX8_goes_91 rfl (lv_at hl 1 rfl) ?_
  refine lv_iload (pc := 92) S.1 S.2.1 dX8_goes_92 (lv_at hl 2 rfl) ?_
  refine lv_iconst (pc := 94) S.1 S.2.1 (v := 3) dX8_goes_94 (by decide) ?_
  refine tGi hS (tRunV (pc := 95) (As := [.int x4, .int (3 : Int32)]) (rest := [.int (st5 10 0), .int (r4 + r6), .int r2]) S E hP hS (mt_X8_of l dC dI a ca tb _ x4 (3 : Int32) st5 _ h) (cw_X8_of ⟨Nat.le_of_ble_eq_true rfl, Nat.le_of_ble_eq_true rfl⟩) kw_429 kw_430 kw_431 0 8 rfl rfl (cM_mo a ca st5) rfl hl.1 rfl (Nat.le_of_ble_eq_true rfl) dX8_goes_95) (fun r8 st7 H locs h hP hS => ?_)
  refine lv_aload_n (pc := 98) S.1 S.2.1 dX8_goes_98 rfl (lv_at hl 1 rfl) ?_
  refine lv_iload (pc := 99) S.1 S.2.1 dX8_goes_99 (lv_at hl 0 rfl) ?_
  refine lv_iconst (pc := 101) S.1 S.2.1 (v := 3) dX8_goes_101 (by decide) ?_
  refine tGi hS (tRunV (pc := 102) (As := [.int s0, .int (3 : Int32)]) (rest := [.int r8, .int (st5 10 0), .int (r4 + r6), .int r2]) S E hP hS (mt_X8_of l dC dI a ca tb _ s0 (3 : Int32) st7 _ h) (cw_X8_of ⟨Nat.le_of_ble_eq_true rfl, Nat.le_of_ble_eq_true rfl⟩) kw_429 kw_430 kw_431 0 8 rfl rfl (cM_mo a ca st7) rfl hl.1 rfl (Nat.le_of_ble_eq_true rfl) dX8_goes_102) (fun r10 st9 H locs h hP hS => ?_)
  refine tGi hS (tRunS (pc := 105) (As := [.int r8, .int r10]) (rest := [.int (st5 10 0), .int (r4 + r6), .int r2]) S E hP hS (mt_X8_apart l dC dI a ca tb _ r8 r10 st9 _ h) (cw_X8_apart ⟨Nat.le_of_ble_eq_true rfl, Nat.le_of_ble_eq_true rfl⟩) kw_437 kw_436 rfl hl.1 rfl (Nat.le_of_ble_eq_true rfl) dX8_goes_105) (fun r12 st11 H locs h hP hS => ?_)
  refine lv_imul (pc := 108) S.1 S.2.1 dX8_goes_108 ?_
  refine lv_iadd (pc := 109) S.1 S.2.1 dX8_goes_109 ?_
  refine lv_icmp_lt (pc := 110) (tgt := 117) S.1 S.2.1 dX8_goes_110 (by decide) (fun c1 => ?_) (fun c1 => ?_)
  · have h := h.1 c1
    refine lv_iconst (pc := 117) S.1 S.2.1 (v := 0) dX8_goes_117 (by decide) ?_
    exact tRz S hr hlk hP hS (Or.inl rfl) h dX8_goes_118
  · have h := h.2 c1
    refine lv_iconst (pc := 113) S.1 S.2.1 (v := 1) dX8_goes_113 (by decide) ?_
    refine lv_goto (pc := 114) S.1 S.2.1 (tgt := 118) dX8_goes_114 (by decide) ?_
    exact tRz S hr hlk hP hS (Or.inr rfl) h dX8_goes_118
set_option maxHeartbeats 4000000 in
set_option maxRecDepth 100000 in
theorem wk_X8_goes_50 {p : Program} {l : Launch} {e : Env} {s : State} {m : MethodId} {args : Array Value} {below : List Frame} {meth : Method} {c : Code} {dC : Nat → ClassId} {dI : Nat → Nat → Nat} {a : Nat → Nat} {ca : Nat → ClassId} {tb : Nat → Nat} {w0 : Cond} (S : CallFix p m c cX8_goes 6 s args (w0 :: tWALL) RX8) (hr : meth.sig.returnType = (some .boolean)) (hlk : meth.locks = false) (E : tEnv 21 dC dI a ca tb s) (post : Int32 → tSt → Prop) : ∀ (x1 : Int32) (x2 : Int32) (x3 : Int32) (s0 : Int32) (st : tSt), wp_M_goes_50 post x1 x2 x3 s0 st → tAt p l e rmX8_goes s m args below meth c (dC, dI) (cwM a ca) (tA 21 a s.heap.size) (tQi (cwM a ca) 21 dC dI a args below s post) 6 50 [(0, .ref (a 0)), (1, .int x1), (2, .int x2), (3, .int x3)] [.int s0] st := by
  intro x1 x2 x3 s0 st h H locs ls hP hS hl
  refine lv_istore (pc := 50) S.1 S.2.1 (lv' := [(4, .int s0), (0, .ref (a 0)), (1, .int x1), (2, .int x2), (3, .int x3)]) dX8_goes_50 hl (by decide) rfl (fun ls hl => ?_)
  refine lv_iload_n (pc := 52) S.1 S.2.1 dX8_goes_52 rfl (lv_at hl 4 rfl) ?_
  refine lv_if_eq (pc := 53) (tgt := 60) S.1 S.2.1 dX8_goes_53 (by decide) (fun c1 => ?_) (fun c1 => ?_)
  · have h := h.1 c1
    refine lv_iload_n (pc := 60) S.1 S.2.1 dX8_goes_60 rfl (lv_at hl 2 rfl) ?_
    exact (fun x4 s0 st h => wk_X8_goes_61 S hr hlk E post  x4 s0 st h) s0 x1 st h _ _ _ hP hS (lv_sub hl [1, 0] rfl)
  · have h := h.2 c1
    refine lv_iload_n (pc := 56) S.1 S.2.1 dX8_goes_56 rfl (lv_at hl 3 rfl) ?_
    refine lv_goto (pc := 57) S.1 S.2.1 (tgt := 61) dX8_goes_57 (by decide) ?_
    exact (fun x4 s0 st h => wk_X8_goes_61 S hr hlk E post  x4 s0 st h) s0 x2 st h _ _ _ hP hS (lv_sub hl [1, 0] rfl)
set_option maxHeartbeats 4000000 in
set_option maxRecDepth 100000 in
theorem wk_X8_goes_40 {p : Program} {l : Launch} {e : Env} {s : State} {m : MethodId} {args : Array Value} {below : List Frame} {meth : Method} {c : Code} {dC : Nat → ClassId} {dI : Nat → Nat → Nat} {a : Nat → Nat} {ca : Nat → ClassId} {tb : Nat → Nat} {w0 : Cond} (S : CallFix p m c cX8_goes 6 s args (w0 :: tWALL) RX8) (hr : meth.sig.returnType = (some .boolean)) (hlk : meth.locks = false) (E : tEnv 21 dC dI a ca tb s) (post : Int32 → tSt → Prop) : ∀ (x1 : Int32) (x2 : Int32) (s0 : Int32) (st : tSt), wp_M_goes_40 post x1 x2 s0 st → tAt p l e rmX8_goes s m args below meth c (dC, dI) (cwM a ca) (tA 21 a s.heap.size) (tQi (cwM a ca) 21 dC dI a args below s post) 6 40 [(0, .ref (a 0)), (1, .int x1), (2, .int x2)] [.int s0] st := by
  intro x1 x2 s0 st h H locs ls hP hS hl
  refine lv_istore_n (pc := 40) S.1 S.2.1 (lv' := [(3, .int s0), (0, .ref (a 0)), (1, .int x1), (2, .int x2)]) dX8_goes_40 rfl hl (by decide) rfl (fun ls hl => ?_)
  refine lv_iload_n (pc := 41) S.1 S.2.1 dX8_goes_41 rfl (lv_at hl 0 rfl) ?_
  refine lv_if_eq (pc := 42) (tgt := 49) S.1 S.2.1 dX8_goes_42 (by decide) (fun c1 => ?_) (fun c1 => ?_)
  · have h := h.1 c1
    refine lv_iload_n (pc := 49) S.1 S.2.1 dX8_goes_49 rfl (lv_at hl 3 rfl) ?_
    exact (fun x1 x2 x3 s0 st h => wk_X8_goes_50 S hr hlk E post  x1 x2 x3 s0 st h) x1 x2 s0 x2 st h _ _ _ hP hS (lv_sub hl [1, 2, 3, 0] rfl)
  · have h := h.2 c1
    refine lv_iload_n (pc := 45) S.1 S.2.1 dX8_goes_45 rfl (lv_at hl 2 rfl) ?_
    refine lv_goto (pc := 46) S.1 S.2.1 (tgt := 50) dX8_goes_46 (by decide) ?_
    exact (fun x1 x2 x3 s0 st h => wk_X8_goes_50 S hr hlk E post  x1 x2 x3 s0 st h) x1 x2 s0 x1 st h _ _ _ hP hS (lv_sub hl [1, 2, 3, 0] rfl)
set_option maxHeartbeats 4000000 in
set_option maxRecDepth 100000 in
theorem wk_X8_goes_35 {p : Program} {l : Launch} {e : Env} {s : State} {m : MethodId} {args : Array Value} {below : List Frame} {meth : Method} {c : Code} {dC : Nat → ClassId} {dI : Nat → Nat → Nat} {a : Nat → Nat} {ca : Nat → ClassId} {tb : Nat → Nat} {w0 : Cond} (S : CallFix p m c cX8_goes 6 s args (w0 :: tWALL) RX8) (hr : meth.sig.returnType = (some .boolean)) (hlk : meth.locks = false) (E : tEnv 21 dC dI a ca tb s) (post : Int32 → tSt → Prop) : ∀ (x1 : Int32) (x2 : Int32) (st : tSt), wp_M_goes_35 post x1 x2 st → tAt p l e rmX8_goes s m args below meth c (dC, dI) (cwM a ca) (tA 21 a s.heap.size) (tQi (cwM a ca) 21 dC dI a args below s post) 6 35 [(0, .ref (a 0)), (1, .int x1), (2, .int x2)] [] st := by
  intro x1 x2 st h H locs ls hP hS hl
  refine lv_iconst (pc := 35) S.1 S.2.1 (v := 1) dX8_goes_35 (by decide) ?_
  refine lv_goto (pc := 36) S.1 S.2.1 (tgt := 40) dX8_goes_36 (by decide) ?_
  exact (fun x1 x2 s0 st h => wk_X8_goes_40 S hr hlk E post  x1 x2 s0 st h) x1 x2 (1 : Int32) st h _ _ _ hP hS (lv_sub hl [0, 1, 2] rfl)
set_option maxHeartbeats 4000000 in
set_option maxRecDepth 100000 in
theorem wk_X8_goes_39 {p : Program} {l : Launch} {e : Env} {s : State} {m : MethodId} {args : Array Value} {below : List Frame} {meth : Method} {c : Code} {dC : Nat → ClassId} {dI : Nat → Nat → Nat} {a : Nat → Nat} {ca : Nat → ClassId} {tb : Nat → Nat} {w0 : Cond} (S : CallFix p m c cX8_goes 6 s args (w0 :: tWALL) RX8) (hr : meth.sig.returnType = (some .boolean)) (hlk : meth.locks = false) (E : tEnv 21 dC dI a ca tb s) (post : Int32 → tSt → Prop) : ∀ (x1 : Int32) (x2 : Int32) (st : tSt), wp_M_goes_39 post x1 x2 st → tAt p l e rmX8_goes s m args below meth c (dC, dI) (cwM a ca) (tA 21 a s.heap.size) (tQi (cwM a ca) 21 dC dI a args below s post) 6 39 [(0, .ref (a 0)), (1, .int x1), (2, .int x2)] [] st := by
  intro x1 x2 st h H locs ls hP hS hl
  refine lv_iconst (pc := 39) S.1 S.2.1 (v := 0) dX8_goes_39 (by decide) ?_
  exact (fun x1 x2 s0 st h => wk_X8_goes_40 S hr hlk E post  x1 x2 s0 st h) x1 x2 (0 : Int32) st h _ _ _ hP hS (lv_sub hl [0, 1, 2] rfl)
set_option maxHeartbeats 4000000 in
set_option maxRecDepth 100000 in
theorem mt_X8_goes (l : Launch) (dC : Nat → ClassId) (dI : Nat → Nat → Nat) (a : Nat → Nat) (ca : Nat → ClassId) (tb : Nat → Nat) (sz : Nat) (x1 : Int32) (x2 : Int32) (st : tSt) (post : Int32 → tSt → Prop) (h : wp_M_goes x1 x2 st post) : Met l yX8_goes (.code yX8_goes cX8_goes 6 (some .boolean) :: tWALL) rmX8_goes (va_Pc [.ref (a 0), .int x1, .int x2] (tPre 21 (cwM a ca) dC dI a ca tb sz st)) (va_Qi post (tB (cwM a ca) dC dI) (tA 21 a sz)) 0 0 (tA 21 a sz) := by
  refine tp_met (by decide) (Nat.le_of_ble_eq_true rfl) ?_
  intro p e s m below meth c ls S hr hlk hsz E hP hl
  subst hsz
  have S : CallFix p m c cX8_goes 6 s _ (.code yX8_goes cX8_goes 6 (some .boolean) :: tWALL) RX8 := S
  have hl : lv_has ls 6 [(0, .ref (a 0)), (1, .int x1), (2, .int x2)] := hl
  have hS : va_S (tA 21 a s.heap.size) s.heap s.heap [] := va_S.rf
  show W p l e _ s m _ below meth c s.heap [] 0 0 (tQi (cwM a ca) 21 dC dI a ([.ref (a 0), .int x1, .int x2] : List Value).toArray below s post) (F0 m 0 ls [])
  refine lv_aload_n (pc := 0) S.1 S.2.1 dX8_goes_0 rfl (lv_at hl 0 rfl) ?_
  refine lv_iload_n (pc := 1) S.1 S.2.1 dX8_goes_1 rfl (lv_at hl 1 rfl) ?_
  refine lv_iconst (pc := 2) S.1 S.2.1 (v := 1) dX8_goes_2 (by decide) ?_
  refine tGi hS (tRunV (pc := 3) (As := [.int x1, .int (1 : Int32)]) (rest := []) S E hP hS (mt_X8_of l dC dI a ca tb _ x1 (1 : Int32) st _ h) (cw_X8_of ⟨Nat.le_of_ble_eq_true rfl, Nat.le_of_ble_eq_true rfl⟩) kw_429 kw_430 kw_431 0 8 rfl rfl (cM_mo a ca st) rfl hl.1 rfl (Nat.le_of_ble_eq_true rfl) dX8_goes_3) (fun r2 st1 H locs h hP hS => ?_)
  refine lv_aload_n (pc := 6) S.1 S.2.1 dX8_goes_6 rfl (lv_at hl 0 rfl) ?_
  refine lv_iload_n (pc := 7) S.1 S.2.1 dX8_goes_7 rfl (lv_at hl 2 rfl) ?_
  refine lv_iconst (pc := 8) S.1 S.2.1 (v := 1) dX8_goes_8 (by decide) ?_
  refine tGi hS (tRunV (pc := 9) (As := [.int x2, .int (1 : Int32)]) (rest := [.int r2]) S E hP hS (mt_X8_of l dC dI a ca tb _ x2 (1 : Int32) st1 _ h) (cw_X8_of ⟨Nat.le_of_ble_eq_true rfl, Nat.le_of_ble_eq_true rfl⟩) kw_429 kw_430 kw_431 0 8 rfl rfl (cM_mo a ca st1) rfl hl.1 rfl (Nat.le_of_ble_eq_true rfl) dX8_goes_9) (fun r4 st3 H locs h hP hS => ?_)
  refine lv_icmp_lt (pc := 12) (tgt := 35) S.1 S.2.1 dX8_goes_12 (by decide) (fun c1 => ?_) (fun c1 => ?_)
  · have h := h.1 c1
    exact (fun x1 x2 st h => wk_X8_goes_35 S hr hlk E post  x1 x2 st h) x1 x2 st3 h _ _ _ hP hS (lv_sub hl [0, 1, 2] rfl)
  · have h := h.2 c1
    refine lv_aload_n (pc := 15) S.1 S.2.1 dX8_goes_15 rfl (lv_at hl 0 rfl) ?_
    refine lv_iload_n (pc := 16) S.1 S.2.1 dX8_goes_16 rfl (lv_at hl 1 rfl) ?_
    refine lv_iconst (pc := 17) S.1 S.2.1 (v := 1) dX8_goes_17 (by decide) ?_
    refine tGi hS (tRunV (pc := 18) (As := [.int x1, .int (1 : Int32)]) (rest := []) S E hP hS (mt_X8_of l dC dI a ca tb _ x1 (1 : Int32) st3 _ h) (cw_X8_of ⟨Nat.le_of_ble_eq_true rfl, Nat.le_of_ble_eq_true rfl⟩) kw_429 kw_430 kw_431 0 8 rfl rfl (cM_mo a ca st3) rfl hl.1 rfl (Nat.le_of_ble_eq_true rfl) dX8_goes_18) (fun r6 st5 H locs h hP hS => ?_)
    refine lv_aload_n (pc := 21) S.1 S.2.1 dX8_goes_21 rfl (lv_at hl 0 rfl) ?_
    refine lv_iload_n (pc := 22) S.1 S.2.1 dX8_goes_22 rfl (lv_at hl 2 rfl) ?_
    refine lv_iconst (pc := 23) S.1 S.2.1 (v := 1) dX8_goes_23 (by decide) ?_
    refine tGi hS (tRunV (pc := 24) (As := [.int x2, .int (1 : Int32)]) (rest := [.int r6]) S E hP hS (mt_X8_of l dC dI a ca tb _ x2 (1 : Int32) st5 _ h) (cw_X8_of ⟨Nat.le_of_ble_eq_true rfl, Nat.le_of_ble_eq_true rfl⟩) kw_429 kw_430 kw_431 0 8 rfl rfl (cM_mo a ca st5) rfl hl.1 rfl (Nat.le_of_ble_eq_true rfl) dX8_goes_24) (fun r8 st7 H locs h hP hS => ?_)
    refine lv_icmp_ne (pc := 27) (tgt := 39) S.1 S.2.1 dX8_goes_27 (by decide) (fun c2 => ?_) (fun c2 => ?_)
    · have h := h.2 c2
      exact (fun x1 x2 st h => wk_X8_goes_39 S hr hlk E post  x1 x2 st h) x1 x2 st7 h _ _ _ hP hS (lv_sub hl [0, 1, 2] rfl)
    · have h := h.1 c2
      refine lv_iload_n (pc := 30) S.1 S.2.1 dX8_goes_30 rfl (lv_at hl 1 rfl) ?_
      refine lv_iload_n (pc := 31) S.1 S.2.1 dX8_goes_31 rfl (lv_at hl 2 rfl) ?_
      refine lv_icmp_ge (pc := 32) (tgt := 39) S.1 S.2.1 dX8_goes_32 (by decide) (fun c3 => ?_) (fun c3 => ?_)
      · have h := h.1 c3
        exact (fun x1 x2 st h => wk_X8_goes_39 S hr hlk E post  x1 x2 st h) x1 x2 st7 h _ _ _ hP hS (lv_sub hl [0, 1, 2] rfl)
      · have h := h.2 c3
        exact (fun x1 x2 st h => wk_X8_goes_35 S hr hlk E post  x1 x2 st h) x1 x2 st7 h _ _ _ hP hS (lv_sub hl [0, 1, 2] rfl)
