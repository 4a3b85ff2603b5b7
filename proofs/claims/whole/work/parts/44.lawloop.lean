set_option maxHeartbeats 8000000 in
set_option maxRecDepth 200000 in
theorem law_loop {p : Program} {l : Launch} {e : Env} {s : State} {m : MethodId} {below : List Frame} {meth : Method} {c : Code} {dC : Nat → ClassId} {dI : Nat → Nat → Nat} {a am : Nat → Nat} {ca : Nat → ClassId} {tb : Nat → Nat} {b L : Nat} {xs : Nat → Int32} {Rel : tSt → tSt → Prop} (hpure : lwPure Rel) (hL : L ≤ 4608) (C0 : lw_At p s m meth c b L xs) (E : lwEnv 47 dC dI a ca tb s) (EM : lwEnv 21 dC dI am ca tb s) (hdis : ∀ i j, i < 47 → j < 21 → a i ≠ am j) :
    ∀ (n i : Nat) (x3 : Int32), i ≤ L → L + 1 ≤ i + n → x3 = nI i → ∀ (st sm : tSt), Rel st sm → ∀ (H : Heap) (locs : List Loc), va_P (dC, dI) vwCl (cwC a ca st) H → va_P (dC, dI) vwCl (cwM am ca sm) H → va_S (fun q : Nat => s.heap.size ≤ q) s.heap H locs → ∀ (ls : Array Slot), lv_has ls 4 [(0, .ref b), (1, .ref (a 0)), (2, .ref (am 0)), (3, .int x3)] → W p l e room_1 s m #[Value.ref b] below meth c H locs 68 545 (lw_Z below #[Value.ref b] s) (F0 m 18 ls []) := by
  obtain ⟨hx, hb, hr, hml, hown, hts, hX, hbl, hlocks, hgv⟩ := C0
  have S : CallFix p m c cL_law 4 s #[Value.ref b] lw_tbl RL := ⟨hx, hb, hml, hown, hts⟩
  have hbA : ¬ (fun q : Nat => s.heap.size ≤ q) b := Nat.not_le.mpr hbl
  have hdis2 : ∀ i j, i < 21 → j < 47 → am i ≠ a j := fun i j hi hj h => hdis j i hj hi h.symm
  intro n
  induction n with
  | zero => intro i x3 h1 h2; exact absurd h2 (by omega)
  | succ n ih =>
    intro i x3 hi hin ex3 st sm hR H locs hP hO hS ls hl
    refine lv_iload_n (pc := 18) S.1 S.2.1 dL_law_18 rfl (lv_at hl 3 rfl) ?_
    refine lv_aload_n (pc := 19) S.1 S.2.1 dL_law_19 rfl (lv_at hl 0 rfl) ?_
    refine va_slen (pc := 20) S.1 S.2.1 hX hbl hbA hS dL_law_20 ?_
    refine lv_bipush (pc := 21) S.1 S.2.1 (v := 9) dL_law_21 (by decide) ?_
    refine lv_isub (pc := 23) S.1 S.2.1 dL_law_23 ?_
    refine lv_icmp_gt (pc := 24) (tgt := 749) S.1 S.2.1 dL_law_24 (by decide) (fun c0 => ?_) (fun c0 => ?_)
    · refine lv_iconst (pc := 749) S.1 S.2.1 (v := 1) dL_law_749 (by decide) ?_
      refine va_forget (fun q hq => hS.2.2 q hq) ?_
      refine W.widen (k := 607412) (n := 7280013) (by decide) (by decide) ?_
      exact lw_ret hx hb hr hlocks dL_law_750
    have hgo : i + 9 ≤ L := lw_go hL hi (by rw [← ex3]; exact c0)
    refine lv_aload_n (pc := 27) S.1 S.2.1 dL_law_27 rfl (lv_at hl 0 rfl) ?_
    refine lv_iload_n (pc := 28) S.1 S.2.1 dL_law_28 rfl (lv_at hl 3 rfl) ?_
    refine va_sld (pc := 29) S.1 S.2.1 hX hbl hbA hS (lw_ix0 hL hgo ex3) dL_law_29 ?_
    refine lv_bipush (pc := 30) S.1 S.2.1 (v := 31) dL_law_30 (by decide) ?_
    refine lv_iand (pc := 32) S.1 S.2.1 dL_law_32 ?_
    refine lv_topi (fun sel esel => ?_)
    have fin : ∀ (st1 sm1 : tSt), Rel st1 sm1 → ∀ (H : Heap) (locs : List Loc) (ls : Array Slot), va_P (dC, dI) vwCl (cwC a ca st1) H → va_P (dC, dI) vwCl (cwM am ca sm1) H → va_S (fun q : Nat => s.heap.size ≤ q) s.heap H locs → lv_has ls 4 [(0, .ref b), (1, .ref (a 0)), (2, .ref (am 0)), (3, .int x3)] → W p l e room_1 s m #[Value.ref b] below meth c H locs 68 545 (lw_Z below #[Value.ref b] s) (F0 m 743 ls []) := by
      intro st1 sm1 hR1 H locs ls hP hO hS hl
      obtain ⟨y3, e3⟩ : ∃ y : Int32, y = x3 + 9 := ⟨_, rfl⟩
      refine lv_iinc (pc := 743) S.1 S.2.1 (v := y3) (lv' := [(3, .int y3), (0, .ref b), (1, .ref (a 0)), (2, .ref (am 0))]) dL_law_743 hl (k := 3) rfl (by rw [e3]; rfl) (by decide) rfl (fun ls hl => ?_)
      refine lv_goto (pc := 746) S.1 S.2.1 (tgt := 18) dL_law_746 (by decide) ?_
      exact ih (i + 9) y3 hgo (by omega) (by rw [e3, ex3]; exact nI_add i 9) st1 sm1 hR1 _ _ hP hO hS ls (lv_sub hl [1, 2, 3, 0] rfl)
    by_cases c1 : sel = 0
    · refine lv_tableIn (pc := 33) (tgt := 124) S.1 S.2.1 dL_law_33 (by rw [c1]; decide) (by rw [c1]; decide) (by rw [c1]; rfl) (by decide) ?_
      refine lv_aload_n (pc := 124) S.1 S.2.1 dL_law_124 rfl (lv_at hl 1 rfl) ?_
      refine lv_aload_n (pc := 125) S.1 S.2.1 dL_law_125 rfl (lv_at hl 0 rfl) ?_
      refine lv_iload_n (pc := 126) S.1 S.2.1 dL_law_126 rfl (lv_at hl 3 rfl) ?_
      refine lv_iconst (pc := 127) S.1 S.2.1 (v := 1) dL_law_127 (by decide) ?_
      refine lv_iadd (pc := 128) S.1 S.2.1 dL_law_128 ?_
      refine va_sld (pc := 129) S.1 S.2.1 hX hbl hbA hS (lw_ix (k := 1) hL hgo (by decide) ex3 rfl) dL_law_129 ?_
      refine lv_aload_n (pc := 130) S.1 S.2.1 dL_law_130 rfl (lv_at hl 0 rfl) ?_
      refine lv_iload_n (pc := 131) S.1 S.2.1 dL_law_131 rfl (lv_at hl 3 rfl) ?_
      refine lv_iconst (pc := 132) S.1 S.2.1 (v := 2) dL_law_132 (by decide) ?_
      refine lv_iadd (pc := 133) S.1 S.2.1 dL_law_133 ?_
      refine va_sld (pc := 134) S.1 S.2.1 hX hbl hbA hS (lw_ix (k := 2) hL hgo (by decide) ex3 rfl) dL_law_134 ?_
      refine lv_aload_n (pc := 135) S.1 S.2.1 dL_law_135 rfl (lv_at hl 0 rfl) ?_
      refine lv_iload_n (pc := 136) S.1 S.2.1 dL_law_136 rfl (lv_at hl 3 rfl) ?_
      refine lv_iconst (pc := 137) S.1 S.2.1 (v := 3) dL_law_137 (by decide) ?_
      refine lv_iadd (pc := 138) S.1 S.2.1 dL_law_138 ?_
      refine va_sld (pc := 139) S.1 S.2.1 hX hbl hbA hS (lw_ix (k := 3) hL hgo (by decide) ex3 rfl) dL_law_139 ?_
      refine lv_aload_n (pc := 140) S.1 S.2.1 dL_law_140 rfl (lv_at hl 0 rfl) ?_
      refine lv_iload_n (pc := 141) S.1 S.2.1 dL_law_141 rfl (lv_at hl 3 rfl) ?_
      refine lv_iconst (pc := 142) S.1 S.2.1 (v := 4) dL_law_142 (by decide) ?_
      refine lv_iadd (pc := 143) S.1 S.2.1 dL_law_143 ?_
      refine va_sld (pc := 144) S.1 S.2.1 hX hbl hbA hS (lw_ix (k := 4) hL hgo (by decide) ex3 rfl) dL_law_144 ?_
      refine lv_aload_n (pc := 145) S.1 S.2.1 dL_law_145 rfl (lv_at hl 0 rfl) ?_
      refine lv_iload_n (pc := 146) S.1 S.2.1 dL_law_146 rfl (lv_at hl 3 rfl) ?_
      refine lv_iconst (pc := 147) S.1 S.2.1 (v := 5) dL_law_147 (by decide) ?_
      refine lv_iadd (pc := 148) S.1 S.2.1 dL_law_148 ?_
      refine va_sld (pc := 149) S.1 S.2.1 hX hbl hbA hS (lw_ix (k := 5) hL hgo (by decide) ex3 rfl) dL_law_149 ?_
      refine lwCall (pc := 150) (As := [.int (xs (x3 + 1).toNatClampNeg), .int (xs (x3 + 2).toNatClampNeg), .int (xs (x3 + 3).toNatClampNeg), .int (xs (x3 + 4).toNatClampNeg), .int (xs (x3 + 5).toNatClampNeg)]) (rest := []) S E (cC_dom a ca) (cM_dom am ca) hdis hP hO hS (mt_X7_feed l dC dI a ca tb _ (xs (x3 + 1).toNatClampNeg) (xs (x3 + 2).toNatClampNeg) (xs (x3 + 3).toNatClampNeg) (xs (x3 + 4).toNatClampNeg) (xs (x3 + 5).toNatClampNeg) st _ (hpure.1 st sm (xs (x3 + 1).toNatClampNeg) (xs (x3 + 2).toNatClampNeg) (xs (x3 + 3).toNatClampNeg) (xs (x3 + 4).toNatClampNeg) (xs (x3 + 5).toNatClampNeg) hR)) (cw_X7_feed ⟨(Nat.le_of_ble_eq_true rfl), (Nat.le_of_ble_eq_true rfl)⟩) kw_572 kw_573 kw_574 0 7 rfl rfl (cC_tp a ca st) rfl hl.1 rfl (Nat.le_of_ble_eq_true rfl) dL_law_150 (Nat.le_of_ble_eq_true rfl) (Nat.le_of_ble_eq_true rfl) (fun r st1 H locs h hP hO hS => ?_)
      refine lv_aload_n (pc := 153) S.1 S.2.1 dL_law_153 rfl (lv_at hl 2 rfl) ?_
      refine lv_aload_n (pc := 154) S.1 S.2.1 dL_law_154 rfl (lv_at hl 0 rfl) ?_
      refine lv_iload_n (pc := 155) S.1 S.2.1 dL_law_155 rfl (lv_at hl 3 rfl) ?_
      refine lv_iconst (pc := 156) S.1 S.2.1 (v := 1) dL_law_156 (by decide) ?_
      refine lv_iadd (pc := 157) S.1 S.2.1 dL_law_157 ?_
      refine va_sld (pc := 158) S.1 S.2.1 hX hbl hbA hS (lw_ix (k := 1) hL hgo (by decide) ex3 rfl) dL_law_158 ?_
      refine lv_aload_n (pc := 159) S.1 S.2.1 dL_law_159 rfl (lv_at hl 0 rfl) ?_
      refine lv_iload_n (pc := 160) S.1 S.2.1 dL_law_160 rfl (lv_at hl 3 rfl) ?_
      refine lv_iconst (pc := 161) S.1 S.2.1 (v := 2) dL_law_161 (by decide) ?_
      refine lv_iadd (pc := 162) S.1 S.2.1 dL_law_162 ?_
      refine va_sld (pc := 163) S.1 S.2.1 hX hbl hbA hS (lw_ix (k := 2) hL hgo (by decide) ex3 rfl) dL_law_163 ?_
      refine lv_aload_n (pc := 164) S.1 S.2.1 dL_law_164 rfl (lv_at hl 0 rfl) ?_
      refine lv_iload_n (pc := 165) S.1 S.2.1 dL_law_165 rfl (lv_at hl 3 rfl) ?_
      refine lv_iconst (pc := 166) S.1 S.2.1 (v := 3) dL_law_166 (by decide) ?_
      refine lv_iadd (pc := 167) S.1 S.2.1 dL_law_167 ?_
      refine va_sld (pc := 168) S.1 S.2.1 hX hbl hbA hS (lw_ix (k := 3) hL hgo (by decide) ex3 rfl) dL_law_168 ?_
      refine lv_aload_n (pc := 169) S.1 S.2.1 dL_law_169 rfl (lv_at hl 0 rfl) ?_
      refine lv_iload_n (pc := 170) S.1 S.2.1 dL_law_170 rfl (lv_at hl 3 rfl) ?_
      refine lv_iconst (pc := 171) S.1 S.2.1 (v := 4) dL_law_171 (by decide) ?_
      refine lv_iadd (pc := 172) S.1 S.2.1 dL_law_172 ?_
      refine va_sld (pc := 173) S.1 S.2.1 hX hbl hbA hS (lw_ix (k := 4) hL hgo (by decide) ex3 rfl) dL_law_173 ?_
      refine lv_aload_n (pc := 174) S.1 S.2.1 dL_law_174 rfl (lv_at hl 0 rfl) ?_
      refine lv_iload_n (pc := 175) S.1 S.2.1 dL_law_175 rfl (lv_at hl 3 rfl) ?_
      refine lv_iconst (pc := 176) S.1 S.2.1 (v := 5) dL_law_176 (by decide) ?_
      refine lv_iadd (pc := 177) S.1 S.2.1 dL_law_177 ?_
      refine va_sld (pc := 178) S.1 S.2.1 hX hbl hbA hS (lw_ix (k := 5) hL hgo (by decide) ex3 rfl) dL_law_178 ?_
      refine lwCall (pc := 179) (As := [.int (xs (x3 + 1).toNatClampNeg), .int (xs (x3 + 2).toNatClampNeg), .int (xs (x3 + 3).toNatClampNeg), .int (xs (x3 + 4).toNatClampNeg), .int (xs (x3 + 5).toNatClampNeg)]) (rest := [.int r]) S EM (cM_dom am ca) (cC_dom a ca) hdis2 hO hP hS (mt_X8_feed l dC dI am ca tb _ (xs (x3 + 1).toNatClampNeg) (xs (x3 + 2).toNatClampNeg) (xs (x3 + 3).toNatClampNeg) (xs (x3 + 4).toNatClampNeg) (xs (x3 + 5).toNatClampNeg) sm _ h) (cw_X8_feed ⟨(Nat.le_of_ble_eq_true rfl), (Nat.le_of_ble_eq_true rfl)⟩) kw_575 kw_576 kw_577 0 8 rfl rfl (cM_mo am ca sm) rfl hl.1 rfl (Nat.le_of_ble_eq_true rfl) dL_law_179 (Nat.le_of_ble_eq_true rfl) (Nat.le_of_ble_eq_true rfl) (fun r1 sm1 H locs h hO hP hS => ?_)
      refine lv_icmp_eq (pc := 182) (tgt := 743) S.1 S.2.1 dL_law_182 (by decide) (fun _ => ?_) (fun ce => absurd h.1 ce)
      exact fin st1 sm1 h.2 _ _ _ hP hO hS hl
    by_cases c2 : sel = 1
    · refine lv_tableIn (pc := 33) (tgt := 187) S.1 S.2.1 dL_law_33 (by rw [c2]; decide) (by rw [c2]; decide) (by rw [c2]; rfl) (by decide) ?_
      refine lv_aload_n (pc := 187) S.1 S.2.1 dL_law_187 rfl (lv_at hl 1 rfl) ?_
      refine lv_aload_n (pc := 188) S.1 S.2.1 dL_law_188 rfl (lv_at hl 0 rfl) ?_
      refine lv_iload_n (pc := 189) S.1 S.2.1 dL_law_189 rfl (lv_at hl 3 rfl) ?_
      refine lv_iconst (pc := 190) S.1 S.2.1 (v := 1) dL_law_190 (by decide) ?_
      refine lv_iadd (pc := 191) S.1 S.2.1 dL_law_191 ?_
      refine va_sld (pc := 192) S.1 S.2.1 hX hbl hbA hS (lw_ix (k := 1) hL hgo (by decide) ex3 rfl) dL_law_192 ?_
      refine lwCall (pc := 193) (As := [.int (xs (x3 + 1).toNatClampNeg)]) (rest := []) S E (cC_dom a ca) (cM_dom am ca) hdis hP hO hS (mt_X7_word l dC dI a ca tb _ (xs (x3 + 1).toNatClampNeg) st _ (hpure.2.1 st sm (xs (x3 + 1).toNatClampNeg) hR)) (cw_X7_word ⟨(Nat.le_of_ble_eq_true rfl), (Nat.le_of_ble_eq_true rfl)⟩) kw_578 kw_579 kw_580 0 7 rfl rfl (cC_tp a ca st) rfl hl.1 rfl (Nat.le_of_ble_eq_true rfl) dL_law_193 (Nat.le_of_ble_eq_true rfl) (Nat.le_of_ble_eq_true rfl) (fun r st1 H locs h hP hO hS => ?_)
      refine lv_aload_n (pc := 196) S.1 S.2.1 dL_law_196 rfl (lv_at hl 2 rfl) ?_
      refine lv_aload_n (pc := 197) S.1 S.2.1 dL_law_197 rfl (lv_at hl 0 rfl) ?_
      refine lv_iload_n (pc := 198) S.1 S.2.1 dL_law_198 rfl (lv_at hl 3 rfl) ?_
      refine lv_iconst (pc := 199) S.1 S.2.1 (v := 1) dL_law_199 (by decide) ?_
      refine lv_iadd (pc := 200) S.1 S.2.1 dL_law_200 ?_
      refine va_sld (pc := 201) S.1 S.2.1 hX hbl hbA hS (lw_ix (k := 1) hL hgo (by decide) ex3 rfl) dL_law_201 ?_
      refine lwCall (pc := 202) (As := [.int (xs (x3 + 1).toNatClampNeg)]) (rest := [.int r]) S EM (cM_dom am ca) (cC_dom a ca) hdis2 hO hP hS (mt_X8_word l dC dI am ca tb _ (xs (x3 + 1).toNatClampNeg) sm _ h) (cw_X8_word ⟨(Nat.le_of_ble_eq_true rfl), (Nat.le_of_ble_eq_true rfl)⟩) kw_581 kw_582 kw_583 0 8 rfl rfl (cM_mo am ca sm) rfl hl.1 rfl (Nat.le_of_ble_eq_true rfl) dL_law_202 (Nat.le_of_ble_eq_true rfl) (Nat.le_of_ble_eq_true rfl) (fun r1 sm1 H locs h hO hP hS => ?_)
      refine lv_icmp_eq (pc := 205) (tgt := 743) S.1 S.2.1 dL_law_205 (by decide) (fun _ => ?_) (fun ce => absurd h.1 ce)
      exact fin st1 sm1 h.2 _ _ _ hP hO hS hl
    by_cases c3 : sel = 2
    · refine lv_tableIn (pc := 33) (tgt := 210) S.1 S.2.1 dL_law_33 (by rw [c3]; decide) (by rw [c3]; decide) (by rw [c3]; rfl) (by decide) ?_
      refine lv_aload_n (pc := 210) S.1 S.2.1 dL_law_210 rfl (lv_at hl 1 rfl) ?_
      refine lv_aload_n (pc := 211) S.1 S.2.1 dL_law_211 rfl (lv_at hl 0 rfl) ?_
      refine lv_iload_n (pc := 212) S.1 S.2.1 dL_law_212 rfl (lv_at hl 3 rfl) ?_
      refine lv_iconst (pc := 213) S.1 S.2.1 (v := 1) dL_law_213 (by decide) ?_
      refine lv_iadd (pc := 214) S.1 S.2.1 dL_law_214 ?_
      refine va_sld (pc := 215) S.1 S.2.1 hX hbl hbA hS (lw_ix (k := 1) hL hgo (by decide) ex3 rfl) dL_law_215 ?_
      refine lv_aload_n (pc := 216) S.1 S.2.1 dL_law_216 rfl (lv_at hl 0 rfl) ?_
      refine lv_iload_n (pc := 217) S.1 S.2.1 dL_law_217 rfl (lv_at hl 3 rfl) ?_
      refine lv_iconst (pc := 218) S.1 S.2.1 (v := 2) dL_law_218 (by decide) ?_
      refine lv_iadd (pc := 219) S.1 S.2.1 dL_law_219 ?_
      refine va_sld (pc := 220) S.1 S.2.1 hX hbl hbA hS (lw_ix (k := 2) hL hgo (by decide) ex3 rfl) dL_law_220 ?_
      refine lwCall (pc := 221) (As := [.int (xs (x3 + 1).toNatClampNeg), .int (xs (x3 + 2).toNatClampNeg)]) (rest := []) S E (cC_dom a ca) (cM_dom am ca) hdis hP hO hS (mt_X7_piper l dC dI a ca tb _ (xs (x3 + 1).toNatClampNeg) (xs (x3 + 2).toNatClampNeg) st _ (hpure.2.2.1 st sm (xs (x3 + 1).toNatClampNeg) (xs (x3 + 2).toNatClampNeg) hR)) (cw_X7_piper ⟨(Nat.le_of_ble_eq_true rfl), (Nat.le_of_ble_eq_true rfl)⟩) kw_584 kw_585 kw_586 0 7 rfl rfl (cC_tp a ca st) rfl hl.1 rfl (Nat.le_of_ble_eq_true rfl) dL_law_221 (Nat.le_of_ble_eq_true rfl) (Nat.le_of_ble_eq_true rfl) (fun r st1 H locs h hP hO hS => ?_)
      refine lv_aload_n (pc := 224) S.1 S.2.1 dL_law_224 rfl (lv_at hl 2 rfl) ?_
      refine lv_aload_n (pc := 225) S.1 S.2.1 dL_law_225 rfl (lv_at hl 0 rfl) ?_
      refine lv_iload_n (pc := 226) S.1 S.2.1 dL_law_226 rfl (lv_at hl 3 rfl) ?_
      refine lv_iconst (pc := 227) S.1 S.2.1 (v := 1) dL_law_227 (by decide) ?_
      refine lv_iadd (pc := 228) S.1 S.2.1 dL_law_228 ?_
      refine va_sld (pc := 229) S.1 S.2.1 hX hbl hbA hS (lw_ix (k := 1) hL hgo (by decide) ex3 rfl) dL_law_229 ?_
      refine lv_aload_n (pc := 230) S.1 S.2.1 dL_law_230 rfl (lv_at hl 0 rfl) ?_
      refine lv_iload_n (pc := 231) S.1 S.2.1 dL_law_231 rfl (lv_at hl 3 rfl) ?_
      refine lv_iconst (pc := 232) S.1 S.2.1 (v := 2) dL_law_232 (by decide) ?_
      refine lv_iadd (pc := 233) S.1 S.2.1 dL_law_233 ?_
      refine va_sld (pc := 234) S.1 S.2.1 hX hbl hbA hS (lw_ix (k := 2) hL hgo (by decide) ex3 rfl) dL_law_234 ?_
      refine lwCall (pc := 235) (As := [.int (xs (x3 + 1).toNatClampNeg), .int (xs (x3 + 2).toNatClampNeg)]) (rest := [.int r]) S EM (cM_dom am ca) (cC_dom a ca) hdis2 hO hP hS (mt_X8_piper l dC dI am ca tb _ (xs (x3 + 1).toNatClampNeg) (xs (x3 + 2).toNatClampNeg) sm _ h) (cw_X8_piper ⟨(Nat.le_of_ble_eq_true rfl), (Nat.le_of_ble_eq_true rfl)⟩) kw_587 kw_588 kw_589 0 8 rfl rfl (cM_mo am ca sm) rfl hl.1 rfl (Nat.le_of_ble_eq_true rfl) dL_law_235 (Nat.le_of_ble_eq_true rfl) (Nat.le_of_ble_eq_true rfl) (fun r1 sm1 H locs h hO hP hS => ?_)
      refine lv_icmp_eq (pc := 238) (tgt := 743) S.1 S.2.1 dL_law_238 (by decide) (fun _ => ?_) (fun ce => absurd h.1 ce)
      exact fin st1 sm1 h.2 _ _ _ hP hO hS hl
    by_cases c4 : sel = 3
    · refine lv_tableIn (pc := 33) (tgt := 243) S.1 S.2.1 dL_law_33 (by rw [c4]; decide) (by rw [c4]; decide) (by rw [c4]; rfl) (by decide) ?_
      refine lv_aload_n (pc := 243) S.1 S.2.1 dL_law_243 rfl (lv_at hl 1 rfl) ?_
      refine lv_aload_n (pc := 244) S.1 S.2.1 dL_law_244 rfl (lv_at hl 0 rfl) ?_
      refine lv_iload_n (pc := 245) S.1 S.2.1 dL_law_245 rfl (lv_at hl 3 rfl) ?_
      refine lv_iconst (pc := 246) S.1 S.2.1 (v := 1) dL_law_246 (by decide) ?_
      refine lv_iadd (pc := 247) S.1 S.2.1 dL_law_247 ?_
      refine va_sld (pc := 248) S.1 S.2.1 hX hbl hbA hS (lw_ix (k := 1) hL hgo (by decide) ex3 rfl) dL_law_248 ?_
      refine lv_aload_n (pc := 249) S.1 S.2.1 dL_law_249 rfl (lv_at hl 0 rfl) ?_
      refine lv_iload_n (pc := 250) S.1 S.2.1 dL_law_250 rfl (lv_at hl 3 rfl) ?_
      refine lv_iconst (pc := 251) S.1 S.2.1 (v := 2) dL_law_251 (by decide) ?_
      refine lv_iadd (pc := 252) S.1 S.2.1 dL_law_252 ?_
      refine va_sld (pc := 253) S.1 S.2.1 hX hbl hbA hS (lw_ix (k := 2) hL hgo (by decide) ex3 rfl) dL_law_253 ?_
      refine lv_if_eq (pc := 254) (tgt := 261) S.1 S.2.1 dL_law_254 (by decide) (fun cb0 => ?_) (fun cb0 => ?_)
      · skip
        refine lv_iconst (pc := 261) S.1 S.2.1 (v := 0) dL_law_261 (by decide) ?_
        refine lwCall (pc := 262) (As := [.int (xs (x3 + 1).toNatClampNeg), .int 0]) (rest := []) S E (cC_dom a ca) (cM_dom am ca) hdis hP hO hS (mt_X7_ill l dC dI a ca tb _ (xs (x3 + 1).toNatClampNeg) (0) st _ (hpure.2.2.2.1 st sm (xs (x3 + 1).toNatClampNeg) (0) (Or.inl rfl) hR)) (cw_X7_ill ⟨(Nat.le_of_ble_eq_true rfl), (Nat.le_of_ble_eq_true rfl)⟩) kw_590 kw_591 kw_592 0 7 rfl rfl (cC_tp a ca st) rfl hl.1 rfl (Nat.le_of_ble_eq_true rfl) dL_law_262 (Nat.le_of_ble_eq_true rfl) (Nat.le_of_ble_eq_true rfl) (fun r st1 H locs h hP hO hS => ?_)
        refine lv_aload_n (pc := 265) S.1 S.2.1 dL_law_265 rfl (lv_at hl 2 rfl) ?_
        refine lv_aload_n (pc := 266) S.1 S.2.1 dL_law_266 rfl (lv_at hl 0 rfl) ?_
        refine lv_iload_n (pc := 267) S.1 S.2.1 dL_law_267 rfl (lv_at hl 3 rfl) ?_
        refine lv_iconst (pc := 268) S.1 S.2.1 (v := 1) dL_law_268 (by decide) ?_
        refine lv_iadd (pc := 269) S.1 S.2.1 dL_law_269 ?_
        refine va_sld (pc := 270) S.1 S.2.1 hX hbl hbA hS (lw_ix (k := 1) hL hgo (by decide) ex3 rfl) dL_law_270 ?_
        refine lv_aload_n (pc := 271) S.1 S.2.1 dL_law_271 rfl (lv_at hl 0 rfl) ?_
        refine lv_iload_n (pc := 272) S.1 S.2.1 dL_law_272 rfl (lv_at hl 3 rfl) ?_
        refine lv_iconst (pc := 273) S.1 S.2.1 (v := 2) dL_law_273 (by decide) ?_
        refine lv_iadd (pc := 274) S.1 S.2.1 dL_law_274 ?_
        refine va_sld (pc := 275) S.1 S.2.1 hX hbl hbA hS (lw_ix (k := 2) hL hgo (by decide) ex3 rfl) dL_law_275 ?_
        refine lv_if_eq (pc := 276) (tgt := 283) S.1 S.2.1 dL_law_276 (by decide) (fun cb1 => ?_) (fun cb1 => ?_)
        · skip
          refine lv_iconst (pc := 283) S.1 S.2.1 (v := 0) dL_law_283 (by decide) ?_
          refine lwCall (pc := 284) (As := [.int (xs (x3 + 1).toNatClampNeg), .int 0]) (rest := [.int r]) S EM (cM_dom am ca) (cC_dom a ca) hdis2 hO hP hS (mt_X8_ill l dC dI am ca tb _ (xs (x3 + 1).toNatClampNeg) (0) sm _ h) (cw_X8_ill ⟨(Nat.le_of_ble_eq_true rfl), (Nat.le_of_ble_eq_true rfl)⟩) kw_593 kw_594 kw_595 0 8 rfl rfl (cM_mo am ca sm) rfl hl.1 rfl (Nat.le_of_ble_eq_true rfl) dL_law_284 (Nat.le_of_ble_eq_true rfl) (Nat.le_of_ble_eq_true rfl) (fun r1 sm1 H locs h hO hP hS => ?_)
          refine lv_icmp_eq (pc := 287) (tgt := 743) S.1 S.2.1 dL_law_287 (by decide) (fun _ => ?_) (fun ce => absurd h.1 ce)
          exact fin st1 sm1 h.2 _ _ _ hP hO hS hl
        · exact absurd cb0 cb1
      · skip
        refine lv_iconst (pc := 257) S.1 S.2.1 (v := 1) dL_law_257 (by decide) ?_
        refine lv_goto (pc := 258) S.1 S.2.1 (tgt := 262) dL_law_258 (by decide) ?_
        refine lwCall (pc := 262) (As := [.int (xs (x3 + 1).toNatClampNeg), .int 1]) (rest := []) S E (cC_dom a ca) (cM_dom am ca) hdis hP hO hS (mt_X7_ill l dC dI a ca tb _ (xs (x3 + 1).toNatClampNeg) (1) st _ (hpure.2.2.2.1 st sm (xs (x3 + 1).toNatClampNeg) (1) (Or.inr rfl) hR)) (cw_X7_ill ⟨(Nat.le_of_ble_eq_true rfl), (Nat.le_of_ble_eq_true rfl)⟩) kw_590 kw_591 kw_592 0 7 rfl rfl (cC_tp a ca st) rfl hl.1 rfl (Nat.le_of_ble_eq_true rfl) dL_law_262 (Nat.le_of_ble_eq_true rfl) (Nat.le_of_ble_eq_true rfl) (fun r st1 H locs h hP hO hS => ?_)
        refine lv_aload_n (pc := 265) S.1 S.2.1 dL_law_265 rfl (lv_at hl 2 rfl) ?_
        refine lv_aload_n (pc := 266) S.1 S.2.1 dL_law_266 rfl (lv_at hl 0 rfl) ?_
        refine lv_iload_n (pc := 267) S.1 S.2.1 dL_law_267 rfl (lv_at hl 3 rfl) ?_
        refine lv_iconst (pc := 268) S.1 S.2.1 (v := 1) dL_law_268 (by decide) ?_
        refine lv_iadd (pc := 269) S.1 S.2.1 dL_law_269 ?_
        refine va_sld (pc := 270) S.1 S.2.1 hX hbl hbA hS (lw_ix (k := 1) hL hgo (by decide) ex3 rfl) dL_law_270 ?_
        refine lv_aload_n (pc := 271) S.1 S.2.1 dL_law_271 rfl (lv_at hl 0 rfl) ?_
        refine lv_iload_n (pc := 272) S.1 S.2.1 dL_law_272 rfl (lv_at hl 3 rfl) ?_
        refine lv_iconst (pc := 273) S.1 S.2.1 (v := 2) dL_law_273 (by decide) ?_
        refine lv_iadd (pc := 274) S.1 S.2.1 dL_law_274 ?_
        refine va_sld (pc := 275) S.1 S.2.1 hX hbl hbA hS (lw_ix (k := 2) hL hgo (by decide) ex3 rfl) dL_law_275 ?_
        refine lv_if_eq (pc := 276) (tgt := 283) S.1 S.2.1 dL_law_276 (by decide) (fun cb1 => ?_) (fun cb1 => ?_)
        · exact absurd cb1 cb0
        · skip
          refine lv_iconst (pc := 279) S.1 S.2.1 (v := 1) dL_law_279 (by decide) ?_
          refine lv_goto (pc := 280) S.1 S.2.1 (tgt := 284) dL_law_280 (by decide) ?_
          refine lwCall (pc := 284) (As := [.int (xs (x3 + 1).toNatClampNeg), .int 1]) (rest := [.int r]) S EM (cM_dom am ca) (cC_dom a ca) hdis2 hO hP hS (mt_X8_ill l dC dI am ca tb _ (xs (x3 + 1).toNatClampNeg) (1) sm _ h) (cw_X8_ill ⟨(Nat.le_of_ble_eq_true rfl), (Nat.le_of_ble_eq_true rfl)⟩) kw_593 kw_594 kw_595 0 8 rfl rfl (cM_mo am ca sm) rfl hl.1 rfl (Nat.le_of_ble_eq_true rfl) dL_law_284 (Nat.le_of_ble_eq_true rfl) (Nat.le_of_ble_eq_true rfl) (fun r1 sm1 H locs h hO hP hS => ?_)
          refine lv_icmp_eq (pc := 287) (tgt := 743) S.1 S.2.1 dL_law_287 (by decide) (fun _ => ?_) (fun ce => absurd h.1 ce)
          exact fin st1 sm1 h.2 _ _ _ hP hO hS hl
    by_cases c5 : sel = 4
    · refine lv_tableIn (pc := 33) (tgt := 292) S.1 S.2.1 dL_law_33 (by rw [c5]; decide) (by rw [c5]; decide) (by rw [c5]; rfl) (by decide) ?_
      refine lv_aload_n (pc := 292) S.1 S.2.1 dL_law_292 rfl (lv_at hl 1 rfl) ?_
      refine lv_aload_n (pc := 293) S.1 S.2.1 dL_law_293 rfl (lv_at hl 0 rfl) ?_
      refine lv_iload_n (pc := 294) S.1 S.2.1 dL_law_294 rfl (lv_at hl 3 rfl) ?_
      refine lv_iconst (pc := 295) S.1 S.2.1 (v := 1) dL_law_295 (by decide) ?_
      refine lv_iadd (pc := 296) S.1 S.2.1 dL_law_296 ?_
      refine va_sld (pc := 297) S.1 S.2.1 hX hbl hbA hS (lw_ix (k := 1) hL hgo (by decide) ex3 rfl) dL_law_297 ?_
      refine lwCall (pc := 298) (As := [.int (xs (x3 + 1).toNatClampNeg)]) (rest := []) S E (cC_dom a ca) (cM_dom am ca) hdis hP hO hS (mt_X7_old l dC dI a ca tb _ (xs (x3 + 1).toNatClampNeg) st _ (hpure.2.2.2.2.1 st sm (xs (x3 + 1).toNatClampNeg) hR)) (cw_X7_old ⟨(Nat.le_of_ble_eq_true rfl), (Nat.le_of_ble_eq_true rfl)⟩) kw_596 kw_597 kw_598 0 7 rfl rfl (cC_tp a ca st) rfl hl.1 rfl (Nat.le_of_ble_eq_true rfl) dL_law_298 (Nat.le_of_ble_eq_true rfl) (Nat.le_of_ble_eq_true rfl) (fun r st1 H locs h hP hO hS => ?_)
      refine lv_aload_n (pc := 301) S.1 S.2.1 dL_law_301 rfl (lv_at hl 2 rfl) ?_
      refine lv_aload_n (pc := 302) S.1 S.2.1 dL_law_302 rfl (lv_at hl 0 rfl) ?_
      refine lv_iload_n (pc := 303) S.1 S.2.1 dL_law_303 rfl (lv_at hl 3 rfl) ?_
      refine lv_iconst (pc := 304) S.1 S.2.1 (v := 1) dL_law_304 (by decide) ?_
      refine lv_iadd (pc := 305) S.1 S.2.1 dL_law_305 ?_
      refine va_sld (pc := 306) S.1 S.2.1 hX hbl hbA hS (lw_ix (k := 1) hL hgo (by decide) ex3 rfl) dL_law_306 ?_
      refine lwCall (pc := 307) (As := [.int (xs (x3 + 1).toNatClampNeg)]) (rest := [.int r]) S EM (cM_dom am ca) (cC_dom a ca) hdis2 hO hP hS (mt_X8_old l dC dI am ca tb _ (xs (x3 + 1).toNatClampNeg) sm _ h) (cw_X8_old ⟨(Nat.le_of_ble_eq_true rfl), (Nat.le_of_ble_eq_true rfl)⟩) kw_599 kw_600 kw_601 0 8 rfl rfl (cM_mo am ca sm) rfl hl.1 rfl (Nat.le_of_ble_eq_true rfl) dL_law_307 (Nat.le_of_ble_eq_true rfl) (Nat.le_of_ble_eq_true rfl) (fun r1 sm1 H locs h hO hP hS => ?_)
      refine lv_icmp_eq (pc := 310) (tgt := 743) S.1 S.2.1 dL_law_310 (by decide) (fun _ => ?_) (fun ce => absurd h.1 ce)
      exact fin st1 sm1 h.2 _ _ _ hP hO hS hl
    by_cases c6 : sel = 5
    · refine lv_tableIn (pc := 33) (tgt := 315) S.1 S.2.1 dL_law_33 (by rw [c6]; decide) (by rw [c6]; decide) (by rw [c6]; rfl) (by decide) ?_
      refine lv_aload_n (pc := 315) S.1 S.2.1 dL_law_315 rfl (lv_at hl 1 rfl) ?_
      refine lv_aload_n (pc := 316) S.1 S.2.1 dL_law_316 rfl (lv_at hl 0 rfl) ?_
      refine lv_iload_n (pc := 317) S.1 S.2.1 dL_law_317 rfl (lv_at hl 3 rfl) ?_
      refine lv_iconst (pc := 318) S.1 S.2.1 (v := 1) dL_law_318 (by decide) ?_
      refine lv_iadd (pc := 319) S.1 S.2.1 dL_law_319 ?_
      refine va_sld (pc := 320) S.1 S.2.1 hX hbl hbA hS (lw_ix (k := 1) hL hgo (by decide) ex3 rfl) dL_law_320 ?_
      refine lv_aload_n (pc := 321) S.1 S.2.1 dL_law_321 rfl (lv_at hl 0 rfl) ?_
      refine lv_iload_n (pc := 322) S.1 S.2.1 dL_law_322 rfl (lv_at hl 3 rfl) ?_
      refine lv_iconst (pc := 323) S.1 S.2.1 (v := 2) dL_law_323 (by decide) ?_
      refine lv_iadd (pc := 324) S.1 S.2.1 dL_law_324 ?_
      refine va_sld (pc := 325) S.1 S.2.1 hX hbl hbA hS (lw_ix (k := 2) hL hgo (by decide) ex3 rfl) dL_law_325 ?_
      refine lwCall (pc := 326) (As := [.int (xs (x3 + 1).toNatClampNeg), .int (xs (x3 + 2).toNatClampNeg)]) (rest := []) S E (cC_dom a ca) (cM_dom am ca) hdis hP hO hS (mt_X7_pieces l dC dI a ca tb _ (xs (x3 + 1).toNatClampNeg) (xs (x3 + 2).toNatClampNeg) st _ (hpure.2.2.2.2.2.1 st sm (xs (x3 + 1).toNatClampNeg) (xs (x3 + 2).toNatClampNeg) hR)) (cw_X7_pieces ⟨(Nat.le_of_ble_eq_true rfl), (Nat.le_of_ble_eq_true rfl)⟩) kw_602 kw_603 kw_604 0 7 rfl rfl (cC_tp a ca st) rfl hl.1 rfl (Nat.le_of_ble_eq_true rfl) dL_law_326 (Nat.le_of_ble_eq_true rfl) (Nat.le_of_ble_eq_true rfl) (fun r st1 H locs h hP hO hS => ?_)
      refine lv_aload_n (pc := 329) S.1 S.2.1 dL_law_329 rfl (lv_at hl 2 rfl) ?_
      refine lv_aload_n (pc := 330) S.1 S.2.1 dL_law_330 rfl (lv_at hl 0 rfl) ?_
      refine lv_iload_n (pc := 331) S.1 S.2.1 dL_law_331 rfl (lv_at hl 3 rfl) ?_
      refine lv_iconst (pc := 332) S.1 S.2.1 (v := 1) dL_law_332 (by decide) ?_
      refine lv_iadd (pc := 333) S.1 S.2.1 dL_law_333 ?_
      refine va_sld (pc := 334) S.1 S.2.1 hX hbl hbA hS (lw_ix (k := 1) hL hgo (by decide) ex3 rfl) dL_law_334 ?_
      refine lv_aload_n (pc := 335) S.1 S.2.1 dL_law_335 rfl (lv_at hl 0 rfl) ?_
      refine lv_iload_n (pc := 336) S.1 S.2.1 dL_law_336 rfl (lv_at hl 3 rfl) ?_
      refine lv_iconst (pc := 337) S.1 S.2.1 (v := 2) dL_law_337 (by decide) ?_
      refine lv_iadd (pc := 338) S.1 S.2.1 dL_law_338 ?_
      refine va_sld (pc := 339) S.1 S.2.1 hX hbl hbA hS (lw_ix (k := 2) hL hgo (by decide) ex3 rfl) dL_law_339 ?_
      refine lwCall (pc := 340) (As := [.int (xs (x3 + 1).toNatClampNeg), .int (xs (x3 + 2).toNatClampNeg)]) (rest := [.int r]) S EM (cM_dom am ca) (cC_dom a ca) hdis2 hO hP hS (mt_X8_pieces l dC dI am ca tb _ (xs (x3 + 1).toNatClampNeg) (xs (x3 + 2).toNatClampNeg) sm _ h) (cw_X8_pieces ⟨(Nat.le_of_ble_eq_true rfl), (Nat.le_of_ble_eq_true rfl)⟩) kw_605 kw_606 kw_607 0 8 rfl rfl (cM_mo am ca sm) rfl hl.1 rfl (Nat.le_of_ble_eq_true rfl) dL_law_340 (Nat.le_of_ble_eq_true rfl) (Nat.le_of_ble_eq_true rfl) (fun r1 sm1 H locs h hO hP hS => ?_)
      refine lv_icmp_eq (pc := 343) (tgt := 743) S.1 S.2.1 dL_law_343 (by decide) (fun _ => ?_) (fun ce => absurd h.1 ce)
      exact fin st1 sm1 h.2 _ _ _ hP hO hS hl
    by_cases c7 : sel = 6
    · refine lv_tableIn (pc := 33) (tgt := 348) S.1 S.2.1 dL_law_33 (by rw [c7]; decide) (by rw [c7]; decide) (by rw [c7]; rfl) (by decide) ?_
      refine lv_aload_n (pc := 348) S.1 S.2.1 dL_law_348 rfl (lv_at hl 1 rfl) ?_
      refine lv_aload_n (pc := 349) S.1 S.2.1 dL_law_349 rfl (lv_at hl 0 rfl) ?_
      refine lv_iload_n (pc := 350) S.1 S.2.1 dL_law_350 rfl (lv_at hl 3 rfl) ?_
      refine lv_iconst (pc := 351) S.1 S.2.1 (v := 1) dL_law_351 (by decide) ?_
      refine lv_iadd (pc := 352) S.1 S.2.1 dL_law_352 ?_
      refine va_sld (pc := 353) S.1 S.2.1 hX hbl hbA hS (lw_ix (k := 1) hL hgo (by decide) ex3 rfl) dL_law_353 ?_
      refine lv_aload_n (pc := 354) S.1 S.2.1 dL_law_354 rfl (lv_at hl 0 rfl) ?_
      refine lv_iload_n (pc := 355) S.1 S.2.1 dL_law_355 rfl (lv_at hl 3 rfl) ?_
      refine lv_iconst (pc := 356) S.1 S.2.1 (v := 2) dL_law_356 (by decide) ?_
      refine lv_iadd (pc := 357) S.1 S.2.1 dL_law_357 ?_
      refine va_sld (pc := 358) S.1 S.2.1 hX hbl hbA hS (lw_ix (k := 2) hL hgo (by decide) ex3 rfl) dL_law_358 ?_
      refine lv_aload_n (pc := 359) S.1 S.2.1 dL_law_359 rfl (lv_at hl 0 rfl) ?_
      refine lv_iload_n (pc := 360) S.1 S.2.1 dL_law_360 rfl (lv_at hl 3 rfl) ?_
      refine lv_iconst (pc := 361) S.1 S.2.1 (v := 3) dL_law_361 (by decide) ?_
      refine lv_iadd (pc := 362) S.1 S.2.1 dL_law_362 ?_
      refine va_sld (pc := 363) S.1 S.2.1 hX hbl hbA hS (lw_ix (k := 3) hL hgo (by decide) ex3 rfl) dL_law_363 ?_
      refine lv_aload_n (pc := 364) S.1 S.2.1 dL_law_364 rfl (lv_at hl 0 rfl) ?_
      refine lv_iload_n (pc := 365) S.1 S.2.1 dL_law_365 rfl (lv_at hl 3 rfl) ?_
      refine lv_iconst (pc := 366) S.1 S.2.1 (v := 4) dL_law_366 (by decide) ?_
      refine lv_iadd (pc := 367) S.1 S.2.1 dL_law_367 ?_
      refine va_sld (pc := 368) S.1 S.2.1 hX hbl hbA hS (lw_ix (k := 4) hL hgo (by decide) ex3 rfl) dL_law_368 ?_
      refine lv_aload_n (pc := 369) S.1 S.2.1 dL_law_369 rfl (lv_at hl 0 rfl) ?_
      refine lv_iload_n (pc := 370) S.1 S.2.1 dL_law_370 rfl (lv_at hl 3 rfl) ?_
      refine lv_iconst (pc := 371) S.1 S.2.1 (v := 5) dL_law_371 (by decide) ?_
      refine lv_iadd (pc := 372) S.1 S.2.1 dL_law_372 ?_
      refine va_sld (pc := 373) S.1 S.2.1 hX hbl hbA hS (lw_ix (k := 5) hL hgo (by decide) ex3 rfl) dL_law_373 ?_
      refine lv_aload_n (pc := 374) S.1 S.2.1 dL_law_374 rfl (lv_at hl 0 rfl) ?_
      refine lv_iload_n (pc := 375) S.1 S.2.1 dL_law_375 rfl (lv_at hl 3 rfl) ?_
      refine lv_bipush (pc := 376) S.1 S.2.1 (v := 6) dL_law_376 (by decide) ?_
      refine lv_iadd (pc := 378) S.1 S.2.1 dL_law_378 ?_
      refine va_sld (pc := 379) S.1 S.2.1 hX hbl hbA hS (lw_ix (k := 6) hL hgo (by decide) ex3 rfl) dL_law_379 ?_
      refine lv_aload_n (pc := 380) S.1 S.2.1 dL_law_380 rfl (lv_at hl 0 rfl) ?_
      refine lv_iload_n (pc := 381) S.1 S.2.1 dL_law_381 rfl (lv_at hl 3 rfl) ?_
      refine lv_bipush (pc := 382) S.1 S.2.1 (v := 7) dL_law_382 (by decide) ?_
      refine lv_iadd (pc := 384) S.1 S.2.1 dL_law_384 ?_
      refine va_sld (pc := 385) S.1 S.2.1 hX hbl hbA hS (lw_ix (k := 7) hL hgo (by decide) ex3 rfl) dL_law_385 ?_
      refine lv_aload_n (pc := 386) S.1 S.2.1 dL_law_386 rfl (lv_at hl 0 rfl) ?_
      refine lv_iload_n (pc := 387) S.1 S.2.1 dL_law_387 rfl (lv_at hl 3 rfl) ?_
      refine lv_bipush (pc := 388) S.1 S.2.1 (v := 8) dL_law_388 (by decide) ?_
      refine lv_iadd (pc := 390) S.1 S.2.1 dL_law_390 ?_
      refine va_sld (pc := 391) S.1 S.2.1 hX hbl hbA hS (lw_ix (k := 8) hL hgo (by decide) ex3 rfl) dL_law_391 ?_
      refine lwCall (pc := 392) (As := [.int (xs (x3 + 1).toNatClampNeg), .int (xs (x3 + 2).toNatClampNeg), .int (xs (x3 + 3).toNatClampNeg), .int (xs (x3 + 4).toNatClampNeg), .int (xs (x3 + 5).toNatClampNeg), .int (xs (x3 + 6).toNatClampNeg), .int (xs (x3 + 7).toNatClampNeg), .int (xs (x3 + 8).toNatClampNeg)]) (rest := []) S E (cC_dom a ca) (cM_dom am ca) hdis hP hO hS (mt_X7_call l dC dI a ca tb _ (xs (x3 + 1).toNatClampNeg) (xs (x3 + 2).toNatClampNeg) (xs (x3 + 3).toNatClampNeg) (xs (x3 + 4).toNatClampNeg) (xs (x3 + 5).toNatClampNeg) (xs (x3 + 6).toNatClampNeg) (xs (x3 + 7).toNatClampNeg) (xs (x3 + 8).toNatClampNeg) st _ (hpure.2.2.2.2.2.2.1 st sm (xs (x3 + 1).toNatClampNeg) (xs (x3 + 2).toNatClampNeg) (xs (x3 + 3).toNatClampNeg) (xs (x3 + 4).toNatClampNeg) (xs (x3 + 5).toNatClampNeg) (xs (x3 + 6).toNatClampNeg) (xs (x3 + 7).toNatClampNeg) (xs (x3 + 8).toNatClampNeg) hR)) (cw_X7_call ⟨(Nat.le_of_ble_eq_true rfl), (Nat.le_of_ble_eq_true rfl)⟩) kw_608 kw_609 kw_610 0 7 rfl rfl (cC_tp a ca st) rfl hl.1 rfl (Nat.le_of_ble_eq_true rfl) dL_law_392 (Nat.le_of_ble_eq_true rfl) (Nat.le_of_ble_eq_true rfl) (fun r st1 H locs h hP hO hS => ?_)
      refine lv_aload_n (pc := 395) S.1 S.2.1 dL_law_395 rfl (lv_at hl 2 rfl) ?_
      refine lv_aload_n (pc := 396) S.1 S.2.1 dL_law_396 rfl (lv_at hl 0 rfl) ?_
      refine lv_iload_n (pc := 397) S.1 S.2.1 dL_law_397 rfl (lv_at hl 3 rfl) ?_
      refine lv_iconst (pc := 398) S.1 S.2.1 (v := 1) dL_law_398 (by decide) ?_
      refine lv_iadd (pc := 399) S.1 S.2.1 dL_law_399 ?_
      refine va_sld (pc := 400) S.1 S.2.1 hX hbl hbA hS (lw_ix (k := 1) hL hgo (by decide) ex3 rfl) dL_law_400 ?_
      refine lv_aload_n (pc := 401) S.1 S.2.1 dL_law_401 rfl (lv_at hl 0 rfl) ?_
      refine lv_iload_n (pc := 402) S.1 S.2.1 dL_law_402 rfl (lv_at hl 3 rfl) ?_
      refine lv_iconst (pc := 403) S.1 S.2.1 (v := 2) dL_law_403 (by decide) ?_
      refine lv_iadd (pc := 404) S.1 S.2.1 dL_law_404 ?_
      refine va_sld (pc := 405) S.1 S.2.1 hX hbl hbA hS (lw_ix (k := 2) hL hgo (by decide) ex3 rfl) dL_law_405 ?_
      refine lv_aload_n (pc := 406) S.1 S.2.1 dL_law_406 rfl (lv_at hl 0 rfl) ?_
      refine lv_iload_n (pc := 407) S.1 S.2.1 dL_law_407 rfl (lv_at hl 3 rfl) ?_
      refine lv_iconst (pc := 408) S.1 S.2.1 (v := 3) dL_law_408 (by decide) ?_
      refine lv_iadd (pc := 409) S.1 S.2.1 dL_law_409 ?_
      refine va_sld (pc := 410) S.1 S.2.1 hX hbl hbA hS (lw_ix (k := 3) hL hgo (by decide) ex3 rfl) dL_law_410 ?_
      refine lv_aload_n (pc := 411) S.1 S.2.1 dL_law_411 rfl (lv_at hl 0 rfl) ?_
      refine lv_iload_n (pc := 412) S.1 S.2.1 dL_law_412 rfl (lv_at hl 3 rfl) ?_
      refine lv_iconst (pc := 413) S.1 S.2.1 (v := 4) dL_law_413 (by decide) ?_
      refine lv_iadd (pc := 414) S.1 S.2.1 dL_law_414 ?_
      refine va_sld (pc := 415) S.1 S.2.1 hX hbl hbA hS (lw_ix (k := 4) hL hgo (by decide) ex3 rfl) dL_law_415 ?_
      refine lv_aload_n (pc := 416) S.1 S.2.1 dL_law_416 rfl (lv_at hl 0 rfl) ?_
      refine lv_iload_n (pc := 417) S.1 S.2.1 dL_law_417 rfl (lv_at hl 3 rfl) ?_
      refine lv_iconst (pc := 418) S.1 S.2.1 (v := 5) dL_law_418 (by decide) ?_
      refine lv_iadd (pc := 419) S.1 S.2.1 dL_law_419 ?_
      refine va_sld (pc := 420) S.1 S.2.1 hX hbl hbA hS (lw_ix (k := 5) hL hgo (by decide) ex3 rfl) dL_law_420 ?_
      refine lv_aload_n (pc := 421) S.1 S.2.1 dL_law_421 rfl (lv_at hl 0 rfl) ?_
      refine lv_iload_n (pc := 422) S.1 S.2.1 dL_law_422 rfl (lv_at hl 3 rfl) ?_
      refine lv_bipush (pc := 423) S.1 S.2.1 (v := 6) dL_law_423 (by decide) ?_
      refine lv_iadd (pc := 425) S.1 S.2.1 dL_law_425 ?_
      refine va_sld (pc := 426) S.1 S.2.1 hX hbl hbA hS (lw_ix (k := 6) hL hgo (by decide) ex3 rfl) dL_law_426 ?_
      refine lv_aload_n (pc := 427) S.1 S.2.1 dL_law_427 rfl (lv_at hl 0 rfl) ?_
      refine lv_iload_n (pc := 428) S.1 S.2.1 dL_law_428 rfl (lv_at hl 3 rfl) ?_
      refine lv_bipush (pc := 429) S.1 S.2.1 (v := 7) dL_law_429 (by decide) ?_
      refine lv_iadd (pc := 431) S.1 S.2.1 dL_law_431 ?_
      refine va_sld (pc := 432) S.1 S.2.1 hX hbl hbA hS (lw_ix (k := 7) hL hgo (by decide) ex3 rfl) dL_law_432 ?_
      refine lv_aload_n (pc := 433) S.1 S.2.1 dL_law_433 rfl (lv_at hl 0 rfl) ?_
      refine lv_iload_n (pc := 434) S.1 S.2.1 dL_law_434 rfl (lv_at hl 3 rfl) ?_
      refine lv_bipush (pc := 435) S.1 S.2.1 (v := 8) dL_law_435 (by decide) ?_
      refine lv_iadd (pc := 437) S.1 S.2.1 dL_law_437 ?_
      refine va_sld (pc := 438) S.1 S.2.1 hX hbl hbA hS (lw_ix (k := 8) hL hgo (by decide) ex3 rfl) dL_law_438 ?_
      refine lwCall (pc := 439) (As := [.int (xs (x3 + 1).toNatClampNeg), .int (xs (x3 + 2).toNatClampNeg), .int (xs (x3 + 3).toNatClampNeg), .int (xs (x3 + 4).toNatClampNeg), .int (xs (x3 + 5).toNatClampNeg), .int (xs (x3 + 6).toNatClampNeg), .int (xs (x3 + 7).toNatClampNeg), .int (xs (x3 + 8).toNatClampNeg)]) (rest := [.int r]) S EM (cM_dom am ca) (cC_dom a ca) hdis2 hO hP hS (mt_X8_call l dC dI am ca tb _ (xs (x3 + 1).toNatClampNeg) (xs (x3 + 2).toNatClampNeg) (xs (x3 + 3).toNatClampNeg) (xs (x3 + 4).toNatClampNeg) (xs (x3 + 5).toNatClampNeg) (xs (x3 + 6).toNatClampNeg) (xs (x3 + 7).toNatClampNeg) (xs (x3 + 8).toNatClampNeg) sm _ h) (cw_X8_call ⟨(Nat.le_of_ble_eq_true rfl), (Nat.le_of_ble_eq_true rfl)⟩) kw_611 kw_612 kw_613 0 8 rfl rfl (cM_mo am ca sm) rfl hl.1 rfl (Nat.le_of_ble_eq_true rfl) dL_law_439 (Nat.le_of_ble_eq_true rfl) (Nat.le_of_ble_eq_true rfl) (fun r1 sm1 H locs h hO hP hS => ?_)
      refine lv_icmp_eq (pc := 442) (tgt := 743) S.1 S.2.1 dL_law_442 (by decide) (fun _ => ?_) (fun ce => absurd h.1 ce)
      exact fin st1 sm1 h.2 _ _ _ hP hO hS hl
    by_cases c8 : sel = 7
    · refine lv_tableIn (pc := 33) (tgt := 447) S.1 S.2.1 dL_law_33 (by rw [c8]; decide) (by rw [c8]; decide) (by rw [c8]; rfl) (by decide) ?_
      refine lv_aload_n (pc := 447) S.1 S.2.1 dL_law_447 rfl (lv_at hl 1 rfl) ?_
      refine lv_aload_n (pc := 448) S.1 S.2.1 dL_law_448 rfl (lv_at hl 0 rfl) ?_
      refine lv_iload_n (pc := 449) S.1 S.2.1 dL_law_449 rfl (lv_at hl 3 rfl) ?_
      refine lv_iconst (pc := 450) S.1 S.2.1 (v := 1) dL_law_450 (by decide) ?_
      refine lv_iadd (pc := 451) S.1 S.2.1 dL_law_451 ?_
      refine va_sld (pc := 452) S.1 S.2.1 hX hbl hbA hS (lw_ix (k := 1) hL hgo (by decide) ex3 rfl) dL_law_452 ?_
      refine lwCall (pc := 453) (As := [.int (xs (x3 + 1).toNatClampNeg)]) (rest := []) S E (cC_dom a ca) (cM_dom am ca) hdis hP hO hS (mt_X7_off l dC dI a ca tb _ (xs (x3 + 1).toNatClampNeg) st _ (hpure.2.2.2.2.2.2.2.1 st sm (xs (x3 + 1).toNatClampNeg) hR)) (cw_X7_off ⟨(Nat.le_of_ble_eq_true rfl), (Nat.le_of_ble_eq_true rfl)⟩) kw_614 kw_615 kw_616 0 7 rfl rfl (cC_tp a ca st) rfl hl.1 rfl (Nat.le_of_ble_eq_true rfl) dL_law_453 (Nat.le_of_ble_eq_true rfl) (Nat.le_of_ble_eq_true rfl) (fun r st1 H locs h hP hO hS => ?_)
      refine lv_aload_n (pc := 456) S.1 S.2.1 dL_law_456 rfl (lv_at hl 2 rfl) ?_
      refine lv_aload_n (pc := 457) S.1 S.2.1 dL_law_457 rfl (lv_at hl 0 rfl) ?_
      refine lv_iload_n (pc := 458) S.1 S.2.1 dL_law_458 rfl (lv_at hl 3 rfl) ?_
      refine lv_iconst (pc := 459) S.1 S.2.1 (v := 1) dL_law_459 (by decide) ?_
      refine lv_iadd (pc := 460) S.1 S.2.1 dL_law_460 ?_
      refine va_sld (pc := 461) S.1 S.2.1 hX hbl hbA hS (lw_ix (k := 1) hL hgo (by decide) ex3 rfl) dL_law_461 ?_
      refine lwCall (pc := 462) (As := [.int (xs (x3 + 1).toNatClampNeg)]) (rest := [.int r]) S EM (cM_dom am ca) (cC_dom a ca) hdis2 hO hP hS (mt_X8_off l dC dI am ca tb _ (xs (x3 + 1).toNatClampNeg) sm _ h) (cw_X8_off ⟨(Nat.le_of_ble_eq_true rfl), (Nat.le_of_ble_eq_true rfl)⟩) kw_617 kw_618 kw_619 0 8 rfl rfl (cM_mo am ca sm) rfl hl.1 rfl (Nat.le_of_ble_eq_true rfl) dL_law_462 (Nat.le_of_ble_eq_true rfl) (Nat.le_of_ble_eq_true rfl) (fun r1 sm1 H locs h hO hP hS => ?_)
      refine lv_icmp_eq (pc := 465) (tgt := 743) S.1 S.2.1 dL_law_465 (by decide) (fun _ => ?_) (fun ce => absurd h.1 ce)
      exact fin st1 sm1 h.2 _ _ _ hP hO hS hl
    by_cases c9 : sel = 8
    · refine lv_tableIn (pc := 33) (tgt := 470) S.1 S.2.1 dL_law_33 (by rw [c9]; decide) (by rw [c9]; decide) (by rw [c9]; rfl) (by decide) ?_
      refine lv_aload_n (pc := 470) S.1 S.2.1 dL_law_470 rfl (lv_at hl 1 rfl) ?_
      refine lwCall (pc := 471) (As := []) (rest := []) S E (cC_dom a ca) (cM_dom am ca) hdis hP hO hS (mt_X7_played l dC dI a ca tb _  st _ (hpure.2.2.2.2.2.2.2.2.1 st sm  hR)) (cw_X7_played ⟨(Nat.le_of_ble_eq_true rfl), (Nat.le_of_ble_eq_true rfl)⟩) kw_620 kw_621 kw_622 0 7 rfl rfl (cC_tp a ca st) rfl hl.1 rfl (Nat.le_of_ble_eq_true rfl) dL_law_471 (Nat.le_of_ble_eq_true rfl) (Nat.le_of_ble_eq_true rfl) (fun r st1 H locs h hP hO hS => ?_)
      refine lv_aload_n (pc := 474) S.1 S.2.1 dL_law_474 rfl (lv_at hl 2 rfl) ?_
      refine lwCall (pc := 475) (As := []) (rest := [.int r]) S EM (cM_dom am ca) (cC_dom a ca) hdis2 hO hP hS (mt_X8_played l dC dI am ca tb _  sm _ h) (cw_X8_played ⟨(Nat.le_of_ble_eq_true rfl), (Nat.le_of_ble_eq_true rfl)⟩) kw_623 kw_624 kw_625 0 8 rfl rfl (cM_mo am ca sm) rfl hl.1 rfl (Nat.le_of_ble_eq_true rfl) dL_law_475 (Nat.le_of_ble_eq_true rfl) (Nat.le_of_ble_eq_true rfl) (fun r1 sm1 H locs h hO hP hS => ?_)
      refine lv_icmp_eq (pc := 478) (tgt := 743) S.1 S.2.1 dL_law_478 (by decide) (fun _ => ?_) (fun ce => absurd h.1 ce)
      exact fin st1 sm1 h.2 _ _ _ hP hO hS hl
    by_cases c10 : sel = 9
    · refine lv_tableIn (pc := 33) (tgt := 483) S.1 S.2.1 dL_law_33 (by rw [c10]; decide) (by rw [c10]; decide) (by rw [c10]; rfl) (by decide) ?_
      refine lv_aload_n (pc := 483) S.1 S.2.1 dL_law_483 rfl (lv_at hl 1 rfl) ?_
      refine lv_aload_n (pc := 484) S.1 S.2.1 dL_law_484 rfl (lv_at hl 0 rfl) ?_
      refine lv_iload_n (pc := 485) S.1 S.2.1 dL_law_485 rfl (lv_at hl 3 rfl) ?_
      refine lv_iconst (pc := 486) S.1 S.2.1 (v := 1) dL_law_486 (by decide) ?_
      refine lv_iadd (pc := 487) S.1 S.2.1 dL_law_487 ?_
      refine va_sld (pc := 488) S.1 S.2.1 hX hbl hbA hS (lw_ix (k := 1) hL hgo (by decide) ex3 rfl) dL_law_488 ?_
      refine lv_aload_n (pc := 489) S.1 S.2.1 dL_law_489 rfl (lv_at hl 0 rfl) ?_
      refine lv_iload_n (pc := 490) S.1 S.2.1 dL_law_490 rfl (lv_at hl 3 rfl) ?_
      refine lv_iconst (pc := 491) S.1 S.2.1 (v := 2) dL_law_491 (by decide) ?_
      refine lv_iadd (pc := 492) S.1 S.2.1 dL_law_492 ?_
      refine va_sld (pc := 493) S.1 S.2.1 hX hbl hbA hS (lw_ix (k := 2) hL hgo (by decide) ex3 rfl) dL_law_493 ?_
      refine lwCall (pc := 494) (As := [.int (xs (x3 + 1).toNatClampNeg), .int (xs (x3 + 2).toNatClampNeg)]) (rest := []) S E (cC_dom a ca) (cM_dom am ca) hdis hP hO hS (mt_X7_who l dC dI a ca tb _ (xs (x3 + 1).toNatClampNeg) (xs (x3 + 2).toNatClampNeg) st _ (hpure.2.2.2.2.2.2.2.2.2.1 st sm (xs (x3 + 1).toNatClampNeg) (xs (x3 + 2).toNatClampNeg) hR)) (cw_X7_who ⟨(Nat.le_of_ble_eq_true rfl), (Nat.le_of_ble_eq_true rfl)⟩) kw_626 kw_627 kw_628 0 7 rfl rfl (cC_tp a ca st) rfl hl.1 rfl (Nat.le_of_ble_eq_true rfl) dL_law_494 (Nat.le_of_ble_eq_true rfl) (Nat.le_of_ble_eq_true rfl) (fun r st1 H locs h hP hO hS => ?_)
      refine lv_aload_n (pc := 497) S.1 S.2.1 dL_law_497 rfl (lv_at hl 2 rfl) ?_
      refine lv_aload_n (pc := 498) S.1 S.2.1 dL_law_498 rfl (lv_at hl 0 rfl) ?_
      refine lv_iload_n (pc := 499) S.1 S.2.1 dL_law_499 rfl (lv_at hl 3 rfl) ?_
      refine lv_iconst (pc := 500) S.1 S.2.1 (v := 1) dL_law_500 (by decide) ?_
      refine lv_iadd (pc := 501) S.1 S.2.1 dL_law_501 ?_
      refine va_sld (pc := 502) S.1 S.2.1 hX hbl hbA hS (lw_ix (k := 1) hL hgo (by decide) ex3 rfl) dL_law_502 ?_
      refine lv_aload_n (pc := 503) S.1 S.2.1 dL_law_503 rfl (lv_at hl 0 rfl) ?_
      refine lv_iload_n (pc := 504) S.1 S.2.1 dL_law_504 rfl (lv_at hl 3 rfl) ?_
      refine lv_iconst (pc := 505) S.1 S.2.1 (v := 2) dL_law_505 (by decide) ?_
      refine lv_iadd (pc := 506) S.1 S.2.1 dL_law_506 ?_
      refine va_sld (pc := 507) S.1 S.2.1 hX hbl hbA hS (lw_ix (k := 2) hL hgo (by decide) ex3 rfl) dL_law_507 ?_
      refine lwCall (pc := 508) (As := [.int (xs (x3 + 1).toNatClampNeg), .int (xs (x3 + 2).toNatClampNeg)]) (rest := [.int r]) S EM (cM_dom am ca) (cC_dom a ca) hdis2 hO hP hS (mt_X8_who l dC dI am ca tb _ (xs (x3 + 1).toNatClampNeg) (xs (x3 + 2).toNatClampNeg) sm _ h) (cw_X8_who ⟨(Nat.le_of_ble_eq_true rfl), (Nat.le_of_ble_eq_true rfl)⟩) kw_629 kw_630 kw_631 0 8 rfl rfl (cM_mo am ca sm) rfl hl.1 rfl (Nat.le_of_ble_eq_true rfl) dL_law_508 (Nat.le_of_ble_eq_true rfl) (Nat.le_of_ble_eq_true rfl) (fun r1 sm1 H locs h hO hP hS => ?_)
      refine lv_icmp_eq (pc := 511) (tgt := 743) S.1 S.2.1 dL_law_511 (by decide) (fun _ => ?_) (fun ce => absurd h.1 ce)
      exact fin st1 sm1 h.2 _ _ _ hP hO hS hl
    by_cases c11 : sel = 10
    · refine lv_tableIn (pc := 33) (tgt := 516) S.1 S.2.1 dL_law_33 (by rw [c11]; decide) (by rw [c11]; decide) (by rw [c11]; rfl) (by decide) ?_
      refine lv_aload_n (pc := 516) S.1 S.2.1 dL_law_516 rfl (lv_at hl 1 rfl) ?_
      refine lv_aload_n (pc := 517) S.1 S.2.1 dL_law_517 rfl (lv_at hl 0 rfl) ?_
      refine lv_iload_n (pc := 518) S.1 S.2.1 dL_law_518 rfl (lv_at hl 3 rfl) ?_
      refine lv_iconst (pc := 519) S.1 S.2.1 (v := 1) dL_law_519 (by decide) ?_
      refine lv_iadd (pc := 520) S.1 S.2.1 dL_law_520 ?_
      refine va_sld (pc := 521) S.1 S.2.1 hX hbl hbA hS (lw_ix (k := 1) hL hgo (by decide) ex3 rfl) dL_law_521 ?_
      refine lv_aload_n (pc := 522) S.1 S.2.1 dL_law_522 rfl (lv_at hl 0 rfl) ?_
      refine lv_iload_n (pc := 523) S.1 S.2.1 dL_law_523 rfl (lv_at hl 3 rfl) ?_
      refine lv_iconst (pc := 524) S.1 S.2.1 (v := 2) dL_law_524 (by decide) ?_
      refine lv_iadd (pc := 525) S.1 S.2.1 dL_law_525 ?_
      refine va_sld (pc := 526) S.1 S.2.1 hX hbl hbA hS (lw_ix (k := 2) hL hgo (by decide) ex3 rfl) dL_law_526 ?_
      refine lwCall (pc := 527) (As := [.int (xs (x3 + 1).toNatClampNeg), .int (xs (x3 + 2).toNatClampNeg)]) (rest := []) S E (cC_dom a ca) (cM_dom am ca) hdis hP hO hS (mt_X7_tune l dC dI a ca tb _ (xs (x3 + 1).toNatClampNeg) (xs (x3 + 2).toNatClampNeg) st _ (hpure.2.2.2.2.2.2.2.2.2.2.1 st sm (xs (x3 + 1).toNatClampNeg) (xs (x3 + 2).toNatClampNeg) hR)) (cw_X7_tune ⟨(Nat.le_of_ble_eq_true rfl), (Nat.le_of_ble_eq_true rfl)⟩) kw_632 kw_633 kw_634 0 7 rfl rfl (cC_tp a ca st) rfl hl.1 rfl (Nat.le_of_ble_eq_true rfl) dL_law_527 (Nat.le_of_ble_eq_true rfl) (Nat.le_of_ble_eq_true rfl) (fun r st1 H locs h hP hO hS => ?_)
      refine lv_aload_n (pc := 530) S.1 S.2.1 dL_law_530 rfl (lv_at hl 2 rfl) ?_
      refine lv_aload_n (pc := 531) S.1 S.2.1 dL_law_531 rfl (lv_at hl 0 rfl) ?_
      refine lv_iload_n (pc := 532) S.1 S.2.1 dL_law_532 rfl (lv_at hl 3 rfl) ?_
      refine lv_iconst (pc := 533) S.1 S.2.1 (v := 1) dL_law_533 (by decide) ?_
      refine lv_iadd (pc := 534) S.1 S.2.1 dL_law_534 ?_
      refine va_sld (pc := 535) S.1 S.2.1 hX hbl hbA hS (lw_ix (k := 1) hL hgo (by decide) ex3 rfl) dL_law_535 ?_
      refine lv_aload_n (pc := 536) S.1 S.2.1 dL_law_536 rfl (lv_at hl 0 rfl) ?_
      refine lv_iload_n (pc := 537) S.1 S.2.1 dL_law_537 rfl (lv_at hl 3 rfl) ?_
      refine lv_iconst (pc := 538) S.1 S.2.1 (v := 2) dL_law_538 (by decide) ?_
      refine lv_iadd (pc := 539) S.1 S.2.1 dL_law_539 ?_
      refine va_sld (pc := 540) S.1 S.2.1 hX hbl hbA hS (lw_ix (k := 2) hL hgo (by decide) ex3 rfl) dL_law_540 ?_
      refine lwCall (pc := 541) (As := [.int (xs (x3 + 1).toNatClampNeg), .int (xs (x3 + 2).toNatClampNeg)]) (rest := [.int r]) S EM (cM_dom am ca) (cC_dom a ca) hdis2 hO hP hS (mt_X8_tune l dC dI am ca tb _ (xs (x3 + 1).toNatClampNeg) (xs (x3 + 2).toNatClampNeg) sm _ h) (cw_X8_tune ⟨(Nat.le_of_ble_eq_true rfl), (Nat.le_of_ble_eq_true rfl)⟩) kw_635 kw_636 kw_637 0 8 rfl rfl (cM_mo am ca sm) rfl hl.1 rfl (Nat.le_of_ble_eq_true rfl) dL_law_541 (Nat.le_of_ble_eq_true rfl) (Nat.le_of_ble_eq_true rfl) (fun r1 sm1 H locs h hO hP hS => ?_)
      refine lv_icmp_eq (pc := 544) (tgt := 743) S.1 S.2.1 dL_law_544 (by decide) (fun _ => ?_) (fun ce => absurd h.1 ce)
      exact fin st1 sm1 h.2 _ _ _ hP hO hS hl
    by_cases c12 : sel = 11
    · refine lv_tableIn (pc := 33) (tgt := 549) S.1 S.2.1 dL_law_33 (by rw [c12]; decide) (by rw [c12]; decide) (by rw [c12]; rfl) (by decide) ?_
      refine lv_aload_n (pc := 549) S.1 S.2.1 dL_law_549 rfl (lv_at hl 1 rfl) ?_
      refine lv_aload_n (pc := 550) S.1 S.2.1 dL_law_550 rfl (lv_at hl 0 rfl) ?_
      refine lv_iload_n (pc := 551) S.1 S.2.1 dL_law_551 rfl (lv_at hl 3 rfl) ?_
      refine lv_iconst (pc := 552) S.1 S.2.1 (v := 1) dL_law_552 (by decide) ?_
      refine lv_iadd (pc := 553) S.1 S.2.1 dL_law_553 ?_
      refine va_sld (pc := 554) S.1 S.2.1 hX hbl hbA hS (lw_ix (k := 1) hL hgo (by decide) ex3 rfl) dL_law_554 ?_
      refine lwCall (pc := 555) (As := [.int (xs (x3 + 1).toNatClampNeg)]) (rest := []) S E (cC_dom a ca) (cM_dom am ca) hdis hP hO hS (mt_X7_heard l dC dI a ca tb _ (xs (x3 + 1).toNatClampNeg) st _ (hpure.2.2.2.2.2.2.2.2.2.2.2.1 st sm (xs (x3 + 1).toNatClampNeg) hR)) (cw_X7_heard ⟨(Nat.le_of_ble_eq_true rfl), (Nat.le_of_ble_eq_true rfl)⟩) kw_638 kw_639 kw_640 0 7 rfl rfl (cC_tp a ca st) rfl hl.1 rfl (Nat.le_of_ble_eq_true rfl) dL_law_555 (Nat.le_of_ble_eq_true rfl) (Nat.le_of_ble_eq_true rfl) (fun r st1 H locs h hP hO hS => ?_)
      refine lv_aload_n (pc := 558) S.1 S.2.1 dL_law_558 rfl (lv_at hl 2 rfl) ?_
      refine lv_aload_n (pc := 559) S.1 S.2.1 dL_law_559 rfl (lv_at hl 0 rfl) ?_
      refine lv_iload_n (pc := 560) S.1 S.2.1 dL_law_560 rfl (lv_at hl 3 rfl) ?_
      refine lv_iconst (pc := 561) S.1 S.2.1 (v := 1) dL_law_561 (by decide) ?_
      refine lv_iadd (pc := 562) S.1 S.2.1 dL_law_562 ?_
      refine va_sld (pc := 563) S.1 S.2.1 hX hbl hbA hS (lw_ix (k := 1) hL hgo (by decide) ex3 rfl) dL_law_563 ?_
      refine lwCall (pc := 564) (As := [.int (xs (x3 + 1).toNatClampNeg)]) (rest := [.int r]) S EM (cM_dom am ca) (cC_dom a ca) hdis2 hO hP hS (mt_X8_heard l dC dI am ca tb _ (xs (x3 + 1).toNatClampNeg) sm _ h) (cw_X8_heard ⟨(Nat.le_of_ble_eq_true rfl), (Nat.le_of_ble_eq_true rfl)⟩) kw_641 kw_642 kw_643 0 8 rfl rfl (cM_mo am ca sm) rfl hl.1 rfl (Nat.le_of_ble_eq_true rfl) dL_law_564 (Nat.le_of_ble_eq_true rfl) (Nat.le_of_ble_eq_true rfl) (fun r1 sm1 H locs h hO hP hS => ?_)
      refine lv_icmp_eq (pc := 567) (tgt := 743) S.1 S.2.1 dL_law_567 (by decide) (fun _ => ?_) (fun ce => absurd h.1 ce)
      exact fin st1 sm1 h.2 _ _ _ hP hO hS hl
    by_cases c13 : sel = 12
    · refine lv_tableIn (pc := 33) (tgt := 572) S.1 S.2.1 dL_law_33 (by rw [c13]; decide) (by rw [c13]; decide) (by rw [c13]; rfl) (by decide) ?_
      refine lv_aload_n (pc := 572) S.1 S.2.1 dL_law_572 rfl (lv_at hl 1 rfl) ?_
      refine lv_aload_n (pc := 573) S.1 S.2.1 dL_law_573 rfl (lv_at hl 0 rfl) ?_
      refine lv_iload_n (pc := 574) S.1 S.2.1 dL_law_574 rfl (lv_at hl 3 rfl) ?_
      refine lv_iconst (pc := 575) S.1 S.2.1 (v := 1) dL_law_575 (by decide) ?_
      refine lv_iadd (pc := 576) S.1 S.2.1 dL_law_576 ?_
      refine va_sld (pc := 577) S.1 S.2.1 hX hbl hbA hS (lw_ix (k := 1) hL hgo (by decide) ex3 rfl) dL_law_577 ?_
      refine lv_aload_n (pc := 578) S.1 S.2.1 dL_law_578 rfl (lv_at hl 0 rfl) ?_
      refine lv_iload_n (pc := 579) S.1 S.2.1 dL_law_579 rfl (lv_at hl 3 rfl) ?_
      refine lv_iconst (pc := 580) S.1 S.2.1 (v := 2) dL_law_580 (by decide) ?_
      refine lv_iadd (pc := 581) S.1 S.2.1 dL_law_581 ?_
      refine va_sld (pc := 582) S.1 S.2.1 hX hbl hbA hS (lw_ix (k := 2) hL hgo (by decide) ex3 rfl) dL_law_582 ?_
      refine lwCall (pc := 583) (As := [.int (xs (x3 + 1).toNatClampNeg), .int (xs (x3 + 2).toNatClampNeg)]) (rest := []) S E (cC_dom a ca) (cM_dom am ca) hdis hP hO hS (mt_X7_share l dC dI a ca tb _ (xs (x3 + 1).toNatClampNeg) (xs (x3 + 2).toNatClampNeg) st _ (hpure.2.2.2.2.2.2.2.2.2.2.2.2.1 st sm (xs (x3 + 1).toNatClampNeg) (xs (x3 + 2).toNatClampNeg) hR)) (cw_X7_share ⟨(Nat.le_of_ble_eq_true rfl), (Nat.le_of_ble_eq_true rfl)⟩) kw_644 kw_645 kw_646 0 7 rfl rfl (cC_tp a ca st) rfl hl.1 rfl (Nat.le_of_ble_eq_true rfl) dL_law_583 (Nat.le_of_ble_eq_true rfl) (Nat.le_of_ble_eq_true rfl) (fun r st1 H locs h hP hO hS => ?_)
      refine lv_aload_n (pc := 586) S.1 S.2.1 dL_law_586 rfl (lv_at hl 2 rfl) ?_
      refine lv_aload_n (pc := 587) S.1 S.2.1 dL_law_587 rfl (lv_at hl 0 rfl) ?_
      refine lv_iload_n (pc := 588) S.1 S.2.1 dL_law_588 rfl (lv_at hl 3 rfl) ?_
      refine lv_iconst (pc := 589) S.1 S.2.1 (v := 1) dL_law_589 (by decide) ?_
      refine lv_iadd (pc := 590) S.1 S.2.1 dL_law_590 ?_
      refine va_sld (pc := 591) S.1 S.2.1 hX hbl hbA hS (lw_ix (k := 1) hL hgo (by decide) ex3 rfl) dL_law_591 ?_
      refine lv_aload_n (pc := 592) S.1 S.2.1 dL_law_592 rfl (lv_at hl 0 rfl) ?_
      refine lv_iload_n (pc := 593) S.1 S.2.1 dL_law_593 rfl (lv_at hl 3 rfl) ?_
      refine lv_iconst (pc := 594) S.1 S.2.1 (v := 2) dL_law_594 (by decide) ?_
      refine lv_iadd (pc := 595) S.1 S.2.1 dL_law_595 ?_
      refine va_sld (pc := 596) S.1 S.2.1 hX hbl hbA hS (lw_ix (k := 2) hL hgo (by decide) ex3 rfl) dL_law_596 ?_
      refine lwCall (pc := 597) (As := [.int (xs (x3 + 1).toNatClampNeg), .int (xs (x3 + 2).toNatClampNeg)]) (rest := [.int r]) S EM (cM_dom am ca) (cC_dom a ca) hdis2 hO hP hS (mt_X8_share l dC dI am ca tb _ (xs (x3 + 1).toNatClampNeg) (xs (x3 + 2).toNatClampNeg) sm _ h) (cw_X8_share ⟨(Nat.le_of_ble_eq_true rfl), (Nat.le_of_ble_eq_true rfl)⟩) kw_647 kw_648 kw_649 0 8 rfl rfl (cM_mo am ca sm) rfl hl.1 rfl (Nat.le_of_ble_eq_true rfl) dL_law_597 (Nat.le_of_ble_eq_true rfl) (Nat.le_of_ble_eq_true rfl) (fun r1 sm1 H locs h hO hP hS => ?_)
      refine lv_icmp_eq (pc := 600) (tgt := 743) S.1 S.2.1 dL_law_600 (by decide) (fun _ => ?_) (fun ce => absurd h.1 ce)
      exact fin st1 sm1 h.2 _ _ _ hP hO hS hl
    by_cases c14 : sel = 13
    · refine lv_tableIn (pc := 33) (tgt := 605) S.1 S.2.1 dL_law_33 (by rw [c14]; decide) (by rw [c14]; decide) (by rw [c14]; rfl) (by decide) ?_
      refine lv_aload_n (pc := 605) S.1 S.2.1 dL_law_605 rfl (lv_at hl 1 rfl) ?_
      refine lwCall (pc := 606) (As := []) (rest := []) S E (cC_dom a ca) (cM_dom am ca) hdis hP hO hS (mt_X7_day l dC dI a ca tb _  st _ (hpure.2.2.2.2.2.2.2.2.2.2.2.2.2.1 st sm  hR)) (cw_X7_day ⟨(Nat.le_of_ble_eq_true rfl), (Nat.le_of_ble_eq_true rfl)⟩) kw_650 kw_651 kw_652 0 7 rfl rfl (cC_tp a ca st) rfl hl.1 rfl (Nat.le_of_ble_eq_true rfl) dL_law_606 (Nat.le_of_ble_eq_true rfl) (Nat.le_of_ble_eq_true rfl) (fun r st1 H locs h hP hO hS => ?_)
      refine lv_aload_n (pc := 609) S.1 S.2.1 dL_law_609 rfl (lv_at hl 2 rfl) ?_
      refine lwCall (pc := 610) (As := []) (rest := [.int r]) S EM (cM_dom am ca) (cC_dom a ca) hdis2 hO hP hS (mt_X8_day l dC dI am ca tb _  sm _ h) (cw_X8_day ⟨(Nat.le_of_ble_eq_true rfl), (Nat.le_of_ble_eq_true rfl)⟩) kw_653 kw_654 kw_655 0 8 rfl rfl (cM_mo am ca sm) rfl hl.1 rfl (Nat.le_of_ble_eq_true rfl) dL_law_610 (Nat.le_of_ble_eq_true rfl) (Nat.le_of_ble_eq_true rfl) (fun r1 sm1 H locs h hO hP hS => ?_)
      refine lv_icmp_eq (pc := 613) (tgt := 743) S.1 S.2.1 dL_law_613 (by decide) (fun _ => ?_) (fun ce => absurd h.1 ce)
      exact fin st1 sm1 h.2 _ _ _ hP hO hS hl
    by_cases c15 : sel = 14
    · refine lv_tableIn (pc := 33) (tgt := 618) S.1 S.2.1 dL_law_33 (by rw [c15]; decide) (by rw [c15]; decide) (by rw [c15]; rfl) (by decide) ?_
      refine lv_aload_n (pc := 618) S.1 S.2.1 dL_law_618 rfl (lv_at hl 1 rfl) ?_
      refine lwCall (pc := 619) (As := []) (rest := []) S E (cC_dom a ca) (cM_dom am ca) hdis hP hO hS (mt_X7_lasts l dC dI a ca tb _  st _ (hpure.2.2.2.2.2.2.2.2.2.2.2.2.2.2.1 st sm  hR)) (cw_X7_lasts ⟨(Nat.le_of_ble_eq_true rfl), (Nat.le_of_ble_eq_true rfl)⟩) kw_656 kw_657 kw_658 0 7 rfl rfl (cC_tp a ca st) rfl hl.1 rfl (Nat.le_of_ble_eq_true rfl) dL_law_619 (Nat.le_of_ble_eq_true rfl) (Nat.le_of_ble_eq_true rfl) (fun r st1 H locs h hP hO hS => ?_)
      refine lv_aload_n (pc := 622) S.1 S.2.1 dL_law_622 rfl (lv_at hl 2 rfl) ?_
      refine lwCall (pc := 623) (As := []) (rest := [.int r]) S EM (cM_dom am ca) (cC_dom a ca) hdis2 hO hP hS (mt_X8_lasts l dC dI am ca tb _  sm _ h) (cw_X8_lasts ⟨(Nat.le_of_ble_eq_true rfl), (Nat.le_of_ble_eq_true rfl)⟩) kw_659 kw_660 kw_661 0 8 rfl rfl (cM_mo am ca sm) rfl hl.1 rfl (Nat.le_of_ble_eq_true rfl) dL_law_623 (Nat.le_of_ble_eq_true rfl) (Nat.le_of_ble_eq_true rfl) (fun r1 sm1 H locs h hO hP hS => ?_)
      refine lv_icmp_eq (pc := 626) (tgt := 743) S.1 S.2.1 dL_law_626 (by decide) (fun _ => ?_) (fun ce => absurd h.1 ce)
      exact fin st1 sm1 h.2 _ _ _ hP hO hS hl
    by_cases c16 : sel = 15
    · refine lv_tableIn (pc := 33) (tgt := 631) S.1 S.2.1 dL_law_33 (by rw [c16]; decide) (by rw [c16]; decide) (by rw [c16]; rfl) (by decide) ?_
      refine lv_aload_n (pc := 631) S.1 S.2.1 dL_law_631 rfl (lv_at hl 1 rfl) ?_
      refine lv_aload_n (pc := 632) S.1 S.2.1 dL_law_632 rfl (lv_at hl 0 rfl) ?_
      refine lv_iload_n (pc := 633) S.1 S.2.1 dL_law_633 rfl (lv_at hl 3 rfl) ?_
      refine lv_iconst (pc := 634) S.1 S.2.1 (v := 1) dL_law_634 (by decide) ?_
      refine lv_iadd (pc := 635) S.1 S.2.1 dL_law_635 ?_
      refine va_sld (pc := 636) S.1 S.2.1 hX hbl hbA hS (lw_ix (k := 1) hL hgo (by decide) ex3 rfl) dL_law_636 ?_
      refine lv_aload_n (pc := 637) S.1 S.2.1 dL_law_637 rfl (lv_at hl 0 rfl) ?_
      refine lv_iload_n (pc := 638) S.1 S.2.1 dL_law_638 rfl (lv_at hl 3 rfl) ?_
      refine lv_iconst (pc := 639) S.1 S.2.1 (v := 2) dL_law_639 (by decide) ?_
      refine lv_iadd (pc := 640) S.1 S.2.1 dL_law_640 ?_
      refine va_sld (pc := 641) S.1 S.2.1 hX hbl hbA hS (lw_ix (k := 2) hL hgo (by decide) ex3 rfl) dL_law_641 ?_
      refine lwCall (pc := 642) (As := [.int (xs (x3 + 1).toNatClampNeg), .int (xs (x3 + 2).toNatClampNeg)]) (rest := []) S E (cC_dom a ca) (cM_dom am ca) hdis hP hO hS (mt_X7_look l dC dI a ca tb _ (xs (x3 + 1).toNatClampNeg) (xs (x3 + 2).toNatClampNeg) st _ (hpure.2.2.2.2.2.2.2.2.2.2.2.2.2.2.2.1 st sm (xs (x3 + 1).toNatClampNeg) (xs (x3 + 2).toNatClampNeg) hR)) (cw_X7_look ⟨(Nat.le_of_ble_eq_true rfl), (Nat.le_of_ble_eq_true rfl)⟩) kw_662 kw_663 kw_664 0 7 rfl rfl (cC_tp a ca st) rfl hl.1 rfl (Nat.le_of_ble_eq_true rfl) dL_law_642 (Nat.le_of_ble_eq_true rfl) (Nat.le_of_ble_eq_true rfl) (fun r st1 H locs h hP hO hS => ?_)
      refine lv_aload_n (pc := 645) S.1 S.2.1 dL_law_645 rfl (lv_at hl 2 rfl) ?_
      refine lv_aload_n (pc := 646) S.1 S.2.1 dL_law_646 rfl (lv_at hl 0 rfl) ?_
      refine lv_iload_n (pc := 647) S.1 S.2.1 dL_law_647 rfl (lv_at hl 3 rfl) ?_
      refine lv_iconst (pc := 648) S.1 S.2.1 (v := 1) dL_law_648 (by decide) ?_
      refine lv_iadd (pc := 649) S.1 S.2.1 dL_law_649 ?_
      refine va_sld (pc := 650) S.1 S.2.1 hX hbl hbA hS (lw_ix (k := 1) hL hgo (by decide) ex3 rfl) dL_law_650 ?_
      refine lv_aload_n (pc := 651) S.1 S.2.1 dL_law_651 rfl (lv_at hl 0 rfl) ?_
      refine lv_iload_n (pc := 652) S.1 S.2.1 dL_law_652 rfl (lv_at hl 3 rfl) ?_
      refine lv_iconst (pc := 653) S.1 S.2.1 (v := 2) dL_law_653 (by decide) ?_
      refine lv_iadd (pc := 654) S.1 S.2.1 dL_law_654 ?_
      refine va_sld (pc := 655) S.1 S.2.1 hX hbl hbA hS (lw_ix (k := 2) hL hgo (by decide) ex3 rfl) dL_law_655 ?_
      refine lwCall (pc := 656) (As := [.int (xs (x3 + 1).toNatClampNeg), .int (xs (x3 + 2).toNatClampNeg)]) (rest := [.int r]) S EM (cM_dom am ca) (cC_dom a ca) hdis2 hO hP hS (mt_X8_look l dC dI am ca tb _ (xs (x3 + 1).toNatClampNeg) (xs (x3 + 2).toNatClampNeg) sm _ h) (cw_X8_look ⟨(Nat.le_of_ble_eq_true rfl), (Nat.le_of_ble_eq_true rfl)⟩) kw_665 kw_666 kw_667 0 8 rfl rfl (cM_mo am ca sm) rfl hl.1 rfl (Nat.le_of_ble_eq_true rfl) dL_law_656 (Nat.le_of_ble_eq_true rfl) (Nat.le_of_ble_eq_true rfl) (fun r1 sm1 H locs h hO hP hS => ?_)
      refine lv_icmp_eq (pc := 659) (tgt := 743) S.1 S.2.1 dL_law_659 (by decide) (fun _ => ?_) (fun ce => absurd h.1 ce)
      exact fin st1 sm1 h.2 _ _ _ hP hO hS hl
    by_cases c17 : sel = 16
    · refine lv_tableIn (pc := 33) (tgt := 664) S.1 S.2.1 dL_law_33 (by rw [c17]; decide) (by rw [c17]; decide) (by rw [c17]; rfl) (by decide) ?_
      refine lv_aload_n (pc := 664) S.1 S.2.1 dL_law_664 rfl (lv_at hl 1 rfl) ?_
      refine lv_aload_n (pc := 665) S.1 S.2.1 dL_law_665 rfl (lv_at hl 0 rfl) ?_
      refine lv_iload_n (pc := 666) S.1 S.2.1 dL_law_666 rfl (lv_at hl 3 rfl) ?_
      refine lv_iconst (pc := 667) S.1 S.2.1 (v := 1) dL_law_667 (by decide) ?_
      refine lv_iadd (pc := 668) S.1 S.2.1 dL_law_668 ?_
      refine va_sld (pc := 669) S.1 S.2.1 hX hbl hbA hS (lw_ix (k := 1) hL hgo (by decide) ex3 rfl) dL_law_669 ?_
      refine lwCall (pc := 670) (As := [.int (xs (x3 + 1).toNatClampNeg)]) (rest := []) S E (cC_dom a ca) (cM_dom am ca) hdis hP hO hS (mt_X7_wages l dC dI a ca tb _ (xs (x3 + 1).toNatClampNeg) st _ (hpure.2.2.2.2.2.2.2.2.2.2.2.2.2.2.2.2.1 st sm (xs (x3 + 1).toNatClampNeg) hR)) (cw_X7_wages ⟨(Nat.le_of_ble_eq_true rfl), (Nat.le_of_ble_eq_true rfl)⟩) kw_668 kw_669 kw_670 0 7 rfl rfl (cC_tp a ca st) rfl hl.1 rfl (Nat.le_of_ble_eq_true rfl) dL_law_670 (Nat.le_of_ble_eq_true rfl) (Nat.le_of_ble_eq_true rfl) (fun r st1 H locs h hP hO hS => ?_)
      refine lv_aload_n (pc := 673) S.1 S.2.1 dL_law_673 rfl (lv_at hl 2 rfl) ?_
      refine lv_aload_n (pc := 674) S.1 S.2.1 dL_law_674 rfl (lv_at hl 0 rfl) ?_
      refine lv_iload_n (pc := 675) S.1 S.2.1 dL_law_675 rfl (lv_at hl 3 rfl) ?_
      refine lv_iconst (pc := 676) S.1 S.2.1 (v := 1) dL_law_676 (by decide) ?_
      refine lv_iadd (pc := 677) S.1 S.2.1 dL_law_677 ?_
      refine va_sld (pc := 678) S.1 S.2.1 hX hbl hbA hS (lw_ix (k := 1) hL hgo (by decide) ex3 rfl) dL_law_678 ?_
      refine lwCall (pc := 679) (As := [.int (xs (x3 + 1).toNatClampNeg)]) (rest := [.int r]) S EM (cM_dom am ca) (cC_dom a ca) hdis2 hO hP hS (mt_X8_wages l dC dI am ca tb _ (xs (x3 + 1).toNatClampNeg) sm _ h) (cw_X8_wages ⟨(Nat.le_of_ble_eq_true rfl), (Nat.le_of_ble_eq_true rfl)⟩) kw_671 kw_672 kw_673 0 8 rfl rfl (cM_mo am ca sm) rfl hl.1 rfl (Nat.le_of_ble_eq_true rfl) dL_law_679 (Nat.le_of_ble_eq_true rfl) (Nat.le_of_ble_eq_true rfl) (fun r1 sm1 H locs h hO hP hS => ?_)
      refine lv_icmp_eq (pc := 682) (tgt := 743) S.1 S.2.1 dL_law_682 (by decide) (fun _ => ?_) (fun ce => absurd h.1 ce)
      exact fin st1 sm1 h.2 _ _ _ hP hO hS hl
    by_cases c18 : sel = 17
    · refine lv_tableIn (pc := 33) (tgt := 687) S.1 S.2.1 dL_law_33 (by rw [c18]; decide) (by rw [c18]; decide) (by rw [c18]; rfl) (by decide) ?_
      refine lv_aload_n (pc := 687) S.1 S.2.1 dL_law_687 rfl (lv_at hl 1 rfl) ?_
      refine lv_aload_n (pc := 688) S.1 S.2.1 dL_law_688 rfl (lv_at hl 0 rfl) ?_
      refine lv_iload_n (pc := 689) S.1 S.2.1 dL_law_689 rfl (lv_at hl 3 rfl) ?_
      refine lv_iconst (pc := 690) S.1 S.2.1 (v := 1) dL_law_690 (by decide) ?_
      refine lv_iadd (pc := 691) S.1 S.2.1 dL_law_691 ?_
      refine va_sld (pc := 692) S.1 S.2.1 hX hbl hbA hS (lw_ix (k := 1) hL hgo (by decide) ex3 rfl) dL_law_692 ?_
      refine lv_aload_n (pc := 693) S.1 S.2.1 dL_law_693 rfl (lv_at hl 0 rfl) ?_
      refine lv_iload_n (pc := 694) S.1 S.2.1 dL_law_694 rfl (lv_at hl 3 rfl) ?_
      refine lv_iconst (pc := 695) S.1 S.2.1 (v := 2) dL_law_695 (by decide) ?_
      refine lv_iadd (pc := 696) S.1 S.2.1 dL_law_696 ?_
      refine va_sld (pc := 697) S.1 S.2.1 hX hbl hbA hS (lw_ix (k := 2) hL hgo (by decide) ex3 rfl) dL_law_697 ?_
      refine lwCall (pc := 698) (As := [.int (xs (x3 + 1).toNatClampNeg), .int (xs (x3 + 2).toNatClampNeg)]) (rest := []) S E (cC_dom a ca) (cM_dom am ca) hdis hP hO hS (mt_X7_about l dC dI a ca tb _ (xs (x3 + 1).toNatClampNeg) (xs (x3 + 2).toNatClampNeg) st _ (hpure.2.2.2.2.2.2.2.2.2.2.2.2.2.2.2.2.2.1 st sm (xs (x3 + 1).toNatClampNeg) (xs (x3 + 2).toNatClampNeg) hR)) (cw_X7_about ⟨(Nat.le_of_ble_eq_true rfl), (Nat.le_of_ble_eq_true rfl)⟩) kw_674 kw_675 kw_676 0 7 rfl rfl (cC_tp a ca st) rfl hl.1 rfl (Nat.le_of_ble_eq_true rfl) dL_law_698 (Nat.le_of_ble_eq_true rfl) (Nat.le_of_ble_eq_true rfl) (fun r st1 H locs h hP hO hS => ?_)
      refine lv_aload_n (pc := 701) S.1 S.2.1 dL_law_701 rfl (lv_at hl 2 rfl) ?_
      refine lv_aload_n (pc := 702) S.1 S.2.1 dL_law_702 rfl (lv_at hl 0 rfl) ?_
      refine lv_iload_n (pc := 703) S.1 S.2.1 dL_law_703 rfl (lv_at hl 3 rfl) ?_
      refine lv_iconst (pc := 704) S.1 S.2.1 (v := 1) dL_law_704 (by decide) ?_
      refine lv_iadd (pc := 705) S.1 S.2.1 dL_law_705 ?_
      refine va_sld (pc := 706) S.1 S.2.1 hX hbl hbA hS (lw_ix (k := 1) hL hgo (by decide) ex3 rfl) dL_law_706 ?_
      refine lv_aload_n (pc := 707) S.1 S.2.1 dL_law_707 rfl (lv_at hl 0 rfl) ?_
      refine lv_iload_n (pc := 708) S.1 S.2.1 dL_law_708 rfl (lv_at hl 3 rfl) ?_
      refine lv_iconst (pc := 709) S.1 S.2.1 (v := 2) dL_law_709 (by decide) ?_
      refine lv_iadd (pc := 710) S.1 S.2.1 dL_law_710 ?_
      refine va_sld (pc := 711) S.1 S.2.1 hX hbl hbA hS (lw_ix (k := 2) hL hgo (by decide) ex3 rfl) dL_law_711 ?_
      refine lwCall (pc := 712) (As := [.int (xs (x3 + 1).toNatClampNeg), .int (xs (x3 + 2).toNatClampNeg)]) (rest := [.int r]) S EM (cM_dom am ca) (cC_dom a ca) hdis2 hO hP hS (mt_X8_about l dC dI am ca tb _ (xs (x3 + 1).toNatClampNeg) (xs (x3 + 2).toNatClampNeg) sm _ h) (cw_X8_about ⟨(Nat.le_of_ble_eq_true rfl), (Nat.le_of_ble_eq_true rfl)⟩) kw_677 kw_678 kw_679 0 8 rfl rfl (cM_mo am ca sm) rfl hl.1 rfl (Nat.le_of_ble_eq_true rfl) dL_law_712 (Nat.le_of_ble_eq_true rfl) (Nat.le_of_ble_eq_true rfl) (fun r1 sm1 H locs h hO hP hS => ?_)
      refine lv_icmp_eq (pc := 715) (tgt := 743) S.1 S.2.1 dL_law_715 (by decide) (fun _ => ?_) (fun ce => absurd h.1 ce)
      exact fin st1 sm1 h.2 _ _ _ hP hO hS hl
    by_cases c19 : sel = 18
    · refine lv_tableIn (pc := 33) (tgt := 720) S.1 S.2.1 dL_law_33 (by rw [c19]; decide) (by rw [c19]; decide) (by rw [c19]; rfl) (by decide) ?_
      refine lv_aload_n (pc := 720) S.1 S.2.1 dL_law_720 rfl (lv_at hl 1 rfl) ?_
      refine lv_aload_n (pc := 721) S.1 S.2.1 dL_law_721 rfl (lv_at hl 0 rfl) ?_
      refine lv_iload_n (pc := 722) S.1 S.2.1 dL_law_722 rfl (lv_at hl 3 rfl) ?_
      refine lv_iconst (pc := 723) S.1 S.2.1 (v := 1) dL_law_723 (by decide) ?_
      refine lv_iadd (pc := 724) S.1 S.2.1 dL_law_724 ?_
      refine va_sld (pc := 725) S.1 S.2.1 hX hbl hbA hS (lw_ix (k := 1) hL hgo (by decide) ex3 rfl) dL_law_725 ?_
      refine lwCall (pc := 726) (As := [.int (xs (x3 + 1).toNatClampNeg)]) (rest := []) S E (cC_dom a ca) (cM_dom am ca) hdis hP hO hS (mt_X7_count l dC dI a ca tb _ (xs (x3 + 1).toNatClampNeg) st _ (hpure.2.2.2.2.2.2.2.2.2.2.2.2.2.2.2.2.2.2 st sm (xs (x3 + 1).toNatClampNeg) hR)) (cw_X7_count ⟨(Nat.le_of_ble_eq_true rfl), (Nat.le_of_ble_eq_true rfl)⟩) kw_680 kw_681 kw_682 0 7 rfl rfl (cC_tp a ca st) rfl hl.1 rfl (Nat.le_of_ble_eq_true rfl) dL_law_726 (Nat.le_of_ble_eq_true rfl) (Nat.le_of_ble_eq_true rfl) (fun r st1 H locs h hP hO hS => ?_)
      refine lv_aload_n (pc := 729) S.1 S.2.1 dL_law_729 rfl (lv_at hl 2 rfl) ?_
      refine lv_aload_n (pc := 730) S.1 S.2.1 dL_law_730 rfl (lv_at hl 0 rfl) ?_
      refine lv_iload_n (pc := 731) S.1 S.2.1 dL_law_731 rfl (lv_at hl 3 rfl) ?_
      refine lv_iconst (pc := 732) S.1 S.2.1 (v := 1) dL_law_732 (by decide) ?_
      refine lv_iadd (pc := 733) S.1 S.2.1 dL_law_733 ?_
      refine va_sld (pc := 734) S.1 S.2.1 hX hbl hbA hS (lw_ix (k := 1) hL hgo (by decide) ex3 rfl) dL_law_734 ?_
      refine lwCall (pc := 735) (As := [.int (xs (x3 + 1).toNatClampNeg)]) (rest := [.int r]) S EM (cM_dom am ca) (cC_dom a ca) hdis2 hO hP hS (mt_X8_count l dC dI am ca tb _ (xs (x3 + 1).toNatClampNeg) sm _ h) (cw_X8_count ⟨(Nat.le_of_ble_eq_true rfl), (Nat.le_of_ble_eq_true rfl)⟩) kw_683 kw_684 kw_685 0 8 rfl rfl (cM_mo am ca sm) rfl hl.1 rfl (Nat.le_of_ble_eq_true rfl) dL_law_735 (Nat.le_of_ble_eq_true rfl) (Nat.le_of_ble_eq_true rfl) (fun r1 sm1 H locs h hO hP hS => ?_)
      refine lv_icmp_eq (pc := 738) (tgt := 743) S.1 S.2.1 dL_law_738 (by decide) (fun _ => ?_) (fun ce => absurd h.1 ce)
      exact fin st1 sm1 h.2 _ _ _ hP hO hS hl
    refine lv_tableOut (pc := 33) (tgt := 743) S.1 S.2.1 dL_law_33 (by have := lv_neT (a := 0) c1 rfl; have := lv_neT (a := 1) c2 rfl; have := lv_neT (a := 2) c3 rfl; have := lv_neT (a := 3) c4 rfl; have := lv_neT (a := 4) c5 rfl; have := lv_neT (a := 5) c6 rfl; have := lv_neT (a := 6) c7 rfl; have := lv_neT (a := 7) c8 rfl; have := lv_neT (a := 8) c9 rfl; have := lv_neT (a := 9) c10 rfl; have := lv_neT (a := 10) c11 rfl; have := lv_neT (a := 11) c12 rfl; have := lv_neT (a := 12) c13 rfl; have := lv_neT (a := 13) c14 rfl; have := lv_neT (a := 14) c15 rfl; have := lv_neT (a := 15) c16 rfl; have := lv_neT (a := 16) c17 rfl; have := lv_neT (a := 17) c18 rfl; have := lv_neT (a := 18) c19 rfl; omega) (by decide) ?_
    exact fin st sm hR _ _ _ hP hO hS hl
