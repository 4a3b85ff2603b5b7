def rmX1_canFill (d : Nat) : Room := { frames := 2 * d + 3, cells := 0, slots := 0, locals := 50 * d + 200 }
def rmX1_canGive (d : Nat) : Room := { frames := 2 * d + 4, cells := 0, slots := 0, locals := 50 * d + 224 }
theorem cw_X1_canFill {d : Nat} {R : Room} {own : String} {index : Nat} (h : (rmX1_canFill d).frames + 1 ≤ R.frames ∧ 8 + (5 + 11) + (rmX1_canFill d).locals ≤ R.locals) : tCw R own index yX1_canFill cX1_canFill 5 (some .boolean) (rmX1_canFill d) 2 := ⟨kw_126, kw_90, ⟨rfl, rfl, h.1, h.2⟩, by decide +kernel, by decide +kernel, by decide +kernel⟩
def tMcf (l : Launch) (dC : Nat → ClassId) (dI : Nat → Nat → Nat) (a : Nat → Nat) (ca : Nat → ClassId) (tb : Nat → Nat) (d : Nat) (cf : Int32 → Int32 → tSt → (Int32 → tSt → Prop) → Prop) : Prop := ∀ (sz : Nat) (x1 x2 : Int32) (st : tSt) (post : Int32 → tSt → Prop), cf x1 x2 st post → Met l yX1_canFill (.code yX1_canFill cX1_canFill 5 (some .boolean) :: tWALL) (rmX1_canFill d) (va_Pc [.ref (a 40), .int x1, .int x2] (tPre 47 (cwC a ca) dC dI a ca tb sz st)) (va_Qi post (tB (cwC a ca) dC dI) (tA 47 a sz)) 0 0 (tA 47 a sz)
theorem cw_X1_canGive {d : Nat} {R : Room} {own : String} {index : Nat} (h : (rmX1_canGive d).frames + 1 ≤ R.frames ∧ 8 + (7 + 11) + (rmX1_canGive d).locals ≤ R.locals) : tCw R own index yX1_canGive cX1_canGive 7 (some .boolean) (rmX1_canGive d) 4 := ⟨kw_125, kw_90, ⟨rfl, rfl, h.1, h.2⟩, by decide +kernel, by decide +kernel, by decide +kernel⟩
def tMcg (l : Launch) (dC : Nat → ClassId) (dI : Nat → Nat → Nat) (a : Nat → Nat) (ca : Nat → ClassId) (tb : Nat → Nat) (d : Nat) (cg : Int32 → Int32 → Int32 → Int32 → tSt → (Int32 → tSt → Prop) → Prop) : Prop := ∀ (sz : Nat) (x1 x2 x3 x4 : Int32) (st : tSt) (post : Int32 → tSt → Prop), cg x1 x2 x3 x4 st post → Met l yX1_canGive (.code yX1_canGive cX1_canGive 7 (some .boolean) :: tWALL) (rmX1_canGive d) (va_Pc [.ref (a 40), .int x1, .int x2, .int x3, .int x4] (tPre 47 (cwC a ca) dC dI a ca tb sz st)) (va_Qi post (tB (cwC a ca) dC dI) (tA 47 a sz)) 0 0 (tA 47 a sz)

set_option maxHeartbeats 4000000 in
set_option maxRecDepth 100000 in
theorem mt_X1_canGive (l : Launch) (dC : Nat → ClassId) (dI : Nat → Nat → Nat) (a : Nat → Nat) (ca : Nat → ClassId) (tb : Nat → Nat) (sz : Nat) {d : Nat} {cf : Int32 → Int32 → tSt → (Int32 → tSt → Prop) → Prop} (hcf : tMcf l dC dI a ca tb d cf) (x1 : Int32) (x2 : Int32) (x3 : Int32) (x4 : Int32) (st : tSt) (post : Int32 → tSt → Prop) (h : wp_Cast_canGive_b cf x1 x2 x3 x4 st post) : Met l yX1_canGive (.code yX1_canGive cX1_canGive 7 (some .boolean) :: tWALL) (rmX1_canGive d) (va_Pc [.ref (a 40), .int x1, .int x2, .int x3, .int x4] (tPre 47 (cwC a ca) dC dI a ca tb sz st)) (va_Qi post (tB (cwC a ca) dC dI) (tA 47 a sz)) 0 0 (tA 47 a sz) := by
  refine tp_met (by decide) (Nat.le_of_ble_eq_true rfl) ?_
  intro p e s m below meth c ls S hr hlk hsz E hP hl
  subst hsz
  have S : CallFix p m c cX1_canGive 7 s _ (.code yX1_canGive cX1_canGive 7 (some .boolean) :: tWALL) RX1 := S
  have hl : lv_has ls 7 [(0, .ref (a 40)), (1, .int x1), (2, .int x2), (3, .int x3), (4, .int x4)] := hl
  have hS : va_S (tA 47 a s.heap.size) s.heap s.heap [] := va_S.rf
  show W p l e _ s m _ below meth c s.heap [] 0 0 (tQi (cwC a ca) 47 dC dI a ([.ref (a 40), .int x1, .int x2, .int x3, .int x4] : List Value).toArray below s post) (F0 m 0 ls [])
  refine lv_iload (pc := 0) S.1 S.2.1 dX1_canGive_0 (lv_at hl 4 rfl) ?_
  refine lv_bipush (pc := 2) S.1 S.2.1 (v := 12) dX1_canGive_2 (by decide) ?_
  refine lv_icmp_lt (pc := 4) (tgt := 9) S.1 S.2.1 dX1_canGive_4 (by decide) (fun c1 => ?_) (fun c1 => ?_)
  · have h := h.1 c1
    refine lv_aload_n (pc := 9) S.1 S.2.1 dX1_canGive_9 rfl (lv_at hl 0 rfl) ?_
    refine tp_get (pc := 10) S E.1 hP iwX1 40 (cC_cast a ca st) rfl 0 (by decide) kw_87 (v := .ref (a 43)) rfl dX1_canGive_10 ?_
    refine lv_iload_n (pc := 13) S.1 S.2.1 dX1_canGive_13 rfl (lv_at hl 2 rfl) ?_
    obtain ⟨hn2, h⟩ := h
    refine tp_iald (pc := 14) S E.1 hP 43 0 (cC_openTo a ca st) rfl (j := x2.toNatClampNeg) rfl hn2 dX1_canGive_14 ?_
    refine lv_topi (fun y5_1 e3 => ?_)
    have h := h y5_1 e3
    refine lv_istore (pc := 15) S.1 S.2.1 (lv' := [(5, .int y5_1), (0, .ref (a 40)), (1, .int x1), (2, .int x2), (3, .int x3), (4, .int x4)]) dX1_canGive_15 hl (by decide) rfl (fun ls hl => ?_)
    refine lv_aload_n (pc := 17) S.1 S.2.1 dX1_canGive_17 rfl (lv_at hl 1 rfl) ?_
    refine tp_get (pc := 18) S E.1 hP iwX1 40 (cC_cast a ca st) rfl 0 (by decide) kw_87 (v := .ref (a 43)) rfl dX1_canGive_18 ?_
    refine lv_iload_n (pc := 21) S.1 S.2.1 dX1_canGive_21 rfl (lv_at hl 3 rfl) ?_
    refine lv_iload (pc := 22) S.1 S.2.1 dX1_canGive_22 (lv_at hl 0 rfl) ?_
    refine lv_aload_n (pc := 24) S.1 S.2.1 dX1_canGive_24 rfl (lv_at hl 1 rfl) ?_
    refine tp_get (pc := 25) S E.1 hP iwX1 40 (cC_cast a ca st) rfl 1 (by decide) kw_100 (v := .ref (a 44)) rfl dX1_canGive_25 ?_
    refine lv_iload_n (pc := 28) S.1 S.2.1 dX1_canGive_28 rfl (lv_at hl 2 rfl) ?_
    obtain ⟨hn4, h⟩ := h
    refine tp_iald (pc := 29) S E.1 hP 44 0 (cC_bars a ca st) rfl (j := x1.toNatClampNeg) rfl hn4 dX1_canGive_29 ?_
    refine lv_iconst (pc := 30) S.1 S.2.1 (v := (-1)) dX1_canGive_30 (by decide) ?_
    refine lv_ixor (pc := 31) S.1 S.2.1 dX1_canGive_31 ?_
    refine lv_iand (pc := 32) S.1 S.2.1 dX1_canGive_32 ?_
    obtain ⟨hn5, h⟩ := h
    refine tp_iast (pc := 33) S E.1 hP (cC_D E st) hS 43 0 (cC_openTo a ca st) rfl (j := x2.toNatClampNeg) rfl hn5 (sC_openTo a ca st _ _) dX1_canGive_33 (fun st2 H locs e6 hP hS => ?_)
    have h := h st2 e6
    refine lv_aload_n (pc := 34) S.1 S.2.1 dX1_canGive_34 rfl (lv_at hl 1 rfl) ?_
    refine lv_iload_n (pc := 35) S.1 S.2.1 dX1_canGive_35 rfl (lv_at hl 4 rfl) ?_
    refine lv_iconst (pc := 36) S.1 S.2.1 (v := 1) dX1_canGive_36 (by decide) ?_
    refine lv_iload_n (pc := 37) S.1 S.2.1 dX1_canGive_37 rfl (lv_at hl 2 rfl) ?_
    refine lv_ishl (pc := 38) S.1 S.2.1 dX1_canGive_38 ?_
    refine lv_iconst (pc := 39) S.1 S.2.1 (v := (-1)) dX1_canGive_39 (by decide) ?_
    refine lv_ixor (pc := 40) S.1 S.2.1 dX1_canGive_40 ?_
    refine lv_iand (pc := 41) S.1 S.2.1 dX1_canGive_41 ?_
    refine lv_iload (pc := 42) S.1 S.2.1 dX1_canGive_42 (lv_at hl 5 rfl) ?_
    refine lv_iconst (pc := 44) S.1 S.2.1 (v := 1) dX1_canGive_44 (by decide) ?_
    refine lv_iadd (pc := 45) S.1 S.2.1 dX1_canGive_45 ?_
    refine tGi hS (tRunV (pc := 46) (As := [.int (x3 &&& (((1 : Int32) <<< (x1 &&& 31)) ^^^ (-1 : Int32))), .int (x4 + (1 : Int32))]) (rest := []) S E hP hS (hcf _ (x3 &&& (((1 : Int32) <<< (x1 &&& 31)) ^^^ (-1 : Int32))) (x4 + (1 : Int32)) st2 _ h) (cw_X1_canFill ⟨by simp only [rmX1_canFill, rmX1_canGive]; (try simp only [rmX1_hardestOf, rmX1_isWorthTrying]); omega, by simp only [rmX1_canFill, rmX1_canGive]; (try simp only [rmX1_hardestOf, rmX1_isWorthTrying]); omega⟩) kw_122 kw_123 kw_124 40 1 rfl rfl (cC_cast a ca st2) rfl hl.1 rfl (Nat.le_of_ble_eq_true rfl) dX1_canGive_46) (fun r4 st3 H locs h hP hS => ?_)
    refine lv_istore (pc := 49) S.1 S.2.1 (lv' := [(6, .int r4), (5, .int y5_1), (0, .ref (a 40)), (1, .int x1), (2, .int x2), (3, .int x3), (4, .int x4)]) dX1_canGive_49 hl (by decide) rfl (fun ls hl => ?_)
    refine lv_aload_n (pc := 51) S.1 S.2.1 dX1_canGive_51 rfl (lv_at hl 2 rfl) ?_
    refine tp_get (pc := 52) S E.1 hP iwX1 40 (cC_cast a ca st3) rfl 0 (by decide) kw_87 (v := .ref (a 43)) rfl dX1_canGive_52 ?_
    refine lv_iload_n (pc := 55) S.1 S.2.1 dX1_canGive_55 rfl (lv_at hl 4 rfl) ?_
    refine lv_iload (pc := 56) S.1 S.2.1 dX1_canGive_56 (lv_at hl 1 rfl) ?_
    obtain ⟨hn7, h⟩ := h
    refine tp_iast (pc := 58) S E.1 hP (cC_D E st3) hS 43 0 (cC_openTo a ca st3) rfl (j := x2.toNatClampNeg) rfl hn7 (sC_openTo a ca st3 _ _) dX1_canGive_58 (fun st5 H locs e8 hP hS => ?_)
    have h := h st5 e8
    refine lv_iload (pc := 59) S.1 S.2.1 dX1_canGive_59 (lv_at hl 0 rfl) ?_
    refine lv_if_eq (pc := 61) (tgt := 71) S.1 S.2.1 dX1_canGive_61 (by decide) (fun c9 => ?_) (fun c9 => ?_)
    · have h := h.1 c9
      refine lv_iload (pc := 71) S.1 S.2.1 dX1_canGive_71 (lv_at hl 0 rfl) ?_
      obtain ⟨hn10, h⟩ := h
      exact tRz S hr hlk hP hS hn10 h dX1_canGive_73
    · have h := h.2 c9
      refine lv_aload_n (pc := 64) S.1 S.2.1 dX1_canGive_64 rfl (lv_at hl 2 rfl) ?_
      refine tp_get (pc := 65) S E.1 hP iwX1 40 (cC_cast a ca st5) rfl 3 (by decide) kw_93 (v := .ref (a 46)) rfl dX1_canGive_65 ?_
      refine lv_iload_n (pc := 68) S.1 S.2.1 dX1_canGive_68 rfl (lv_at hl 3 rfl) ?_
      refine lv_iload_n (pc := 69) S.1 S.2.1 dX1_canGive_69 rfl (lv_at hl 4 rfl) ?_
      obtain ⟨hn11, h⟩ := h
      refine tp_iast (pc := 70) S E.1 hP (cC_D E st5) hS 46 0 (cC_piperFor a ca st5) rfl (j := x1.toNatClampNeg) rfl hn11 (sC_piperFor a ca st5 _ _) dX1_canGive_70 (fun st6 H locs e12 hP hS => ?_)
      have h := h st6 e12
      refine lv_iload (pc := 71) S.1 S.2.1 dX1_canGive_71 (lv_at hl 0 rfl) ?_
      obtain ⟨hn13, h⟩ := h
      exact tRz S hr hlk hP hS hn13 h dX1_canGive_73
  · have h := h.2 c1
    refine lv_iconst (pc := 7) S.1 S.2.1 (v := 0) dX1_canGive_7 (by decide) ?_
    exact tRz S hr hlk hP hS (Or.inl rfl) h dX1_canGive_8

set_option maxHeartbeats 4000000 in
set_option maxRecDepth 100000 in
theorem wk_X1_canFill_47 {p : Program} {l : Launch} {e : Env} {s : State} {m : MethodId} {args : Array Value} {below : List Frame} {meth : Method} {c : Code} {dC : Nat → ClassId} {dI : Nat → Nat → Nat} {a : Nat → Nat} {ca : Nat → ClassId} {tb : Nat → Nat} {w0 : Cond} {d : Nat} {cg : Int32 → Int32 → Int32 → Int32 → tSt → (Int32 → tSt → Prop) → Prop} (hcg : tMcg l dC dI a ca tb d cg) (S : CallFix p m c cX1_canFill 5 s args (w0 :: tWALL) RX1) (hr : meth.sig.returnType = (some .boolean)) (hlk : meth.locks = false) (E : tEnv 47 dC dI a ca tb s) (post : Int32 → tSt → Prop) (k15 : Int32 → Int32 → Int32 → Int32 → tSt → Prop) (hk15 : ∀ (x1 : Int32) (x2 : Int32) (x3 : Int32) (x4 : Int32) (st : tSt), k15 x1 x2 x3 x4 st → tAt p l e (rmX1_canFill (d + 1)) s m args below meth c (dC, dI) (cwC a ca) (tA 47 a s.heap.size) (tQi (cwC a ca) 47 dC dI a args below s post) 5 15 [(0, .ref (a 40)), (1, .int x1), (2, .int x2), (3, .int x3), (4, .int x4)] [] st) : ∀ (x1 : Int32) (x2 : Int32) (x3 : Int32) (x4 : Int32) (st : tSt), wp_Cast_canFill_b_47 cg post k15 x1 x2 x3 x4 st → tAt p l e (rmX1_canFill (d + 1)) s m args below meth c (dC, dI) (cwC a ca) (tA 47 a s.heap.size) (tQi (cwC a ca) 47 dC dI a args below s post) 5 47 [(0, .ref (a 40)), (1, .int x1), (2, .int x2), (3, .int x3), (4, .int x4)] [] st := by
  intro x1 x2 x3 x4 st h H locs ls hP hS hl
  obtain ⟨y4_1, e1⟩ : ∃ y : Int32, y = x4 + 1 := ⟨_, rfl⟩
  have h := h y4_1 e1
  refine lv_iinc (pc := 47) S.1 S.2.1 (v := y4_1) (lv' := [(4, .int y4_1), (0, .ref (a 40)), (1, .int x1), (2, .int x2), (3, .int x3)]) dX1_canFill_47 hl (k := 4) rfl (by rw [e1]; rfl) (by decide) rfl (fun ls hl => ?_)
  refine lv_goto (pc := 50) S.1 S.2.1 (tgt := 15) dX1_canFill_50 (by decide) ?_
  exact hk15 x1 x2 x3 y4_1 st h _ _ _ hP hS (lv_sub hl [1, 2, 3, 4, 0] rfl)
set_option maxHeartbeats 4000000 in
set_option maxRecDepth 100000 in
theorem wk_X1_canFill_15 {p : Program} {l : Launch} {e : Env} {s : State} {m : MethodId} {args : Array Value} {below : List Frame} {meth : Method} {c : Code} {dC : Nat → ClassId} {dI : Nat → Nat → Nat} {a : Nat → Nat} {ca : Nat → ClassId} {tb : Nat → Nat} {w0 : Cond} {d : Nat} {cg : Int32 → Int32 → Int32 → Int32 → tSt → (Int32 → tSt → Prop) → Prop} (hcg : tMcg l dC dI a ca tb d cg) (S : CallFix p m c cX1_canFill 5 s args (w0 :: tWALL) RX1) (hr : meth.sig.returnType = (some .boolean)) (hlk : meth.locks = false) (E : tEnv 47 dC dI a ca tb s) (post : Int32 → tSt → Prop) : ∀ (n : Nat) (x1 : Int32) (x2 : Int32) (x3 : Int32) (x4 : Int32) (st : tSt), wp_Cast_canFill_b_15 cg post n x1 x2 x3 x4 st → tAt p l e (rmX1_canFill (d + 1)) s m args below meth c (dC, dI) (cwC a ca) (tA 47 a s.heap.size) (tQi (cwC a ca) 47 dC dI a args below s post) 5 15 [(0, .ref (a 40)), (1, .int x1), (2, .int x2), (3, .int x3), (4, .int x4)] [] st := by
  intro n
  induction n with
  | zero => intro x1 x2 x3 x4 st h; exact absurd h id
  | succ n ih =>
    intro x1 x2 x3 x4 st h H locs ls hP hS hl
    refine lv_iload (pc := 15) S.1 S.2.1 dX1_canFill_15 (lv_at hl 4 rfl) ?_
    refine lv_bipush (pc := 17) S.1 S.2.1 (v := 6) dX1_canFill_17 (by decide) ?_
    refine lv_icmp_ge (pc := 19) (tgt := 53) S.1 S.2.1 dX1_canFill_19 (by decide) (fun c1 => ?_) (fun c1 => ?_)
    · have h := h.1 c1
      refine lv_iconst (pc := 53) S.1 S.2.1 (v := 0) dX1_canFill_53 (by decide) ?_
      exact tRz S hr hlk hP hS (Or.inl rfl) h dX1_canFill_54
    · have h := h.2 c1
      refine lv_aload_n (pc := 22) S.1 S.2.1 dX1_canFill_22 rfl (lv_at hl 0 rfl) ?_
      refine lv_iload (pc := 23) S.1 S.2.1 dX1_canFill_23 (lv_at hl 4 rfl) ?_
      refine lv_iload_n (pc := 25) S.1 S.2.1 dX1_canFill_25 rfl (lv_at hl 3 rfl) ?_
      refine lv_iload_n (pc := 26) S.1 S.2.1 dX1_canFill_26 rfl (lv_at hl 1 rfl) ?_
      refine tGi hS (tRunV (pc := 27) (As := [.int x4, .int x3, .int x1]) (rest := []) S E hP hS (mt_X1_isWorthTrying l dC dI a ca tb _ x4 x3 x1 st _ h) (cw_X1_isWorthTrying ⟨by simp only [rmX1_canFill, rmX1_canGive]; (try simp only [rmX1_hardestOf, rmX1_isWorthTrying]); omega, by simp only [rmX1_canFill, rmX1_canGive]; (try simp only [rmX1_hardestOf, rmX1_isWorthTrying]); omega⟩) kw_127 kw_128 kw_129 40 1 rfl rfl (cC_cast a ca st) rfl hl.1 rfl (Nat.le_of_ble_eq_true rfl) dX1_canFill_27) (fun r2 st1 H locs h hP hS => ?_)
      refine lv_if_eq (pc := 30) (tgt := 47) S.1 S.2.1 dX1_canFill_30 (by decide) (fun c2 => ?_) (fun c2 => ?_)
      · have h := h.1 c2
        exact (fun x1 x2 x3 x4 st h => wk_X1_canFill_47 hcg S hr hlk E post (wp_Cast_canFill_b_15 cg post n) ih x1 x2 x3 x4 st h) x1 x2 x3 x4 st1 h _ _ _ hP hS (lv_sub hl [0, 1, 2, 3, 4] rfl)
      · have h := h.2 c2
        refine lv_aload_n (pc := 33) S.1 S.2.1 dX1_canFill_33 rfl (lv_at hl 0 rfl) ?_
        refine lv_iload_n (pc := 34) S.1 S.2.1 dX1_canFill_34 rfl (lv_at hl 3 rfl) ?_
        refine lv_iload (pc := 35) S.1 S.2.1 dX1_canFill_35 (lv_at hl 4 rfl) ?_
        refine lv_iload_n (pc := 37) S.1 S.2.1 dX1_canFill_37 rfl (lv_at hl 1 rfl) ?_
        refine lv_iload_n (pc := 38) S.1 S.2.1 dX1_canFill_38 rfl (lv_at hl 2 rfl) ?_
        refine tGi hS (tRunV (pc := 39) (As := [.int x3, .int x4, .int x1, .int x2]) (rest := []) S E hP hS (hcg _ x3 x4 x1 x2 st1 _ h) (cw_X1_canGive ⟨by simp only [rmX1_canFill, rmX1_canGive]; (try simp only [rmX1_hardestOf, rmX1_isWorthTrying]); omega, by simp only [rmX1_canFill, rmX1_canGive]; (try simp only [rmX1_hardestOf, rmX1_isWorthTrying]); omega⟩) kw_130 kw_131 kw_132 40 1 rfl rfl (cC_cast a ca st1) rfl hl.1 rfl (Nat.le_of_ble_eq_true rfl) dX1_canFill_39) (fun r4 st3 H locs h hP hS => ?_)
        refine lv_if_eq (pc := 42) (tgt := 47) S.1 S.2.1 dX1_canFill_42 (by decide) (fun c3 => ?_) (fun c3 => ?_)
        · have h := h.1 c3
          exact (fun x1 x2 x3 x4 st h => wk_X1_canFill_47 hcg S hr hlk E post (wp_Cast_canFill_b_15 cg post n) ih x1 x2 x3 x4 st h) x1 x2 x3 x4 st3 h _ _ _ hP hS (lv_sub hl [0, 1, 2, 3, 4] rfl)
        · have h := h.2 c3
          refine lv_iconst (pc := 45) S.1 S.2.1 (v := 1) dX1_canFill_45 (by decide) ?_
          exact tRz S hr hlk hP hS (Or.inr rfl) h dX1_canFill_46
set_option maxHeartbeats 4000000 in
set_option maxRecDepth 100000 in
theorem mt_X1_canFill (l : Launch) (dC : Nat → ClassId) (dI : Nat → Nat → Nat) (a : Nat → Nat) (ca : Nat → ClassId) (tb : Nat → Nat) (sz : Nat) {d : Nat} {cg : Int32 → Int32 → Int32 → Int32 → tSt → (Int32 → tSt → Prop) → Prop} (hcg : tMcg l dC dI a ca tb d cg) (x1 : Int32) (x2 : Int32) (st : tSt) (post : Int32 → tSt → Prop) (h : wp_Cast_canFill_b cg x1 x2 st post) : Met l yX1_canFill (.code yX1_canFill cX1_canFill 5 (some .boolean) :: tWALL) (rmX1_canFill (d + 1)) (va_Pc [.ref (a 40), .int x1, .int x2] (tPre 47 (cwC a ca) dC dI a ca tb sz st)) (va_Qi post (tB (cwC a ca) dC dI) (tA 47 a sz)) 0 0 (tA 47 a sz) := by
  refine tp_met (by decide) (Nat.le_of_ble_eq_true rfl) ?_
  intro p e s m below meth c ls S hr hlk hsz E hP hl
  subst hsz
  have S : CallFix p m c cX1_canFill 5 s _ (.code yX1_canFill cX1_canFill 5 (some .boolean) :: tWALL) RX1 := S
  have hl : lv_has ls 5 [(0, .ref (a 40)), (1, .int x1), (2, .int x2)] := hl
  have hS : va_S (tA 47 a s.heap.size) s.heap s.heap [] := va_S.rf
  show W p l e _ s m _ below meth c s.heap [] 0 0 (tQi (cwC a ca) 47 dC dI a ([.ref (a 40), .int x1, .int x2] : List Value).toArray below s post) (F0 m 0 ls [])
  refine lv_iload_n (pc := 0) S.1 S.2.1 dX1_canFill_0 rfl (lv_at hl 1 rfl) ?_
  refine lv_if_ne (pc := 1) (tgt := 6) S.1 S.2.1 dX1_canFill_1 (by decide) (fun c1 => ?_) (fun c1 => ?_)
  · have h := h.2 c1
    refine lv_aload_n (pc := 6) S.1 S.2.1 dX1_canFill_6 rfl (lv_at hl 0 rfl) ?_
    refine lv_iload_n (pc := 7) S.1 S.2.1 dX1_canFill_7 rfl (lv_at hl 1 rfl) ?_
    refine tGi hS (tRunV (pc := 8) (As := [.int x1]) (rest := []) S E hP hS (mt_X1_hardestOf l dC dI a ca tb _ x1 st _ h) (cw_X1_hardestOf ⟨by simp only [rmX1_canFill, rmX1_canGive]; (try simp only [rmX1_hardestOf, rmX1_isWorthTrying]); omega, by simp only [rmX1_canFill, rmX1_canGive]; (try simp only [rmX1_hardestOf, rmX1_isWorthTrying]); omega⟩) kw_133 kw_134 kw_135 40 1 rfl rfl (cC_cast a ca st) rfl hl.1 rfl (Nat.le_of_ble_eq_true rfl) dX1_canFill_8) (fun r2 st1 H locs h hP hS => ?_)
    refine lv_istore_n (pc := 11) S.1 S.2.1 (lv' := [(3, .int r2), (0, .ref (a 40)), (1, .int x1), (2, .int x2)]) dX1_canFill_11 rfl hl (by decide) rfl (fun ls hl => ?_)
    refine lv_iconst (pc := 12) S.1 S.2.1 (v := 0) dX1_canFill_12 (by decide) ?_
    refine lv_istore (pc := 13) S.1 S.2.1 (lv' := [(4, .int (0 : Int32)), (3, .int r2), (0, .ref (a 40)), (1, .int x1), (2, .int x2)]) dX1_canFill_13 hl (by decide) rfl (fun ls hl => ?_)
    exact (fun x1 x2 x3 x4 st h => Exists.elim h (fun q h => wk_X1_canFill_15 hcg S hr hlk E post  q x1 x2 x3 x4 st h)) x1 x2 r2 (0 : Int32) st1 h _ _ _ hP hS (lv_sub hl [2, 3, 4, 1, 0] rfl)
  · have h := h.1 c1
    refine lv_iconst (pc := 4) S.1 S.2.1 (v := 1) dX1_canFill_4 (by decide) ?_
    exact tRz S hr hlk hP hS (Or.inr rfl) h dX1_canFill_5

theorem tMcg_of {l : Launch} {dC : Nat → ClassId} {dI : Nat → Nat → Nat} {a : Nat → Nat} {ca : Nat → ClassId} {tb : Nat → Nat} {d : Nat} {cf : Int32 → Int32 → tSt → (Int32 → tSt → Prop) → Prop} (h : tMcf l dC dI a ca tb d cf) : tMcg l dC dI a ca tb d (wp_Cast_canGive_b cf) := fun sz x1 x2 x3 x4 st post hw => mt_X1_canGive l dC dI a ca tb sz h x1 x2 x3 x4 st post hw
theorem tMcf_all (l : Launch) (dC : Nat → ClassId) (dI : Nat → Nat → Nat) (a : Nat → Nat) (ca : Nat → ClassId) (tb : Nat → Nat) : ∀ d : Nat, tMcf l dC dI a ca tb d (wp_Cast_canFill d)
  | 0 => fun _ _ _ _ _ hw => absurd hw id
  | d + 1 => fun sz x1 x2 st post hw => mt_X1_canFill l dC dI a ca tb sz (tMcg_of (tMcf_all l dC dI a ca tb d)) x1 x2 st post hw
theorem mtd_X1_canFill (l : Launch) (dC : Nat → ClassId) (dI : Nat → Nat → Nat) (a : Nat → Nat) (ca : Nat → ClassId) (tb : Nat → Nat) (d sz : Nat) (x1 x2 : Int32) (st : tSt) (post : Int32 → tSt → Prop) (h : wp_Cast_canFill d x1 x2 st post) : Met l yX1_canFill (.code yX1_canFill cX1_canFill 5 (some .boolean) :: tWALL) (rmX1_canFill d) (va_Pc [.ref (a 40), .int x1, .int x2] (tPre 47 (cwC a ca) dC dI a ca tb sz st)) (va_Qi post (tB (cwC a ca) dC dI) (tA 47 a sz)) 0 0 (tA 47 a sz) := tMcf_all l dC dI a ca tb d sz x1 x2 st post h
theorem mtd_X1_canGive (l : Launch) (dC : Nat → ClassId) (dI : Nat → Nat → Nat) (a : Nat → Nat) (ca : Nat → ClassId) (tb : Nat → Nat) (d sz : Nat) (x1 x2 x3 x4 : Int32) (st : tSt) (post : Int32 → tSt → Prop) (h : wp_Cast_canGive d x1 x2 x3 x4 st post) : Met l yX1_canGive (.code yX1_canGive cX1_canGive 7 (some .boolean) :: tWALL) (rmX1_canGive d) (va_Pc [.ref (a 40), .int x1, .int x2, .int x3, .int x4] (tPre 47 (cwC a ca) dC dI a ca tb sz st)) (va_Qi post (tB (cwC a ca) dC dI) (tA 47 a sz)) 0 0 (tA 47 a sz) := tMcg_of (tMcf_all l dC dI a ca tb d) sz x1 x2 x3 x4 st post h

abbrev rmX1_admit : Room := { frames := 30, cells := 0, slots := 0, locals := 874 }
theorem cw_X1_admit {R : Room} {own : String} {index : Nat} (h : rmX1_admit.frames + 1 ≤ R.frames ∧ 8 + (7 + 11) + rmX1_admit.locals ≤ R.locals) : tCw R own index yX1_admit cX1_admit 7 (some .boolean) rmX1_admit 4 := ⟨kw_154, kw_90, ⟨rfl, rfl, h.1, h.2⟩, by decide +kernel, by decide +kernel, by decide +kernel⟩
set_option maxHeartbeats 4000000 in
set_option maxRecDepth 100000 in
theorem wk_X1_admit_97 {p : Program} {l : Launch} {e : Env} {s : State} {m : MethodId} {args : Array Value} {below : List Frame} {meth : Method} {c : Code} {dC : Nat → ClassId} {dI : Nat → Nat → Nat} {a : Nat → Nat} {ca : Nat → ClassId} {tb : Nat → Nat} {w0 : Cond} (S : CallFix p m c cX1_admit 7 s args (w0 :: tWALL) RX1) (hr : meth.sig.returnType = (some .boolean)) (hlk : meth.locks = false) (E : tEnv 47 dC dI a ca tb s) (post : Int32 → tSt → Prop) : ∀ (n : Nat) (x6 : Int32) (st : tSt), wp_Cast_admit_97 post n x6 st → tAt p l e rmX1_admit s m args below meth c (dC, dI) (cwC a ca) (tA 47 a s.heap.size) (tQi (cwC a ca) 47 dC dI a args below s post) 7 97 [(0, .ref (a 40)), (6, .int x6)] [] st := by
  intro n
  induction n with
  | zero => intro x6 st h; exact absurd h id
  | succ n ih =>
    intro x6 st h H locs ls hP hS hl
    refine lv_iload (pc := 97) S.1 S.2.1 dX1_admit_97 (lv_at hl 1 rfl) ?_
    refine lv_bipush (pc := 99) S.1 S.2.1 (v := 6) dX1_admit_99 (by decide) ?_
    refine lv_icmp_ge (pc := 101) (tgt := 124) S.1 S.2.1 dX1_admit_101 (by decide) (fun c1 => ?_) (fun c1 => ?_)
    · have h := h.1 c1
      refine lv_iconst (pc := 124) S.1 S.2.1 (v := 0) dX1_admit_124 (by decide) ?_
      exact tRz S hr hlk hP hS (Or.inl rfl) h dX1_admit_125
    · have h := h.2 c1
      refine lv_aload_n (pc := 104) S.1 S.2.1 dX1_admit_104 rfl (lv_at hl 0 rfl) ?_
      refine tp_get (pc := 105) S E.1 hP iwX1 40 (cC_cast a ca st) rfl 0 (by decide) kw_87 (v := .ref (a 43)) rfl dX1_admit_105 ?_
      refine lv_iload (pc := 108) S.1 S.2.1 dX1_admit_108 (lv_at hl 1 rfl) ?_
      refine lv_dup2_11 (pc := 110) S.1 S.2.1 dX1_admit_110 rfl rfl ?_
      obtain ⟨hn2, h⟩ := h
      refine tp_iald (pc := 111) S E.1 hP 43 0 (cC_openTo a ca st) rfl (j := x6.toNatClampNeg) rfl hn2 dX1_admit_111 ?_
      refine lv_aload_n (pc := 112) S.1 S.2.1 dX1_admit_112 rfl (lv_at hl 0 rfl) ?_
      refine tGi hS (tRunV (pc := 113) (As := []) (rest := [.int (st 31 x6.toNatClampNeg), .int x6, .ref (a 43)]) S E hP hS (mt_X1_allParts l dC dI a ca tb _  st _ h) (cw_X1_allParts ⟨Nat.le_of_ble_eq_true rfl, Nat.le_of_ble_eq_true rfl⟩) kw_136 kw_137 kw_138 40 1 rfl rfl (cC_cast a ca st) rfl hl.1 rfl (Nat.le_of_ble_eq_true rfl) dX1_admit_113) (fun r2 st1 H locs h hP hS => ?_)
      refine lv_iand (pc := 116) S.1 S.2.1 dX1_admit_116 ?_
      obtain ⟨hn3, h⟩ := h
      refine tp_iast (pc := 117) S E.1 hP (cC_D E st1) hS 43 0 (cC_openTo a ca st1) rfl (j := x6.toNatClampNeg) rfl hn3 (sC_openTo a ca st1 _ _) dX1_admit_117 (fun st3 H locs e4 hP hS => ?_)
      have h := h st3 e4
      obtain ⟨y6_4, e5⟩ : ∃ y : Int32, y = x6 + 1 := ⟨_, rfl⟩
      have h := h y6_4 e5
      refine lv_iinc (pc := 118) S.1 S.2.1 (v := y6_4) (lv' := [(6, .int y6_4), (0, .ref (a 40))]) dX1_admit_118 hl (k := 1) rfl (by rw [e5]; rfl) (by decide) rfl (fun ls hl => ?_)
      refine lv_goto (pc := 121) S.1 S.2.1 (tgt := 97) dX1_admit_121 (by decide) ?_
      exact ih y6_4 st3 h _ _ _ hP hS (lv_sub hl [1, 0] rfl)
set_option maxHeartbeats 4000000 in
set_option maxRecDepth 100000 in
theorem wk_X1_admit_68 {p : Program} {l : Launch} {e : Env} {s : State} {m : MethodId} {args : Array Value} {below : List Frame} {meth : Method} {c : Code} {dC : Nat → ClassId} {dI : Nat → Nat → Nat} {a : Nat → Nat} {ca : Nat → ClassId} {tb : Nat → Nat} {w0 : Cond} (S : CallFix p m c cX1_admit 7 s args (w0 :: tWALL) RX1) (hr : meth.sig.returnType = (some .boolean)) (hlk : meth.locks = false) (E : tEnv 47 dC dI a ca tb s) (post : Int32 → tSt → Prop) : ∀ (x5 : Int32) (st : tSt), wp_Cast_admit_68 post x5 st → tAt p l e rmX1_admit s m args below meth c (dC, dI) (cwC a ca) (tA 47 a s.heap.size) (tQi (cwC a ca) 47 dC dI a args below s post) 7 68 [(0, .ref (a 40)), (5, .int x5)] [] st := by
  intro x5 st h H locs ls hP hS hl
  refine lv_aload_n (pc := 68) S.1 S.2.1 dX1_admit_68 rfl (lv_at hl 0 rfl) ?_
  refine lv_aload_n (pc := 69) S.1 S.2.1 dX1_admit_69 rfl (lv_at hl 0 rfl) ?_
  refine lv_iload (pc := 70) S.1 S.2.1 dX1_admit_70 (lv_at hl 1 rfl) ?_
  refine lv_aload_n (pc := 72) S.1 S.2.1 dX1_admit_72 rfl (lv_at hl 0 rfl) ?_
  refine tGi hS (tRunV (pc := 73) (As := []) (rest := [.int x5, .ref (a 40), .ref (a 40)]) S E hP hS (mt_X1_allParts l dC dI a ca tb _  st _ h) (cw_X1_allParts ⟨Nat.le_of_ble_eq_true rfl, Nat.le_of_ble_eq_true rfl⟩) kw_136 kw_137 kw_138 40 1 rfl rfl (cC_cast a ca st) rfl hl.1 rfl (Nat.le_of_ble_eq_true rfl) dX1_admit_73) (fun r2 st1 H locs h hP hS => ?_)
  refine tGi hS (tRunV (pc := 76) (As := [.int x5, .int r2]) (rest := [.ref (a 40)]) S E hP hS (mt_X1_tiedTo l dC dI a ca tb _ x5 r2 st1 _ h) (cw_X1_tiedTo ⟨Nat.le_of_ble_eq_true rfl, Nat.le_of_ble_eq_true rfl⟩) kw_139 kw_140 kw_141 40 1 rfl rfl (cC_cast a ca st1) rfl hl.1 rfl (Nat.le_of_ble_eq_true rfl) dX1_admit_76) (fun r4 st3 H locs h hP hS => ?_)
  refine lv_iconst (pc := 79) S.1 S.2.1 (v := 0) dX1_admit_79 (by decide) ?_
  refine tGi hS (tRunV (pc := 80) (As := [.int r4, .int (0 : Int32)]) (rest := []) S E hP hS (mtd_X1_canFill l dC dI a ca tb 13 _ r4 (0 : Int32) st3 _ h) (cw_X1_canFill ⟨Nat.le_of_ble_eq_true rfl, Nat.le_of_ble_eq_true rfl⟩) kw_122 kw_123 kw_124 40 1 rfl rfl (cC_cast a ca st3) rfl hl.1 rfl (Nat.le_of_ble_eq_true rfl) dX1_admit_80) (fun r6 st5 H locs h hP hS => ?_)
  refine lv_if_eq (pc := 83) (tgt := 88) S.1 S.2.1 dX1_admit_83 (by decide) (fun c1 => ?_) (fun c1 => ?_)
  · have h := h.1 c1
    refine lv_aload_n (pc := 88) S.1 S.2.1 dX1_admit_88 rfl (lv_at hl 0 rfl) ?_
    refine lv_iload (pc := 89) S.1 S.2.1 dX1_admit_89 (lv_at hl 1 rfl) ?_
    refine tp_put (pc := 91) S E.1 hP (cC_D E st5) hS iwX1 tyX1 tyX1_ok nmX1 40 (cC_cast a ca st5) rfl 4 (by decide) kw_86 rfl (v := .int x5) (tyX1_ok 4 (by decide)) rfl rfl (Nat.le_of_ble_eq_true rfl) (sC_cast_partCount a ca st5 _) dX1_admit_91 (fun st7 H locs e2 hP hS => ?_)
    have h := h st7 e2
    refine lv_iconst (pc := 94) S.1 S.2.1 (v := 0) dX1_admit_94 (by decide) ?_
    refine lv_istore (pc := 95) S.1 S.2.1 (lv' := [(6, .int (0 : Int32)), (0, .ref (a 40)), (5, .int x5)]) dX1_admit_95 hl (by decide) rfl (fun ls hl => ?_)
    exact (fun x6 st h => Exists.elim h (fun q h => wk_X1_admit_97 S hr hlk E post  q x6 st h)) (0 : Int32) st7 h _ _ _ hP hS (lv_sub hl [1, 0] rfl)
  · have h := h.2 c1
    refine lv_iconst (pc := 86) S.1 S.2.1 (v := 1) dX1_admit_86 (by decide) ?_
    exact tRz S hr hlk hP hS (Or.inr rfl) h dX1_admit_87
set_option maxHeartbeats 4000000 in
set_option maxRecDepth 100000 in
theorem wk_X1_admit_9 {p : Program} {l : Launch} {e : Env} {s : State} {m : MethodId} {args : Array Value} {below : List Frame} {meth : Method} {c : Code} {dC : Nat → ClassId} {dI : Nat → Nat → Nat} {a : Nat → Nat} {ca : Nat → ClassId} {tb : Nat → Nat} {w0 : Cond} (S : CallFix p m c cX1_admit 7 s args (w0 :: tWALL) RX1) (hr : meth.sig.returnType = (some .boolean)) (hlk : meth.locks = false) (E : tEnv 47 dC dI a ca tb s) (post : Int32 → tSt → Prop) (k68 : Int32 → tSt → Prop) (hk68 : ∀ (x5 : Int32) (st : tSt), k68 x5 st → tAt p l e rmX1_admit s m args below meth c (dC, dI) (cwC a ca) (tA 47 a s.heap.size) (tQi (cwC a ca) 47 dC dI a args below s post) 7 68 [(0, .ref (a 40)), (5, .int x5)] [] st) : ∀ (n : Nat) (x2 : Int32) (x4 : Int32) (x5 : Int32) (x6 : Int32) (st : tSt), wp_Cast_admit_9 post k68 n x2 x4 x5 x6 st → tAt p l e rmX1_admit s m args below meth c (dC, dI) (cwC a ca) (tA 47 a s.heap.size) (tQi (cwC a ca) 47 dC dI a args below s post) 7 9 [(0, .ref (a 40)), (1, .ref (a 13)), (2, .int x2), (3, .ref (a 6)), (4, .int x4), (5, .int x5), (6, .int x6)] [] st := by
  intro n
  induction n with
  | zero => intro x2 x4 x5 x6 st h; exact absurd h id
  | succ n ih =>
    intro x2 x4 x5 x6 st h H locs ls hP hS hl
    refine lv_iload (pc := 9) S.1 S.2.1 dX1_admit_9 (lv_at hl 6 rfl) ?_
    refine lv_aload_n (pc := 11) S.1 S.2.1 dX1_admit_11 rfl (lv_at hl 1 rfl) ?_
    refine lv_iload_n (pc := 12) S.1 S.2.1 dX1_admit_12 rfl (lv_at hl 2 rfl) ?_
    obtain ⟨hn1, h⟩ := h
    refine tp_aald (pc := 13) S E.1 hP 13 2 (cC_callsA a ca st) rfl (j := x2.toNatClampNeg) (d := a (14 + x2.toNatClampNeg)) rfl rfl hn1 dX1_admit_13 ?_
    have hj2 := t_lt hn1
    refine tGi hS (tRunV (pc := 14) (As := []) (rest := [.int x6]) S E hP hS (mt_X0_partCount l dC dI a ca tb _ hj2 st _ h) (cw_X0_partCount ⟨Nat.le_of_ble_eq_true rfl, Nat.le_of_ble_eq_true rfl⟩) kw_142 kw_143 kw_144 (14 + x2.toNatClampNeg) 0 rfl rfl (cC_call a ca st hj2) rfl hl.1 rfl (Nat.le_of_ble_eq_true rfl) dX1_admit_14) (fun r2 st1 H locs h hP hS => ?_)
    refine lv_icmp_ge (pc := 17) (tgt := 68) S.1 S.2.1 dX1_admit_17 (by decide) (fun c3 => ?_) (fun c3 => ?_)
    · have h := h.1 c3
      exact hk68 x5 st1 h _ _ _ hP hS (lv_sub hl [0, 5] rfl)
    · have h := h.2 c3
      refine lv_aload_n (pc := 20) S.1 S.2.1 dX1_admit_20 rfl (lv_at hl 0 rfl) ?_
      refine tp_get (pc := 21) S E.1 hP iwX1 40 (cC_cast a ca st1) rfl 4 (by decide) kw_86 (v := .int (st1 27 0)) rfl dX1_admit_21 ?_
      refine lv_bipush (pc := 24) S.1 S.2.1 (v := 12) dX1_admit_24 (by decide) ?_
      refine lv_icmp_ge (pc := 26) (tgt := 68) S.1 S.2.1 dX1_admit_26 (by decide) (fun c4 => ?_) (fun c4 => ?_)
      · have h := h.1 c4
        exact hk68 x5 st1 h _ _ _ hP hS (lv_sub hl [0, 5] rfl)
      · have h := h.2 c4
        refine lv_aload_n (pc := 29) S.1 S.2.1 dX1_admit_29 rfl (lv_at hl 0 rfl) ?_
        refine lv_aload_n (pc := 30) S.1 S.2.1 dX1_admit_30 rfl (lv_at hl 3 rfl) ?_
        refine lv_aload_n (pc := 31) S.1 S.2.1 dX1_admit_31 rfl (lv_at hl 1 rfl) ?_
        refine lv_iload_n (pc := 32) S.1 S.2.1 dX1_admit_32 rfl (lv_at hl 2 rfl) ?_
        obtain ⟨hn5, h⟩ := h
        refine tp_aald (pc := 33) S E.1 hP 13 2 (cC_callsA a ca st1) rfl (j := x2.toNatClampNeg) (d := a (14 + x2.toNatClampNeg)) rfl rfl hn5 dX1_admit_33 ?_
        refine lv_iconst (pc := 34) S.1 S.2.1 (v := 5) dX1_admit_34 (by decide) ?_
        refine lv_iload (pc := 35) S.1 S.2.1 dX1_admit_35 (lv_at hl 6 rfl) ?_
        refine lv_iadd (pc := 37) S.1 S.2.1 dX1_admit_37 ?_
        refine tGi hS (tRunV (pc := 38) (As := [.int ((5 : Int32) + x6)]) (rest := [.ref (a 6), .ref (a 40)]) S E hP hS (mt_X0_fact l dC dI a ca tb _ hj2 ((5 : Int32) + x6) st1 _ h) (cw_X0_fact ⟨Nat.le_of_ble_eq_true rfl, Nat.le_of_ble_eq_true rfl⟩) kw_145 kw_146 kw_147 (14 + x2.toNatClampNeg) 0 rfl rfl (cC_call a ca st1 hj2) rfl hl.1 rfl (Nat.le_of_ble_eq_true rfl) dX1_admit_38) (fun r4 st3 H locs h hP hS => ?_)
        refine tGv hS (tRunV (pc := 41) (As := [.ref (a 6), .int r4]) (rest := []) S E hP hS (mt_X1_markTakers l dC dI a ca tb _ r4 st3 _ h) (cw_X1_markTakers ⟨Nat.le_of_ble_eq_true rfl, Nat.le_of_ble_eq_true rfl⟩) kw_148 kw_149 kw_150 40 1 rfl rfl (cC_cast a ca st3) rfl hl.1 rfl (Nat.le_of_ble_eq_true rfl) dX1_admit_41) (fun st5 H locs h hP hS => ?_)
        refine lv_aload_n (pc := 44) S.1 S.2.1 dX1_admit_44 rfl (lv_at hl 0 rfl) ?_
        refine lv_aload_n (pc := 45) S.1 S.2.1 dX1_admit_45 rfl (lv_at hl 1 rfl) ?_
        refine lv_iload_n (pc := 46) S.1 S.2.1 dX1_admit_46 rfl (lv_at hl 2 rfl) ?_
        refine lv_iload (pc := 47) S.1 S.2.1 dX1_admit_47 (lv_at hl 4 rfl) ?_
        refine tGv hS (tRunV (pc := 49) (As := [.ref (a 13), .int x2, .int x4]) (rest := []) S E hP hS (mt_X1_markBars l dC dI a ca tb _ x2 x4 st5 _ h) (cw_X1_markBars ⟨Nat.le_of_ble_eq_true rfl, Nat.le_of_ble_eq_true rfl⟩) kw_151 kw_152 kw_153 40 1 rfl rfl (cC_cast a ca st5) rfl hl.1 rfl (Nat.le_of_ble_eq_true rfl) dX1_admit_49) (fun st6 H locs h hP hS => ?_)
        refine lv_aload_n (pc := 52) S.1 S.2.1 dX1_admit_52 rfl (lv_at hl 0 rfl) ?_
        refine lv_dup (pc := 53) S.1 S.2.1 dX1_admit_53 rfl ?_
        refine tp_get (pc := 54) S E.1 hP iwX1 40 (cC_cast a ca st6) rfl 4 (by decide) kw_86 (v := .int (st6 27 0)) rfl dX1_admit_54 ?_
        refine lv_iconst (pc := 57) S.1 S.2.1 (v := 1) dX1_admit_57 (by decide) ?_
        refine lv_iadd (pc := 58) S.1 S.2.1 dX1_admit_58 ?_
        refine tp_put (pc := 59) S E.1 hP (cC_D E st6) hS iwX1 tyX1 tyX1_ok nmX1 40 (cC_cast a ca st6) rfl 4 (by decide) kw_86 rfl (v := .int ((st6 27 0) + (1 : Int32))) (tyX1_ok 4 (by decide)) rfl rfl (Nat.le_of_ble_eq_true rfl) (sC_cast_partCount a ca st6 _) dX1_admit_59 (fun st7 H locs e6 hP hS => ?_)
        have h := h st7 e6
        obtain ⟨y6_8, e7⟩ : ∃ y : Int32, y = x6 + 1 := ⟨_, rfl⟩
        have h := h y6_8 e7
        refine lv_iinc (pc := 62) S.1 S.2.1 (v := y6_8) (lv' := [(6, .int y6_8), (0, .ref (a 40)), (1, .ref (a 13)), (2, .int x2), (3, .ref (a 6)), (4, .int x4), (5, .int x5)]) dX1_admit_62 hl (k := 6) rfl (by rw [e7]; rfl) (by decide) rfl (fun ls hl => ?_)
        refine lv_goto (pc := 65) S.1 S.2.1 (tgt := 9) dX1_admit_65 (by decide) ?_
        exact ih x2 x4 x5 y6_8 st7 h _ _ _ hP hS (lv_sub hl [1, 2, 3, 4, 5, 6, 0] rfl)
set_option maxHeartbeats 4000000 in
set_option maxRecDepth 100000 in
theorem mt_X1_admit (l : Launch) (dC : Nat → ClassId) (dI : Nat → Nat → Nat) (a : Nat → Nat) (ca : Nat → ClassId) (tb : Nat → Nat) (sz : Nat) (x2 : Int32) (x4 : Int32) (st : tSt) (post : Int32 → tSt → Prop) (h : wp_Cast_admit x2 x4 st post) : Met l yX1_admit (.code yX1_admit cX1_admit 7 (some .boolean) :: tWALL) rmX1_admit (va_Pc [.ref (a 40), .ref (a 13), .int x2, .ref (a 6), .int x4] (tPre 47 (cwC a ca) dC dI a ca tb sz st)) (va_Qi post (tB (cwC a ca) dC dI) (tA 47 a sz)) 0 0 (tA 47 a sz) := by
  refine tp_met (by decide) (Nat.le_of_ble_eq_true rfl) ?_
  intro p e s m below meth c ls S hr hlk hsz E hP hl
  subst hsz
  have S : CallFix p m c cX1_admit 7 s _ (.code yX1_admit cX1_admit 7 (some .boolean) :: tWALL) RX1 := S
  have hl : lv_has ls 7 [(0, .ref (a 40)), (1, .ref (a 13)), (2, .int x2), (3, .ref (a 6)), (4, .int x4)] := hl
  have hS : va_S (tA 47 a s.heap.size) s.heap s.heap [] := va_S.rf
  show W p l e _ s m _ below meth c s.heap [] 0 0 (tQi (cwC a ca) 47 dC dI a ([.ref (a 40), .ref (a 13), .int x2, .ref (a 6), .int x4] : List Value).toArray below s post) (F0 m 0 ls [])
  refine lv_aload_n (pc := 0) S.1 S.2.1 dX1_admit_0 rfl (lv_at hl 0 rfl) ?_
  refine tp_get (pc := 1) S E.1 hP iwX1 40 (cC_cast a ca st) rfl 4 (by decide) kw_86 (v := .int (st 27 0)) rfl dX1_admit_1 ?_
  refine lv_topi (fun y5_1 e1 => ?_)
  have h := h y5_1 e1
  refine lv_istore (pc := 4) S.1 S.2.1 (lv' := [(5, .int y5_1), (0, .ref (a 40)), (1, .ref (a 13)), (2, .int x2), (3, .ref (a 6)), (4, .int x4)]) dX1_admit_4 hl (by decide) rfl (fun ls hl => ?_)
  refine lv_iconst (pc := 6) S.1 S.2.1 (v := 0) dX1_admit_6 (by decide) ?_
  refine lv_istore (pc := 7) S.1 S.2.1 (lv' := [(6, .int (0 : Int32)), (5, .int y5_1), (0, .ref (a 40)), (1, .ref (a 13)), (2, .int x2), (3, .ref (a 6)), (4, .int x4)]) dX1_admit_7 hl (by decide) rfl (fun ls hl => ?_)
  exact (fun x2 x4 x5 x6 st h => Exists.elim h (fun q h => wk_X1_admit_9 S hr hlk E post (wp_Cast_admit_68 post) (fun x5 st h => wk_X1_admit_68 S hr hlk E post  x5 st h) q x2 x4 x5 x6 st h)) x2 x4 y5_1 (0 : Int32) st h _ _ _ hP hS (lv_sub hl [2, 3, 4, 5, 6, 1, 0] rfl)

abbrev rmX1_close : Room := { frames := 1, cells := 0, slots := 0, locals := 22 }
theorem cw_X1_close {R : Room} {own : String} {index : Nat} (h : rmX1_close.frames + 1 ≤ R.frames ∧ 8 + (3 + 11) + rmX1_close.locals ≤ R.locals) : tCw R own index yX1_close cX1_close 3 none rmX1_close 2 := ⟨kw_155, kw_90, ⟨rfl, rfl, h.1, h.2⟩, by decide +kernel, by decide +kernel, by decide +kernel⟩

set_option maxHeartbeats 4000000 in
set_option maxRecDepth 100000 in
theorem mt_X1_close (l : Launch) (dC : Nat → ClassId) (dI : Nat → Nat → Nat) (a : Nat → Nat) (ca : Nat → ClassId) (tb : Nat → Nat) (sz : Nat) (x1 : Int32) (x2 : Int32) (st : tSt) (post : tSt → Prop) (h : wp_Cast_close x1 x2 st post) : Met l yX1_close (.code yX1_close cX1_close 3 none :: tWALL) rmX1_close (va_Pc [.ref (a 40), .int x1, .int x2] (tPre 47 (cwC a ca) dC dI a ca tb sz st)) (va_Qv post (tB (cwC a ca) dC dI) (tA 47 a sz)) 0 0 (tA 47 a sz) := by
  refine tp_met (by decide) (Nat.le_of_ble_eq_true rfl) ?_
  intro p e s m below meth c ls S hr hlk hsz E hP hl
  subst hsz
  have S : CallFix p m c cX1_close 3 s _ (.code yX1_close cX1_close 3 none :: tWALL) RX1 := S
  have hl : lv_has ls 3 [(0, .ref (a 40)), (1, .int x1), (2, .int x2)] := hl
  have hS : va_S (tA 47 a s.heap.size) s.heap s.heap [] := va_S.rf
  show W p l e _ s m _ below meth c s.heap [] 0 0 (tQv (cwC a ca) 47 dC dI a ([.ref (a 40), .int x1, .int x2] : List Value).toArray below s post) (F0 m 0 ls [])
  refine lv_iload_n (pc := 0) S.1 S.2.1 dX1_close_0 rfl (lv_at hl 1 rfl) ?_
  refine lv_iconst (pc := 1) S.1 S.2.1 (v := 0) dX1_close_1 (by decide) ?_
  refine lv_iconst (pc := 2) S.1 S.2.1 (v := 5) dX1_close_2 (by decide) ?_
  refine tGi hS (tRunSN (pc := 3) (As := [.int x1, .int (0 : Int32), .int (5 : Int32)]) (rest := []) S E hP hS (mt_X7_within l dC dI a ca tb _ x1 (0 : Int32) (5 : Int32) st _ h) (cw_X7_within ⟨Nat.le_of_ble_eq_true rfl, Nat.le_of_ble_eq_true rfl⟩) kw_101 kw_8 rfl hl.1 rfl (Nat.le_of_ble_eq_true rfl) dX1_close_3) (fun r2 st1 H locs h hP hS => ?_)
  refine lv_if_eq (pc := 6) (tgt := 21) S.1 S.2.1 dX1_close_6 (by decide) (fun c1 => ?_) (fun c1 => ?_)
  · have h := h.1 c1
    exact tRv S hr hlk hP hS h dX1_close_21
  · have h := h.2 c1
    refine lv_aload_n (pc := 9) S.1 S.2.1 dX1_close_9 rfl (lv_at hl 0 rfl) ?_
    refine tp_get (pc := 10) S E.1 hP iwX1 40 (cC_cast a ca st1) rfl 0 (by decide) kw_87 (v := .ref (a 43)) rfl dX1_close_10 ?_
    refine lv_iload_n (pc := 13) S.1 S.2.1 dX1_close_13 rfl (lv_at hl 1 rfl) ?_
    refine lv_dup2_11 (pc := 14) S.1 S.2.1 dX1_close_14 rfl rfl ?_
    obtain ⟨hn2, h⟩ := h
    refine tp_iald (pc := 15) S E.1 hP 43 0 (cC_openTo a ca st1) rfl (j := x1.toNatClampNeg) rfl hn2 dX1_close_15 ?_
    refine lv_iload_n (pc := 16) S.1 S.2.1 dX1_close_16 rfl (lv_at hl 2 rfl) ?_
    refine lv_iconst (pc := 17) S.1 S.2.1 (v := (-1)) dX1_close_17 (by decide) ?_
    refine lv_ixor (pc := 18) S.1 S.2.1 dX1_close_18 ?_
    refine lv_iand (pc := 19) S.1 S.2.1 dX1_close_19 ?_
    obtain ⟨hn3, h⟩ := h
    refine tp_iast (pc := 20) S E.1 hP (cC_D E st1) hS 43 0 (cC_openTo a ca st1) rfl (j := x1.toNatClampNeg) rfl hn3 (sC_openTo a ca st1 _ _) dX1_close_20 (fun st3 H locs e4 hP hS => ?_)
    have h := h st3 e4
    exact tRv S hr hlk hP hS h dX1_close_21

abbrev rmX1_lowerAll : Room := { frames := 31, cells := 0, slots := 0, locals := 900 }
theorem cw_X1_lowerAll {R : Room} {own : String} {index : Nat} (h : rmX1_lowerAll.frames + 1 ≤ R.frames ∧ 8 + (7 + 11) + rmX1_lowerAll.locals ≤ R.locals) : tCw R own index yX1_lowerAll cX1_lowerAll 7 none rmX1_lowerAll 0 := ⟨kw_159, kw_90, ⟨rfl, rfl, h.1, h.2⟩, by decide +kernel, by decide +kernel, by decide +kernel⟩
set_option maxHeartbeats 4000000 in
set_option maxRecDepth 100000 in
theorem wk_X1_lowerAll_83 {p : Program} {l : Launch} {e : Env} {s : State} {m : MethodId} {args : Array Value} {below : List Frame} {meth : Method} {c : Code} {dC : Nat → ClassId} {dI : Nat → Nat → Nat} {a : Nat → Nat} {ca : Nat → ClassId} {tb : Nat → Nat} {w0 : Cond} (S : CallFix p m c cX1_lowerAll 7 s args (w0 :: tWALL) RX1) (hr : meth.sig.returnType = none) (hlk : meth.locks = false) (E : tEnv 47 dC dI a ca tb s) (post : tSt → Prop) (k36 : Int32 → Int32 → Int32 → Int32 → Int32 → Int32 → tSt → Prop) (hk36 : ∀ (x1 : Int32) (x2 : Int32) (x3 : Int32) (x4 : Int32) (x5 : Int32) (x6 : Int32) (st : tSt), k36 x1 x2 x3 x4 x5 x6 st → tAt p l e rmX1_lowerAll s m args below meth c (dC, dI) (cwC a ca) (tA 47 a s.heap.size) (tQv (cwC a ca) 47 dC dI a args below s post) 7 36 [(0, .ref (a 40)), (1, .int x1), (2, .int x2), (3, .int x3), (4, .int x4), (5, .int x5), (6, .int x6)] [] st) (k91 : Int32 → Int32 → tSt → Prop) (hk91 : ∀ (x1 : Int32) (x2 : Int32) (st : tSt), k91 x1 x2 st → tAt p l e rmX1_lowerAll s m args below meth c (dC, dI) (cwC a ca) (tA 47 a s.heap.size) (tQv (cwC a ca) 47 dC dI a args below s post) 7 91 [(0, .ref (a 40)), (1, .int x1), (2, .int x2)] [] st) : ∀ (x1 : Int32) (x2 : Int32) (x3 : Int32) (x4 : Int32) (x6 : Int32) (s0 : Int32) (st : tSt), wp_Cast_lowerAll_83 post k36 k91 x1 x2 x3 x4 x6 s0 st → tAt p l e rmX1_lowerAll s m args below meth c (dC, dI) (cwC a ca) (tA 47 a s.heap.size) (tQv (cwC a ca) 47 dC dI a args below s post) 7 83 [(0, .ref (a 40)), (1, .int x1), (2, .int x2), (3, .int x3), (4, .int x4), (6, .int x6)] [.int s0] st := by
  intro x1 x2 x3 x4 x6 s0 st h H locs ls hP hS hl
  refine lv_istore (pc := 83) S.1 S.2.1 (lv' := [(5, .int s0), (0, .ref (a 40)), (1, .int x1), (2, .int x2), (3, .int x3), (4, .int x4), (6, .int x6)]) dX1_lowerAll_83 hl (by decide) rfl (fun ls hl => ?_)
  obtain ⟨y6_1, e1⟩ : ∃ y : Int32, y = x6 + 1 := ⟨_, rfl⟩
  have h := h y6_1 e1
  refine lv_iinc (pc := 85) S.1 S.2.1 (v := y6_1) (lv' := [(6, .int y6_1), (5, .int s0), (0, .ref (a 40)), (1, .int x1), (2, .int x2), (3, .int x3), (4, .int x4)]) dX1_lowerAll_85 hl (k := 6) rfl (by rw [e1]; rfl) (by decide) rfl (fun ls hl => ?_)
  refine lv_goto (pc := 88) S.1 S.2.1 (tgt := 36) dX1_lowerAll_88 (by decide) ?_
  exact hk36 x1 x2 x3 x4 s0 y6_1 st h _ _ _ hP hS (lv_sub hl [2, 3, 4, 5, 6, 1, 0] rfl)
set_option maxHeartbeats 4000000 in
set_option maxRecDepth 100000 in
theorem wk_X1_lowerAll_82 {p : Program} {l : Launch} {e : Env} {s : State} {m : MethodId} {args : Array Value} {below : List Frame} {meth : Method} {c : Code} {dC : Nat → ClassId} {dI : Nat → Nat → Nat} {a : Nat → Nat} {ca : Nat → ClassId} {tb : Nat → Nat} {w0 : Cond} (S : CallFix p m c cX1_lowerAll 7 s args (w0 :: tWALL) RX1) (hr : meth.sig.returnType = none) (hlk : meth.locks = false) (E : tEnv 47 dC dI a ca tb s) (post : tSt → Prop) (k36 : Int32 → Int32 → Int32 → Int32 → Int32 → Int32 → tSt → Prop) (hk36 : ∀ (x1 : Int32) (x2 : Int32) (x3 : Int32) (x4 : Int32) (x5 : Int32) (x6 : Int32) (st : tSt), k36 x1 x2 x3 x4 x5 x6 st → tAt p l e rmX1_lowerAll s m args below meth c (dC, dI) (cwC a ca) (tA 47 a s.heap.size) (tQv (cwC a ca) 47 dC dI a args below s post) 7 36 [(0, .ref (a 40)), (1, .int x1), (2, .int x2), (3, .int x3), (4, .int x4), (5, .int x5), (6, .int x6)] [] st) (k91 : Int32 → Int32 → tSt → Prop) (hk91 : ∀ (x1 : Int32) (x2 : Int32) (st : tSt), k91 x1 x2 st → tAt p l e rmX1_lowerAll s m args below meth c (dC, dI) (cwC a ca) (tA 47 a s.heap.size) (tQv (cwC a ca) 47 dC dI a args below s post) 7 91 [(0, .ref (a 40)), (1, .int x1), (2, .int x2)] [] st) : ∀ (x1 : Int32) (x2 : Int32) (x3 : Int32) (x4 : Int32) (x6 : Int32) (st : tSt), wp_Cast_lowerAll_82 post k36 k91 x1 x2 x3 x4 x6 st → tAt p l e rmX1_lowerAll s m args below meth c (dC, dI) (cwC a ca) (tA 47 a s.heap.size) (tQv (cwC a ca) 47 dC dI a args below s post) 7 82 [(0, .ref (a 40)), (1, .int x1), (2, .int x2), (3, .int x3), (4, .int x4), (6, .int x6)] [] st := by
  intro x1 x2 x3 x4 x6 st h H locs ls hP hS hl
  refine lv_iconst (pc := 82) S.1 S.2.1 (v := 0) dX1_lowerAll_82 (by decide) ?_
  exact (fun x1 x2 x3 x4 x6 s0 st h => wk_X1_lowerAll_83 S hr hlk E post k36 hk36 k91 hk91 x1 x2 x3 x4 x6 s0 st h) x1 x2 x3 x4 x6 (0 : Int32) st h _ _ _ hP hS (lv_sub hl [0, 1, 2, 3, 4, 5] rfl)
set_option maxHeartbeats 4000000 in
set_option maxRecDepth 100000 in
theorem wk_X1_lowerAll_91 {p : Program} {l : Launch} {e : Env} {s : State} {m : MethodId} {args : Array Value} {below : List Frame} {meth : Method} {c : Code} {dC : Nat → ClassId} {dI : Nat → Nat → Nat} {a : Nat → Nat} {ca : Nat → ClassId} {tb : Nat → Nat} {w0 : Cond} (S : CallFix p m c cX1_lowerAll 7 s args (w0 :: tWALL) RX1) (hr : meth.sig.returnType = none) (hlk : meth.locks = false) (E : tEnv 47 dC dI a ca tb s) (post : tSt → Prop) (k7 : Int32 → Int32 → tSt → Prop) (hk7 : ∀ (x1 : Int32) (x2 : Int32) (st : tSt), k7 x1 x2 st → tAt p l e rmX1_lowerAll s m args below meth c (dC, dI) (cwC a ca) (tA 47 a s.heap.size) (tQv (cwC a ca) 47 dC dI a args below s post) 7 7 [(0, .ref (a 40)), (1, .int x1), (2, .int x2)] [] st) : ∀ (x1 : Int32) (x2 : Int32) (st : tSt), wp_Cast_lowerAll_91 post k7 x1 x2 st → tAt p l e rmX1_lowerAll s m args below meth c (dC, dI) (cwC a ca) (tA 47 a s.heap.size) (tQv (cwC a ca) 47 dC dI a args below s post) 7 91 [(0, .ref (a 40)), (1, .int x1), (2, .int x2)] [] st := by
  intro x1 x2 st h H locs ls hP hS hl
  refine lv_aload_n (pc := 91) S.1 S.2.1 dX1_lowerAll_91 rfl (lv_at hl 0 rfl) ?_
  refine lv_aload_n (pc := 92) S.1 S.2.1 dX1_lowerAll_92 rfl (lv_at hl 0 rfl) ?_
  refine tp_get (pc := 93) S E.1 hP iwX1 40 (cC_cast a ca st) rfl 3 (by decide) kw_93 (v := .ref (a 46)) rfl dX1_lowerAll_93 ?_
  refine lv_iload_n (pc := 96) S.1 S.2.1 dX1_lowerAll_96 rfl (lv_at hl 2 rfl) ?_
  obtain ⟨hn1, h⟩ := h
  refine tp_iald (pc := 97) S E.1 hP 46 0 (cC_piperFor a ca st) rfl (j := x2.toNatClampNeg) rfl hn1 dX1_lowerAll_97 ?_
  refine lv_aload_n (pc := 98) S.1 S.2.1 dX1_lowerAll_98 rfl (lv_at hl 0 rfl) ?_
  refine tp_get (pc := 99) S E.1 hP iwX1 40 (cC_cast a ca st) rfl 1 (by decide) kw_100 (v := .ref (a 44)) rfl dX1_lowerAll_99 ?_
  refine lv_iload_n (pc := 102) S.1 S.2.1 dX1_lowerAll_102 rfl (lv_at hl 2 rfl) ?_
  obtain ⟨hn2, h⟩ := h
  refine tp_iald (pc := 103) S E.1 hP 44 0 (cC_bars a ca st) rfl (j := x2.toNatClampNeg) rfl hn2 dX1_lowerAll_103 ?_
  refine tGv hS (tRunV (pc := 104) (As := [.int (st 34 x2.toNatClampNeg), .int (st 32 x2.toNatClampNeg)]) (rest := []) S E hP hS (mt_X1_close l dC dI a ca tb _ (st 34 x2.toNatClampNeg) (st 32 x2.toNatClampNeg) st _ h) (cw_X1_close ⟨Nat.le_of_ble_eq_true rfl, Nat.le_of_ble_eq_true rfl⟩) kw_156 kw_157 kw_158 40 1 rfl rfl (cC_cast a ca st) rfl hl.1 rfl (Nat.le_of_ble_eq_true rfl) dX1_lowerAll_104) (fun st1 H locs h hP hS => ?_)
  refine lv_iload_n (pc := 107) S.1 S.2.1 dX1_lowerAll_107 rfl (lv_at hl 1 rfl) ?_
  refine lv_iconst (pc := 108) S.1 S.2.1 (v := 1) dX1_lowerAll_108 (by decide) ?_
  refine lv_iload_n (pc := 109) S.1 S.2.1 dX1_lowerAll_109 rfl (lv_at hl 2 rfl) ?_
  refine lv_ishl (pc := 110) S.1 S.2.1 dX1_lowerAll_110 ?_
  refine lv_iconst (pc := 111) S.1 S.2.1 (v := (-1)) dX1_lowerAll_111 (by decide) ?_
  refine lv_ixor (pc := 112) S.1 S.2.1 dX1_lowerAll_112 ?_
  refine lv_iand (pc := 113) S.1 S.2.1 dX1_lowerAll_113 ?_
  refine lv_topi (fun y1_2 e3 => ?_)
  have h := h y1_2 e3
  refine lv_istore_n (pc := 114) S.1 S.2.1 (lv' := [(1, .int y1_2), (0, .ref (a 40)), (2, .int x2)]) dX1_lowerAll_114 rfl hl (by decide) rfl (fun ls hl => ?_)
  obtain ⟨y2_3, e4⟩ : ∃ y : Int32, y = x2 + 1 := ⟨_, rfl⟩
  have h := h y2_3 e4
  refine lv_iinc (pc := 115) S.1 S.2.1 (v := y2_3) (lv' := [(2, .int y2_3), (1, .int y1_2), (0, .ref (a 40))]) dX1_lowerAll_115 hl (k := 2) rfl (by rw [e4]; rfl) (by decide) rfl (fun ls hl => ?_)
  refine lv_goto (pc := 118) S.1 S.2.1 (tgt := 7) dX1_lowerAll_118 (by decide) ?_
  exact hk7 y1_2 y2_3 st1 h _ _ _ hP hS (lv_sub hl [2, 1, 0] rfl)
set_option maxHeartbeats 4000000 in
set_option maxRecDepth 100000 in
theorem wk_X1_lowerAll_36 {p : Program} {l : Launch} {e : Env} {s : State} {m : MethodId} {args : Array Value} {below : List Frame} {meth : Method} {c : Code} {dC : Nat → ClassId} {dI : Nat → Nat → Nat} {a : Nat → Nat} {ca : Nat → ClassId} {tb : Nat → Nat} {w0 : Cond} (S : CallFix p m c cX1_lowerAll 7 s args (w0 :: tWALL) RX1) (hr : meth.sig.returnType = none) (hlk : meth.locks = false) (E : tEnv 47 dC dI a ca tb s) (post : tSt → Prop) (k91 : Int32 → Int32 → tSt → Prop) (hk91 : ∀ (x1 : Int32) (x2 : Int32) (st : tSt), k91 x1 x2 st → tAt p l e rmX1_lowerAll s m args below meth c (dC, dI) (cwC a ca) (tA 47 a s.heap.size) (tQv (cwC a ca) 47 dC dI a args below s post) 7 91 [(0, .ref (a 40)), (1, .int x1), (2, .int x2)] [] st) : ∀ (n : Nat) (x1 : Int32) (x2 : Int32) (x3 : Int32) (x4 : Int32) (x5 : Int32) (x6 : Int32) (st : tSt), wp_Cast_lowerAll_36 post k91 n x1 x2 x3 x4 x5 x6 st → tAt p l e rmX1_lowerAll s m args below meth c (dC, dI) (cwC a ca) (tA 47 a s.heap.size) (tQv (cwC a ca) 47 dC dI a args below s post) 7 36 [(0, .ref (a 40)), (1, .int x1), (2, .int x2), (3, .int x3), (4, .int x4), (5, .int x5), (6, .int x6)] [] st := by
  intro n
  induction n with
  | zero => intro x1 x2 x3 x4 x5 x6 st h; exact absurd h id
  | succ n ih =>
    intro x1 x2 x3 x4 x5 x6 st h H locs ls hP hS hl
    refine lv_iload (pc := 36) S.1 S.2.1 dX1_lowerAll_36 (lv_at hl 6 rfl) ?_
    refine lv_bipush (pc := 38) S.1 S.2.1 (v := 6) dX1_lowerAll_38 (by decide) ?_
    refine lv_icmp_ge (pc := 40) (tgt := 91) S.1 S.2.1 dX1_lowerAll_40 (by decide) (fun c1 => ?_) (fun c1 => ?_)
    · have h := h.1 c1
      exact hk91 x1 x2 st h _ _ _ hP hS (lv_sub hl [0, 1, 2] rfl)
    · have h := h.2 c1
      refine lv_iload (pc := 43) S.1 S.2.1 dX1_lowerAll_43 (lv_at hl 6 rfl) ?_
      refine lv_iload (pc := 45) S.1 S.2.1 dX1_lowerAll_45 (lv_at hl 4 rfl) ?_
      refine lv_icmp_ge (pc := 47) (tgt := 91) S.1 S.2.1 dX1_lowerAll_47 (by decide) (fun c2 => ?_) (fun c2 => ?_)
      · have h := h.1 c2
        exact hk91 x1 x2 st h _ _ _ hP hS (lv_sub hl [0, 1, 2] rfl)
      · have h := h.2 c2
        refine lv_iload (pc := 50) S.1 S.2.1 dX1_lowerAll_50 (lv_at hl 5 rfl) ?_
        refine lv_if_ne (pc := 52) (tgt := 91) S.1 S.2.1 dX1_lowerAll_52 (by decide) (fun c3 => ?_) (fun c3 => ?_)
        · have h := h.2 c3
          exact hk91 x1 x2 st h _ _ _ hP hS (lv_sub hl [0, 1, 2] rfl)
        · have h := h.1 c3
          refine lv_aload_n (pc := 55) S.1 S.2.1 dX1_lowerAll_55 rfl (lv_at hl 0 rfl) ?_
          refine lv_iload (pc := 56) S.1 S.2.1 dX1_lowerAll_56 (lv_at hl 6 rfl) ?_
          refine lv_iload_n (pc := 58) S.1 S.2.1 dX1_lowerAll_58 rfl (lv_at hl 2 rfl) ?_
          refine lv_iload_n (pc := 59) S.1 S.2.1 dX1_lowerAll_59 rfl (lv_at hl 3 rfl) ?_
          refine tGi hS (tRunV (pc := 60) (As := [.int x6, .int x2, .int x3]) (rest := []) S E hP hS (mt_X1_isWorthTrying l dC dI a ca tb _ x6 x2 x3 st _ h) (cw_X1_isWorthTrying ⟨Nat.le_of_ble_eq_true rfl, Nat.le_of_ble_eq_true rfl⟩) kw_127 kw_128 kw_129 40 1 rfl rfl (cC_cast a ca st) rfl hl.1 rfl (Nat.le_of_ble_eq_true rfl) dX1_lowerAll_60) (fun r2 st1 H locs h hP hS => ?_)
          refine lv_if_eq (pc := 63) (tgt := 82) S.1 S.2.1 dX1_lowerAll_63 (by decide) (fun c4 => ?_) (fun c4 => ?_)
          · have h := h.1 c4
            exact (fun x1 x2 x3 x4 x6 st h => wk_X1_lowerAll_82 S hr hlk E post (wp_Cast_lowerAll_36 post k91 n) ih k91 hk91 x1 x2 x3 x4 x6 st h) x1 x2 x3 x4 x6 st1 h _ _ _ hP hS (lv_sub hl [0, 1, 2, 3, 4, 6] rfl)
          · have h := h.2 c4
            refine lv_aload_n (pc := 66) S.1 S.2.1 dX1_lowerAll_66 rfl (lv_at hl 0 rfl) ?_
            refine lv_iload_n (pc := 67) S.1 S.2.1 dX1_lowerAll_67 rfl (lv_at hl 2 rfl) ?_
            refine lv_iload (pc := 68) S.1 S.2.1 dX1_lowerAll_68 (lv_at hl 6 rfl) ?_
            refine lv_iload_n (pc := 70) S.1 S.2.1 dX1_lowerAll_70 rfl (lv_at hl 3 rfl) ?_
            refine lv_iload_n (pc := 71) S.1 S.2.1 dX1_lowerAll_71 rfl (lv_at hl 2 rfl) ?_
            refine tGi hS (tRunV (pc := 72) (As := [.int x2, .int x6, .int x3, .int x2]) (rest := []) S E hP hS (mtd_X1_canGive l dC dI a ca tb 13 _ x2 x6 x3 x2 st1 _ h) (cw_X1_canGive ⟨Nat.le_of_ble_eq_true rfl, Nat.le_of_ble_eq_true rfl⟩) kw_130 kw_131 kw_132 40 1 rfl rfl (cC_cast a ca st1) rfl hl.1 rfl (Nat.le_of_ble_eq_true rfl) dX1_lowerAll_72) (fun r4 st3 H locs h hP hS => ?_)
            refine lv_if_eq (pc := 75) (tgt := 82) S.1 S.2.1 dX1_lowerAll_75 (by decide) (fun c5 => ?_) (fun c5 => ?_)
            · have h := h.1 c5
              exact (fun x1 x2 x3 x4 x6 st h => wk_X1_lowerAll_82 S hr hlk E post (wp_Cast_lowerAll_36 post k91 n) ih k91 hk91 x1 x2 x3 x4 x6 st h) x1 x2 x3 x4 x6 st3 h _ _ _ hP hS (lv_sub hl [0, 1, 2, 3, 4, 6] rfl)
            · have h := h.2 c5
              refine lv_iconst (pc := 78) S.1 S.2.1 (v := 1) dX1_lowerAll_78 (by decide) ?_
              refine lv_goto (pc := 79) S.1 S.2.1 (tgt := 83) dX1_lowerAll_79 (by decide) ?_
              exact (fun x1 x2 x3 x4 x6 s0 st h => wk_X1_lowerAll_83 S hr hlk E post (wp_Cast_lowerAll_36 post k91 n) ih k91 hk91 x1 x2 x3 x4 x6 s0 st h) x1 x2 x3 x4 x6 (1 : Int32) st3 h _ _ _ hP hS (lv_sub hl [0, 1, 2, 3, 4, 6] rfl)
set_option maxHeartbeats 4000000 in
set_option maxRecDepth 100000 in
theorem wk_X1_lowerAll_7 {p : Program} {l : Launch} {e : Env} {s : State} {m : MethodId} {args : Array Value} {below : List Frame} {meth : Method} {c : Code} {dC : Nat → ClassId} {dI : Nat → Nat → Nat} {a : Nat → Nat} {ca : Nat → ClassId} {tb : Nat → Nat} {w0 : Cond} (S : CallFix p m c cX1_lowerAll 7 s args (w0 :: tWALL) RX1) (hr : meth.sig.returnType = none) (hlk : meth.locks = false) (E : tEnv 47 dC dI a ca tb s) (post : tSt → Prop) : ∀ (n : Nat) (x1 : Int32) (x2 : Int32) (st : tSt), wp_Cast_lowerAll_7 post n x1 x2 st → tAt p l e rmX1_lowerAll s m args below meth c (dC, dI) (cwC a ca) (tA 47 a s.heap.size) (tQv (cwC a ca) 47 dC dI a args below s post) 7 7 [(0, .ref (a 40)), (1, .int x1), (2, .int x2)] [] st := by
  intro n
  induction n with
  | zero => intro x1 x2 st h; exact absurd h id
  | succ n ih =>
    intro x1 x2 st h H locs ls hP hS hl
    refine lv_iload_n (pc := 7) S.1 S.2.1 dX1_lowerAll_7 rfl (lv_at hl 2 rfl) ?_
    refine lv_aload_n (pc := 8) S.1 S.2.1 dX1_lowerAll_8 rfl (lv_at hl 0 rfl) ?_
    refine tp_get (pc := 9) S E.1 hP iwX1 40 (cC_cast a ca st) rfl 4 (by decide) kw_86 (v := .int (st 27 0)) rfl dX1_lowerAll_9 ?_
    refine lv_icmp_ge (pc := 12) (tgt := 121) S.1 S.2.1 dX1_lowerAll_12 (by decide) (fun c1 => ?_) (fun c1 => ?_)
    · have h := h.1 c1
      exact tRv S hr hlk hP hS h dX1_lowerAll_121
    · have h := h.2 c1
      refine lv_aload_n (pc := 15) S.1 S.2.1 dX1_lowerAll_15 rfl (lv_at hl 0 rfl) ?_
      refine lv_iload_n (pc := 16) S.1 S.2.1 dX1_lowerAll_16 rfl (lv_at hl 2 rfl) ?_
      refine lv_iload_n (pc := 17) S.1 S.2.1 dX1_lowerAll_17 rfl (lv_at hl 1 rfl) ?_
      refine tGi hS (tRunV (pc := 18) (As := [.int x2, .int x1]) (rest := []) S E hP hS (mt_X1_tiedTo l dC dI a ca tb _ x2 x1 st _ h) (cw_X1_tiedTo ⟨Nat.le_of_ble_eq_true rfl, Nat.le_of_ble_eq_true rfl⟩) kw_139 kw_140 kw_141 40 1 rfl rfl (cC_cast a ca st) rfl hl.1 rfl (Nat.le_of_ble_eq_true rfl) dX1_lowerAll_18) (fun r2 st1 H locs h hP hS => ?_)
      refine lv_istore_n (pc := 21) S.1 S.2.1 (lv' := [(3, .int r2), (0, .ref (a 40)), (1, .int x1), (2, .int x2)]) dX1_lowerAll_21 rfl hl (by decide) rfl (fun ls hl => ?_)
      refine lv_aload_n (pc := 22) S.1 S.2.1 dX1_lowerAll_22 rfl (lv_at hl 1 rfl) ?_
      refine tp_get (pc := 23) S E.1 hP iwX1 40 (cC_cast a ca st1) rfl 3 (by decide) kw_93 (v := .ref (a 46)) rfl dX1_lowerAll_23 ?_
      refine lv_iload_n (pc := 26) S.1 S.2.1 dX1_lowerAll_26 rfl (lv_at hl 3 rfl) ?_
      obtain ⟨hn2, h⟩ := h
      refine tp_iald (pc := 27) S E.1 hP 46 0 (cC_piperFor a ca st1) rfl (j := x2.toNatClampNeg) rfl hn2 dX1_lowerAll_27 ?_
      refine lv_topi (fun y4_3 e3 => ?_)
      have h := h y4_3 e3
      refine lv_istore (pc := 28) S.1 S.2.1 (lv' := [(4, .int y4_3), (3, .int r2), (0, .ref (a 40)), (1, .int x1), (2, .int x2)]) dX1_lowerAll_28 hl (by decide) rfl (fun ls hl => ?_)
      refine lv_iconst (pc := 30) S.1 S.2.1 (v := 0) dX1_lowerAll_30 (by decide) ?_
      refine lv_istore (pc := 31) S.1 S.2.1 (lv' := [(5, .int (0 : Int32)), (4, .int y4_3), (3, .int r2), (0, .ref (a 40)), (1, .int x1), (2, .int x2)]) dX1_lowerAll_31 hl (by decide) rfl (fun ls hl => ?_)
      refine lv_iconst (pc := 33) S.1 S.2.1 (v := 0) dX1_lowerAll_33 (by decide) ?_
      refine lv_istore (pc := 34) S.1 S.2.1 (lv' := [(6, .int (0 : Int32)), (5, .int (0 : Int32)), (4, .int y4_3), (3, .int r2), (0, .ref (a 40)), (1, .int x1), (2, .int x2)]) dX1_lowerAll_34 hl (by decide) rfl (fun ls hl => ?_)
      exact (fun x1 x2 x3 x4 x5 x6 st h => Exists.elim h (fun q h => wk_X1_lowerAll_36 S hr hlk E post (wp_Cast_lowerAll_91 post (wp_Cast_lowerAll_7 post n)) (fun x1 x2 st h => wk_X1_lowerAll_91 S hr hlk E post (wp_Cast_lowerAll_7 post n) ih x1 x2 st h) q x1 x2 x3 x4 x5 x6 st h)) x1 x2 r2 y4_3 (0 : Int32) (0 : Int32) st1 h _ _ _ hP hS (lv_sub hl [4, 5, 6, 3, 2, 1, 0] rfl)
set_option maxHeartbeats 4000000 in
set_option maxRecDepth 100000 in
theorem mt_X1_lowerAll (l : Launch) (dC : Nat → ClassId) (dI : Nat → Nat → Nat) (a : Nat → Nat) (ca : Nat → ClassId) (tb : Nat → Nat) (sz : Nat) (st : tSt) (post : tSt → Prop) (h : wp_Cast_lowerAll  st post) : Met l yX1_lowerAll (.code yX1_lowerAll cX1_lowerAll 7 none :: tWALL) rmX1_lowerAll (va_Pc [.ref (a 40)] (tPre 47 (cwC a ca) dC dI a ca tb sz st)) (va_Qv post (tB (cwC a ca) dC dI) (tA 47 a sz)) 0 0 (tA 47 a sz) := by
  refine tp_met (by decide) (Nat.le_of_ble_eq_true rfl) ?_
  intro p e s m below meth c ls S hr hlk hsz E hP hl
  subst hsz
  have S : CallFix p m c cX1_lowerAll 7 s _ (.code yX1_lowerAll cX1_lowerAll 7 none :: tWALL) RX1 := S
  have hl : lv_has ls 7 [(0, .ref (a 40))] := hl
  have hS : va_S (tA 47 a s.heap.size) s.heap s.heap [] := va_S.rf
  show W p l e _ s m _ below meth c s.heap [] 0 0 (tQv (cwC a ca) 47 dC dI a ([.ref (a 40)] : List Value).toArray below s post) (F0 m 0 ls [])
  refine lv_aload_n (pc := 0) S.1 S.2.1 dX1_lowerAll_0 rfl (lv_at hl 0 rfl) ?_
  refine tGi hS (tRunV (pc := 1) (As := []) (rest := []) S E hP hS (mt_X1_allParts l dC dI a ca tb _  st _ h) (cw_X1_allParts ⟨Nat.le_of_ble_eq_true rfl, Nat.le_of_ble_eq_true rfl⟩) kw_136 kw_137 kw_138 40 1 rfl rfl (cC_cast a ca st) rfl hl.1 rfl (Nat.le_of_ble_eq_true rfl) dX1_lowerAll_1) (fun r2 st1 H locs h hP hS => ?_)
  refine lv_istore_n (pc := 4) S.1 S.2.1 (lv' := [(1, .int r2), (0, .ref (a 40))]) dX1_lowerAll_4 rfl hl (by decide) rfl (fun ls hl => ?_)
  refine lv_iconst (pc := 5) S.1 S.2.1 (v := 0) dX1_lowerAll_5 (by decide) ?_
  refine lv_istore_n (pc := 6) S.1 S.2.1 (lv' := [(2, .int (0 : Int32)), (1, .int r2), (0, .ref (a 40))]) dX1_lowerAll_6 rfl hl (by decide) rfl (fun ls hl => ?_)
  exact (fun x1 x2 st h => Exists.elim h (fun q h => wk_X1_lowerAll_7 S hr hlk E post  q x1 x2 st h)) r2 (0 : Int32) st1 h _ _ _ hP hS (lv_sub hl [2, 1, 0] rfl)

abbrev rmX3_playedBits : Room := { frames := 0, cells := 0, slots := 0, locals := 0 }
theorem cw_X3_playedBits {R : Room} {own : String} {index : Nat} (h : rmX3_playedBits.frames + 1 ≤ R.frames ∧ 8 + (1 + 11) + rmX3_playedBits.locals ≤ R.locals) : tCw R own index yX3_playedBits cX3_playedBits 1 (some .int) rmX3_playedBits 0 := ⟨kw_162, kw_161, ⟨rfl, rfl, h.1, h.2⟩, by decide +kernel, by decide +kernel, by decide +kernel⟩

set_option maxHeartbeats 4000000 in
set_option maxRecDepth 100000 in
theorem mt_X3_playedBits (l : Launch) (dC : Nat → ClassId) (dI : Nat → Nat → Nat) (a : Nat → Nat) (ca : Nat → ClassId) (tb : Nat → Nat) (sz : Nat) (st : tSt) (post : Int32 → tSt → Prop) (h : wp_Plan_playedBits  st post) : Met l yX3_playedBits (.code yX3_playedBits cX3_playedBits 1 (some .int) :: tWALL) rmX3_playedBits (va_Pc [.ref (a 39)] (tPre 47 (cwC a ca) dC dI a ca tb sz st)) (va_Qi post (tB (cwC a ca) dC dI) (tA 47 a sz)) 0 0 (tA 47 a sz) := by
  refine tp_met (by decide) (Nat.le_of_ble_eq_true rfl) ?_
  intro p e s m below meth c ls S hr hlk hsz E hP hl
  subst hsz
  have S : CallFix p m c cX3_playedBits 1 s _ (.code yX3_playedBits cX3_playedBits 1 (some .int) :: tWALL) RX3 := S
  have hl : lv_has ls 1 [(0, .ref (a 39))] := hl
  have hS : va_S (tA 47 a s.heap.size) s.heap s.heap [] := va_S.rf
  show W p l e _ s m _ below meth c s.heap [] 0 0 (tQi (cwC a ca) 47 dC dI a ([.ref (a 39)] : List Value).toArray below s post) (F0 m 0 ls [])
  refine lv_aload_n (pc := 0) S.1 S.2.1 dX3_playedBits_0 rfl (lv_at hl 0 rfl) ?_
  refine tp_get (pc := 1) S E.1 hP iwX3 39 (cC_plan a ca st) rfl 3 (by decide) kw_160 (v := .int (st 26 0)) rfl dX3_playedBits_1 ?_
  exact tRi S hr hlk hP hS h dX3_playedBits_4

abbrev rmX3_has : Room := { frames := 1, cells := 0, slots := 0, locals := 22 }
theorem cw_X3_has {R : Room} {own : String} {index : Nat} (h : rmX3_has.frames + 1 ≤ R.frames ∧ 8 + (2 + 11) + rmX3_has.locals ≤ R.locals) : tCw R own index yX3_has cX3_has 2 (some .boolean) rmX3_has 1 := ⟨kw_165, kw_161, ⟨rfl, rfl, h.1, h.2⟩, by decide +kernel, by decide +kernel, by decide +kernel⟩

set_option maxHeartbeats 4000000 in
set_option maxRecDepth 100000 in
theorem mt_X3_has (l : Launch) (dC : Nat → ClassId) (dI : Nat → Nat → Nat) (a : Nat → Nat) (ca : Nat → ClassId) (tb : Nat → Nat) (sz : Nat) (x1 : Int32) (st : tSt) (post : Int32 → tSt → Prop) (h : wp_Plan_has x1 st post) : Met l yX3_has (.code yX3_has cX3_has 2 (some .boolean) :: tWALL) rmX3_has (va_Pc [.ref (a 39), .int x1] (tPre 47 (cwC a ca) dC dI a ca tb sz st)) (va_Qi post (tB (cwC a ca) dC dI) (tA 47 a sz)) 0 0 (tA 47 a sz) := by
  refine tp_met (by decide) (Nat.le_of_ble_eq_true rfl) ?_
  intro p e s m below meth c ls S hr hlk hsz E hP hl
  subst hsz
  have S : CallFix p m c cX3_has 2 s _ (.code yX3_has cX3_has 2 (some .boolean) :: tWALL) RX3 := S
  have hl : lv_has ls 2 [(0, .ref (a 39)), (1, .int x1)] := hl
  have hS : va_S (tA 47 a s.heap.size) s.heap s.heap [] := va_S.rf
  show W p l e _ s m _ below meth c s.heap [] 0 0 (tQi (cwC a ca) 47 dC dI a ([.ref (a 39), .int x1] : List Value).toArray below s post) (F0 m 0 ls [])
  refine lv_iload_n (pc := 0) S.1 S.2.1 dX3_has_0 rfl (lv_at hl 1 rfl) ?_
  refine lv_iconst (pc := 1) S.1 S.2.1 (v := 0) dX3_has_1 (by decide) ?_
  refine lv_iconst (pc := 2) S.1 S.2.1 (v := 5) dX3_has_2 (by decide) ?_
  refine tGi hS (tRunSN (pc := 3) (As := [.int x1, .int (0 : Int32), .int (5 : Int32)]) (rest := []) S E hP hS (mt_X7_within l dC dI a ca tb _ x1 (0 : Int32) (5 : Int32) st _ h) (cw_X7_within ⟨Nat.le_of_ble_eq_true rfl, Nat.le_of_ble_eq_true rfl⟩) kw_163 kw_8 rfl hl.1 rfl (Nat.le_of_ble_eq_true rfl) dX3_has_3) (fun r2 st1 H locs h hP hS => ?_)
  refine lv_if_eq (pc := 6) (tgt := 24) S.1 S.2.1 dX3_has_6 (by decide) (fun c1 => ?_) (fun c1 => ?_)
  · have h := h.1 c1
    refine lv_iconst (pc := 24) S.1 S.2.1 (v := 0) dX3_has_24 (by decide) ?_
    exact tRz S hr hlk hP hS (Or.inl rfl) h dX3_has_25
  · have h := h.2 c1
    refine lv_aload_n (pc := 9) S.1 S.2.1 dX3_has_9 rfl (lv_at hl 0 rfl) ?_
    refine tp_get (pc := 10) S E.1 hP iwX3 39 (cC_plan a ca st1) rfl 3 (by decide) kw_160 (v := .int (st1 26 0)) rfl dX3_has_10 ?_
    refine lv_iload_n (pc := 13) S.1 S.2.1 dX3_has_13 rfl (lv_at hl 1 rfl) ?_
    refine tGi hS (tRunSN (pc := 14) (As := [.int (st1 26 0), .int x1]) (rest := []) S E hP hS (mt_X7_hasBit l dC dI a ca tb _ (st1 26 0) x1 st1 _ h) (cw_X7_hasBit ⟨Nat.le_of_ble_eq_true rfl, Nat.le_of_ble_eq_true rfl⟩) kw_164 kw_49 rfl hl.1 rfl (Nat.le_of_ble_eq_true rfl) dX3_has_14) (fun r4 st3 H locs h hP hS => ?_)
    refine lv_if_eq (pc := 17) (tgt := 24) S.1 S.2.1 dX3_has_17 (by decide) (fun c2 => ?_) (fun c2 => ?_)
    · have h := h.1 c2
      refine lv_iconst (pc := 24) S.1 S.2.1 (v := 0) dX3_has_24 (by decide) ?_
      exact tRz S hr hlk hP hS (Or.inl rfl) h dX3_has_25
    · have h := h.2 c2
      refine lv_iconst (pc := 20) S.1 S.2.1 (v := 1) dX3_has_20 (by decide) ?_
      refine lv_goto (pc := 21) S.1 S.2.1 (tgt := 25) dX3_has_21 (by decide) ?_
      exact tRz S hr hlk hP hS (Or.inr rfl) h dX3_has_25

abbrev rmX3_piperOf : Room := { frames := 1, cells := 0, slots := 0, locals := 24 }
theorem cw_X3_piperOf {R : Room} {own : String} {index : Nat} (h : rmX3_piperOf.frames + 1 ≤ R.frames ∧ 8 + (3 + 11) + rmX3_piperOf.locals ≤ R.locals) : tCw R own index yX3_piperOf cX3_piperOf 3 (some .int) rmX3_piperOf 2 := ⟨kw_170, kw_161, ⟨rfl, rfl, h.1, h.2⟩, by decide +kernel, by decide +kernel, by decide +kernel⟩

set_option maxHeartbeats 4000000 in
set_option maxRecDepth 100000 in
theorem mt_X3_piperOf (l : Launch) (dC : Nat → ClassId) (dI : Nat → Nat → Nat) (a : Nat → Nat) (ca : Nat → ClassId) (tb : Nat → Nat) (sz : Nat) (x1 : Int32) (x2 : Int32) (st : tSt) (post : Int32 → tSt → Prop) (h : wp_Plan_piperOf x1 x2 st post) : Met l yX3_piperOf (.code yX3_piperOf cX3_piperOf 3 (some .int) :: tWALL) rmX3_piperOf (va_Pc [.ref (a 39), .int x1, .int x2] (tPre 47 (cwC a ca) dC dI a ca tb sz st)) (va_Qi post (tB (cwC a ca) dC dI) (tA 47 a sz)) 0 0 (tA 47 a sz) := by
  refine tp_met (by decide) (Nat.le_of_ble_eq_true rfl) ?_
  intro p e s m below meth c ls S hr hlk hsz E hP hl
  subst hsz
  have S : CallFix p m c cX3_piperOf 3 s _ (.code yX3_piperOf cX3_piperOf 3 (some .int) :: tWALL) RX3 := S
  have hl : lv_has ls 3 [(0, .ref (a 39)), (1, .int x1), (2, .int x2)] := hl
  have hS : va_S (tA 47 a s.heap.size) s.heap s.heap [] := va_S.rf
  show W p l e _ s m _ below meth c s.heap [] 0 0 (tQi (cwC a ca) 47 dC dI a ([.ref (a 39), .int x1, .int x2] : List Value).toArray below s post) (F0 m 0 ls [])
  refine lv_aload_n (pc := 0) S.1 S.2.1 dX3_piperOf_0 rfl (lv_at hl 0 rfl) ?_
  refine tp_get (pc := 1) S E.1 hP iwX3 39 (cC_plan a ca st) rfl 0 (by decide) kw_166 (v := .ref (a 40)) rfl dX3_piperOf_1 ?_
  refine lv_iload_n (pc := 4) S.1 S.2.1 dX3_piperOf_4 rfl (lv_at hl 1 rfl) ?_
  refine lv_iload_n (pc := 5) S.1 S.2.1 dX3_piperOf_5 rfl (lv_at hl 2 rfl) ?_
  refine tGi hS (tRunV (pc := 6) (As := [.int x1, .int x2]) (rest := []) S E hP hS (mt_X1_piperOf l dC dI a ca tb _ x1 x2 st _ h) (cw_X1_piperOf ⟨Nat.le_of_ble_eq_true rfl, Nat.le_of_ble_eq_true rfl⟩) kw_167 kw_168 kw_169 40 1 rfl rfl (cC_cast a ca st) rfl hl.1 rfl (Nat.le_of_ble_eq_true rfl) dX3_piperOf_6) (fun r2 st1 H locs h hP hS => ?_)
  exact tRi S hr hlk hP hS h dX3_piperOf_9

abbrev rmX3_tuneOf : Room := { frames := 2, cells := 0, slots := 0, locals := 43 }
theorem cw_X3_tuneOf {R : Room} {own : String} {index : Nat} (h : rmX3_tuneOf.frames + 1 ≤ R.frames ∧ 8 + (2 + 11) + rmX3_tuneOf.locals ≤ R.locals) : tCw R own index yX3_tuneOf cX3_tuneOf 2 (some .int) rmX3_tuneOf 1 := ⟨kw_175, kw_161, ⟨rfl, rfl, h.1, h.2⟩, by decide +kernel, by decide +kernel, by decide +kernel⟩

set_option maxHeartbeats 4000000 in
set_option maxRecDepth 100000 in
theorem mt_X3_tuneOf (l : Launch) (dC : Nat → ClassId) (dI : Nat → Nat → Nat) (a : Nat → Nat) (ca : Nat → ClassId) (tb : Nat → Nat) (sz : Nat) (x1 : Int32) (st : tSt) (post : Int32 → tSt → Prop) (h : wp_Plan_tuneOf x1 st post) : Met l yX3_tuneOf (.code yX3_tuneOf cX3_tuneOf 2 (some .int) :: tWALL) rmX3_tuneOf (va_Pc [.ref (a 39), .int x1] (tPre 47 (cwC a ca) dC dI a ca tb sz st)) (va_Qi post (tB (cwC a ca) dC dI) (tA 47 a sz)) 0 0 (tA 47 a sz) := by
  refine tp_met (by decide) (Nat.le_of_ble_eq_true rfl) ?_
  intro p e s m below meth c ls S hr hlk hsz E hP hl
  subst hsz
  have S : CallFix p m c cX3_tuneOf 2 s _ (.code yX3_tuneOf cX3_tuneOf 2 (some .int) :: tWALL) RX3 := S
  have hl : lv_has ls 2 [(0, .ref (a 39)), (1, .int x1)] := hl
  have hS : va_S (tA 47 a s.heap.size) s.heap s.heap [] := va_S.rf
  show W p l e _ s m _ below meth c s.heap [] 0 0 (tQi (cwC a ca) 47 dC dI a ([.ref (a 39), .int x1] : List Value).toArray below s post) (F0 m 0 ls [])
  refine lv_aload_n (pc := 0) S.1 S.2.1 dX3_tuneOf_0 rfl (lv_at hl 0 rfl) ?_
  refine lv_iload_n (pc := 1) S.1 S.2.1 dX3_tuneOf_1 rfl (lv_at hl 1 rfl) ?_
  refine tGi hS (tRunV (pc := 2) (As := [.int x1]) (rest := []) S E hP hS (mt_X3_has l dC dI a ca tb _ x1 st _ h) (cw_X3_has ⟨Nat.le_of_ble_eq_true rfl, Nat.le_of_ble_eq_true rfl⟩) kw_171 kw_172 kw_173 39 3 rfl rfl (cC_plan a ca st) rfl hl.1 rfl (Nat.le_of_ble_eq_true rfl) dX3_tuneOf_2) (fun r2 st1 H locs h hP hS => ?_)
  refine lv_if_eq (pc := 5) (tgt := 17) S.1 S.2.1 dX3_tuneOf_5 (by decide) (fun c1 => ?_) (fun c1 => ?_)
  · have h := h.1 c1
    refine lv_iconst (pc := 17) S.1 S.2.1 (v := (-1)) dX3_tuneOf_17 (by decide) ?_
    exact tRi S hr hlk hP hS h dX3_tuneOf_18
  · have h := h.2 c1
    refine lv_aload_n (pc := 8) S.1 S.2.1 dX3_tuneOf_8 rfl (lv_at hl 0 rfl) ?_
    refine tp_get (pc := 9) S E.1 hP iwX3 39 (cC_plan a ca st1) rfl 1 (by decide) kw_174 (v := .ref (a 41)) rfl dX3_tuneOf_9 ?_
    refine lv_iload_n (pc := 12) S.1 S.2.1 dX3_tuneOf_12 rfl (lv_at hl 1 rfl) ?_
    obtain ⟨hn2, h⟩ := h
    refine tp_iald (pc := 13) S E.1 hP 41 0 (cC_chosenTunes a ca st1) rfl (j := x1.toNatClampNeg) rfl hn2 dX3_tuneOf_13 ?_
    refine lv_goto (pc := 14) S.1 S.2.1 (tgt := 18) dX3_tuneOf_14 (by decide) ?_
    exact tRi S hr hlk hP hS h dX3_tuneOf_18

abbrev rmX3_partsOf : Room := { frames := 1, cells := 0, slots := 0, locals := 23 }
theorem cw_X3_partsOf {R : Room} {own : String} {index : Nat} (h : rmX3_partsOf.frames + 1 ≤ R.frames ∧ 8 + (2 + 11) + rmX3_partsOf.locals ≤ R.locals) : tCw R own index yX3_partsOf cX3_partsOf 2 (some .int) rmX3_partsOf 1 := ⟨kw_179, kw_161, ⟨rfl, rfl, h.1, h.2⟩, by decide +kernel, by decide +kernel, by decide +kernel⟩

set_option maxHeartbeats 4000000 in
set_option maxRecDepth 100000 in
theorem mt_X3_partsOf (l : Launch) (dC : Nat → ClassId) (dI : Nat → Nat → Nat) (a : Nat → Nat) (ca : Nat → ClassId) (tb : Nat → Nat) (sz : Nat) (x1 : Int32) (st : tSt) (post : Int32 → tSt → Prop) (h : wp_Plan_partsOf x1 st post) : Met l yX3_partsOf (.code yX3_partsOf cX3_partsOf 2 (some .int) :: tWALL) rmX3_partsOf (va_Pc [.ref (a 39), .int x1] (tPre 47 (cwC a ca) dC dI a ca tb sz st)) (va_Qi post (tB (cwC a ca) dC dI) (tA 47 a sz)) 0 0 (tA 47 a sz) := by
  refine tp_met (by decide) (Nat.le_of_ble_eq_true rfl) ?_
  intro p e s m below meth c ls S hr hlk hsz E hP hl
  subst hsz
  have S : CallFix p m c cX3_partsOf 2 s _ (.code yX3_partsOf cX3_partsOf 2 (some .int) :: tWALL) RX3 := S
  have hl : lv_has ls 2 [(0, .ref (a 39)), (1, .int x1)] := hl
  have hS : va_S (tA 47 a s.heap.size) s.heap s.heap [] := va_S.rf
  show W p l e _ s m _ below meth c s.heap [] 0 0 (tQi (cwC a ca) 47 dC dI a ([.ref (a 39), .int x1] : List Value).toArray below s post) (F0 m 0 ls [])
  refine lv_aload_n (pc := 0) S.1 S.2.1 dX3_partsOf_0 rfl (lv_at hl 0 rfl) ?_
  refine tp_get (pc := 1) S E.1 hP iwX3 39 (cC_plan a ca st) rfl 0 (by decide) kw_166 (v := .ref (a 40)) rfl dX3_partsOf_1 ?_
  refine lv_iload_n (pc := 4) S.1 S.2.1 dX3_partsOf_4 rfl (lv_at hl 1 rfl) ?_
  refine tGi hS (tRunV (pc := 5) (As := [.int x1]) (rest := []) S E hP hS (mt_X1_partsOf l dC dI a ca tb _ x1 st _ h) (cw_X1_partsOf ⟨Nat.le_of_ble_eq_true rfl, Nat.le_of_ble_eq_true rfl⟩) kw_176 kw_177 kw_178 40 1 rfl rfl (cC_cast a ca st) rfl hl.1 rfl (Nat.le_of_ble_eq_true rfl) dX3_partsOf_5) (fun r2 st1 H locs h hP hS => ?_)
  exact tRi S hr hlk hP hS h dX3_partsOf_8
