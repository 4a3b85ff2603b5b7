/-! shares -/
def p2V (pc ra rb n a b : Int32) : Int32 := if pc * rb - pc * rb / n * n < pc * ra - pc * ra / n * n then pc * ra / n + (pc - pc * ra / n - pc * rb / n) else if pc * ra - pc * ra / n * n = pc * rb - pc * rb / n * n then (if b ≤ a then pc * ra / n + 0 else pc * ra / n + (pc - pc * ra / n - pc * rb / n)) else pc * ra / n + 0
def rkOK (rk : Nat → Int32) (P : Nat) : Prop := ∀ i, i < P → ∃ r : Nat, 1 ≤ r ∧ r ≤ 9 ∧ rk i = nI r
theorem rk_sum {rk : Nat → Int32} {P a b : Nat} (h : rkOK rk P) (ha : a < P) (hb : b < P) : (1 : Int32) < rk a + rk b ∧ ¬ rk a + rk b = 0 := by
  obtain ⟨r, r1, r2, r3⟩ := h a ha
  obtain ⟨q, q1, q2, q3⟩ := h b hb
  rw [r3, q3, nI_add]
  exact ⟨nI_lt (a := 1) (by omega) (by omega), fun e => by have := (nI_eq (b := 0) (by omega) (by decide)).mp e; omega⟩
theorem c_two {st : tSt} {P a b : Nat} {pc : Int32} {post : Int32 → tSt → Prop} (hp : st 0 0 = nI P) (hP : P ≤ 6) (ha : a < P) (hb : b < P) (hr : rkOK (st 9) P) (h : post (p2V pc (st 9 a) (st 9 b) (st 9 a + st 9 b) (nI a) (nI b)) st) : wp_T_partOfTwo pc (nI a) (nI b) st post := by
  obtain ⟨n1, n0⟩ := rk_sum hr ha hb
  have ea := n_cl (show a < 2 ^ 31 by omega)
  have eb := n_cl (show b < 2 ^ 31 by omega)
  have ia : vp_in (nI a) 6 := vp_in_nI (by omega) (by decide)
  have ib : vp_in (nI b) 6 := vp_in_nI (by omega) (by decide)
  refine c_isP1 hp hP ha (b_f (by decide) (c_isP1 hp hP hb (b_f (by decide) ⟨ia, ib, fun y4 e4 => ?_⟩)))
  rw [ea, eb, if_pos n1] at e4
  subst e4
  refine ⟨ia, fun y5 e5 => ⟨ib, fun y6 e6 => ⟨n0, n0, fun y7 e7 => ⟨n0, n0, ?_⟩⟩⟩⟩
  rw [ea] at e5
  rw [eb] at e6
  subst e5; subst e6; subst e7
  unfold p2V at h
  by_cases z1 : pc * st 9 b - pc * st 9 b / (st 9 a + st 9 b) * (st 9 a + st 9 b) < pc * st 9 a - pc * st 9 a / (st 9 a + st 9 b) * (st 9 a + st 9 b)
  · rw [if_pos z1] at h
    exact b_t z1 ⟨n0, b_f (by decide) h⟩
  · rw [if_neg z1] at h
    refine b_f z1 ⟨n0, n0, ?_⟩
    by_cases z2 : pc * st 9 a - pc * st 9 a / (st 9 a + st 9 b) * (st 9 a + st 9 b) = pc * st 9 b - pc * st 9 b / (st 9 a + st 9 b) * (st 9 a + st 9 b)
    · rw [if_pos z2] at h
      refine b_t z2 ?_
      by_cases z3 : nI b ≤ nI a
      · rw [if_pos z3] at h
        exact b_t z3 ⟨n0, b_t rfl h⟩
      · rw [if_neg z3] at h
        exact b_f z3 ⟨n0, b_f (by decide) h⟩
    · rw [if_neg z2] at h
      exact b_f z2 ⟨n0, b_t rfl h⟩
theorem m_two {t : tSt} {a b : Nat} {pc n : Int32} {post : Int32 → tSt → Prop} (ha : a < 6) (hb : b < 6) (n0 : ¬ n = 0) (h : post (p2V pc (t 12 a) (t 12 b) n (nI a) (nI b)) t) : wp_M_shareOf_79 post (nI a) pc n (nI b) t := by
  have ea := n_cl (show a < 2 ^ 31 by omega)
  have eb := n_cl (show b < 2 ^ 31 by omega)
  have ia : vp_in (nI a) 6 := vp_in_nI (by omega) (by decide)
  have ib : vp_in (nI b) 6 := vp_in_nI (by omega) (by decide)
  refine ⟨ia, n0, fun y8 e8 => ⟨ib, n0, fun y9 e9 => ⟨ia, n0, fun y10 e10 => ⟨ib, n0, fun y11 e11 => ?_⟩⟩⟩⟩
  rw [ea] at e8 e10
  rw [eb] at e9 e11
  subst e8; subst e9; subst e10; subst e11
  unfold p2V at h
  by_cases z1 : pc * t 12 b - pc * t 12 b / n * n < pc * t 12 a - pc * t 12 a / n * n
  · rw [if_pos z1] at h
    exact b_t z1 h
  · rw [if_neg z1] at h
    refine b_f z1 ?_
    by_cases z2 : pc * t 12 a - pc * t 12 a / n * n = pc * t 12 b - pc * t 12 b / n * n
    · rw [if_pos z2] at h
      refine b_t z2 ?_
      by_cases z3 : nI b ≤ nI a
      · rw [if_pos z3] at h
        exact b_t z3 h
      · rw [if_neg z3] at h
        exact b_f z3 h
    · rw [if_neg z2] at h
      exact b_f z2 h
def shV (fee part : Int32) (rk : Nat → Int32) (f1 f2 : Int32) (p : Nat) : Int32 :=
  if nI p = f1 then (if f2 = -1 then fee - fee * part / 100 else p2V (fee - fee * part / 100) (rk p) (rk f2.toNatClampNeg) (rk p + rk f2.toNatClampNeg) (nI p) f2)
  else if nI p = f2 then p2V (fee - fee * part / 100) (rk p) (rk f1.toNatClampNeg) (rk p + rk f1.toNatClampNeg) (nI p) f1 else 0
def fOK (P : Nat) (f1 f2 : Int32) : Prop := (∃ a, a < P ∧ f1 = nI a) ∧ (f2 = -1 ∨ ∃ b, b < P ∧ f2 = nI b)
theorem gP {D : Dt} {t : tSt} {P : Nat} {res : List Nat} {g : Nat → Nat} (hM : MD D t P) (h : plL D res g) {j : Nat} (hj : j < (pts (dF D) res).length) : g j < P := by
  obtain ⟨h1, h2, h3⟩ := h.1.1 j hj
  by_cases z : g j < P
  · exact z
  · have := hM.2.2.2.2.2.2.2 (g j) (by omega) h1
    rw [this, b_0] at h3
    cases h3
theorem f_ok {D : Dt} {t : tSt} {P : Nat} {res : List Nat} {g : Nat → Nat} {c : Nat} (hM : MD D t P) (h : plL D res g) (hc : c ∈ res) : fOK P (wl g c (pts (dF D) res) 0 0) (wl g c (pts (dF D) res) 1 0) := by
  refine ⟨?_, ?_⟩
  · obtain ⟨i, -, h2, h3⟩ := wl_some (g := g) (pts (dF D) res) 0 (nP_in (dF D) c res hc)
    exact ⟨g i, gP hM h (by omega), h3⟩
  · rcases wl_val (g := g) (c := c) (pts (dF D) res) 1 0 with e | ⟨i, -, h2, h3⟩
    · exact Or.inl e
    · exact Or.inr ⟨g i, gP hM h (by omega), h3⟩
theorem shV_congr {fee part f1 f2 : Int32} {rk rk' : Nat → Int32} {P p : Nat} (hP : P ≤ 6) (hf : fOK P f1 f2) (hp : p < P) (h : ∀ i, i < P → rk' i = rk i) : shV fee part rk' f1 f2 p = shV fee part rk f1 f2 p := by
  obtain ⟨⟨a, a1, a2⟩, f⟩ := hf
  unfold shV
  have ea : rk' f1.toNatClampNeg = rk f1.toNatClampNeg := by rw [a2, n_cl (by omega)]; exact h a a1
  rw [h p hp, ea]
  rcases f with f | ⟨b, b1, b2⟩
  · rw [if_pos f, if_pos f]
  · have eb : rk' f2.toNatClampNeg = rk f2.toNatClampNeg := by rw [b2, n_cl (by omega)]; exact h b b1
    rw [eb]
theorem c_fund {st : tSt} {c : Nat} {post : Int32 → tSt → Prop} (hc : c < 6) (h : post (st (14 + c) 7 * st 7 1 / 100) st) : wp_T_fundShare (nI c) st post := by
  refine ⟨vp_in_nI hc (by decide), ?_⟩
  rw [n_cl (show c < 2 ^ 31 by omega)]
  exact c_fact (k := 7) (by decide) (c_num (k := 1) (by decide) h)
theorem m_fund {t : tSt} {c : Nat} {post : Int32 → tSt → Prop} (hc : c < 6) (h : post (t 17 (8 * c + 7) * t 10 1 / 100) t) : wp_M_fundOf (nI c) t post := m_of (k := 7) hc (by decide) h
theorem c_share {D : Dt} {st t : tSt} {P : Nat} {res : List Nat} {g : Nat → Nat} {c p : Nat} {post : Int32 → tSt → Prop} (hM : MD D t P) (hp : PCk D st res g) (h0 : st 0 0 = nI P) (hr : rkOK (st 9) P) (hc : c ∈ res) (hpP : p < P) (h : post (shV (st (14 + c) 7) (st 7 1) (st 9) (wl g c (pts (dF D) res) 0 0) (wl g c (pts (dF D) res) 1 0) p) st) : wp_T_piperShare (nI c) (nI p) st post := by
  have hB := MD_bOK hM
  obtain ⟨o1, o2, o3, o4⟩ := pl_ok hB (PCk_acc hp) hp.2.1
  have hc6 := (o2 c hc).1
  have hP6 := hM.2.2.2.1
  obtain ⟨⟨a, a1, a2⟩, f⟩ := f_ok hM hp.2.2.2.2.2.2.2 hc
  refine c_pipO (k := 0) hB hp hc6 (by decide) (c_pipO (k := 1) hB hp hc6 (by decide) ⟨vp_in_nI hc6 (by decide), ?_⟩)
  rw [n_cl (show c < 2 ^ 31 by omega)]
  refine c_fact (k := 7) (by decide) (c_fund hc6 (fun y6 e6 => ?_))
  subst e6
  unfold shV at h
  rw [a2] at h ⊢
  have ea := n_cl (show a < 2 ^ 31 by omega)
  rw [ea] at h
  by_cases z1 : nI p = nI a
  · rw [if_pos z1] at h
    refine b_t z1 ?_
    rcases f with f | ⟨b, b1, b2⟩
    · rw [if_pos f] at h
      exact b_t f h
    · have eb := n_cl (show b < 2 ^ 31 by omega)
      rw [b2] at h ⊢
      rw [if_neg (n_m1_ne (by omega)), eb] at h
      exact b_f (n_m1_ne (by omega)) (c_two h0 hP6 hpP b1 hr h)
  · rw [if_neg z1] at h
    refine b_f z1 ?_
    by_cases z2 : nI p = wl g c (pts (dF D) res) 1 0
    · rw [if_pos z2] at h
      exact b_t z2 (c_two h0 hP6 hpP a1 hr h)
    · rw [if_neg z2] at h
      exact b_f z2 h
theorem m_share {D : Dt} {t : tSt} {P : Nat} {res : List Nat} {g : Nat → Nat} {c p : Nat} {post : Int32 → tSt → Prop} (hM : MD D t P) (hp : MWk D t res g) (hr : rkOK (t 12) P) (hc6 : c < 6) (hc : c ∈ res) (hpP : p < P) (h : post (shV (t 17 (8 * c + 7)) (t 10 1) (t 12) (wl g c (pts (dF D) res) 0 0) (wl g c (pts (dF D) res) 1 0) p) t) : wp_M_shareOf (nI c) (nI p) t post := by
  have hP6 := hM.2.2.2.1
  obtain ⟨⟨a, a1, a2⟩, f⟩ := f_ok hM hp.2.2.2.2.2.2 hc
  have ea := n_cl (show a < 2 ^ 31 by omega)
  have ep := n_cl (show p < 2 ^ 31 by omega)
  refine m_whoH (k := 0) hp hc6 (by decide) (m_whoH (k := 1) hp hc6 (by decide) (m_of (k := 7) hc6 (by decide) (m_fund hc6 (fun y5 e5 => ?_))))
  subst e5
  unfold shV at h
  rw [a2] at h ⊢
  rw [ea] at h
  have ia : vp_in (nI a) 6 := vp_in_nI (by omega) (by decide)
  by_cases z1 : nI p = nI a
  · rw [if_pos z1] at h
    have pa : p = a := (nI_eq (by omega) (by omega)).mp z1
    subst pa
    refine b_t z1 ?_
    rcases f with f | ⟨b, b1, b2⟩
    · rw [if_pos f] at h
      exact b_t f h
    · have eb := n_cl (show b < 2 ^ 31 by omega)
      rw [b2] at h ⊢
      rw [if_neg (n_m1_ne (by omega)), eb] at h
      refine b_f (n_m1_ne (by omega)) ⟨ia, vp_in_nI (by omega) (by decide), fun y6 e6 => b_t rfl ?_⟩
      rw [ea, eb] at e6
      subst e6
      exact m_two (by omega) (by omega) (rk_sum hr hpP b1).2 h
  · rw [if_neg z1] at h
    refine b_f z1 ?_
    by_cases z2 : nI p = wl g c (pts (dF D) res) 1 0
    · rw [if_pos z2] at h
      refine b_t z2 ?_
      rw [← z2]
      refine b_f (n_m1_ne (by omega)) ⟨ia, vp_in_nI (by omega) (by decide), fun y6 e6 => b_f z1 ?_⟩
      rw [ea, ep, Int32.add_comm] at e6
      subst e6
      exact m_two (by omega) (by omega) (rk_sum hr hpP a1).2 h
    · rw [if_neg z2] at h
      exact b_f z2 h
theorem rB_MDP {s t : tSt} {P : Nat} (h : rBase s t) (hP : rPip s t P) : MD (dt s) t P := by
  obtain ⟨P', hM⟩ := rB_MD h
  have e1 := hM.2.2.2.2.1
  rw [hP.2.2.1] at e1
  have := (nI_eq (by have := hP.1; omega) (by have := hM.2.2.2.1; omega)).mp e1
  rw [this]
  exact hM
theorem p_share : lwP_share (tRel PO) := by
  intro st sm x1 x2 hR
  refine c_plan hR (fun s' k4 h4 hp => ?_)
  have hB' := rBase_c (fun κ k1 k2 _ => k4 κ (by omega) k2) hR.1
  obtain ⟨-, hw, ⟨P, hP⟩, -, q5, -, -⟩ := id hB'
  have hM := rB_MDP hB' hP
  obtain ⟨p1, p2, p3, p4, p5, p6⟩ := id hP
  obtain ⟨res, g, v0, hc, -⟩ := id hp
  have hbo := MD_bOK hM
  obtain ⟨o1, o2, o3, o4⟩ := pl_ok hbo (PCk_acc hc) hc.2.1
  have rel0 : tRel PO s' sm := rel_of hR.1 k4 h4 hp (fun _ _ _ _ _ _ _ _ _ _ _ => rfl)
  rcases q_ix x1 with hx | ⟨c, hc6, rfl⟩
  · refine c_phas0 hx (b_t rfl ?_)
    exact m_isCo hx (b_t rfl ⟨rfl, rel0⟩)
  rcases q5 c hc6 with ⟨h0, g0⟩ | ⟨h0, h2, h3⟩
  · have no : ¬ c ∈ res := fun z => by
      have e1 : s' 13 c = 1 := (o2 c z).2.1
      rw [h0] at e1
      exact absurd e1 (by decide)
    refine c_phas hc hc6 (fun z => absurd z no) (fun _ => b_t rfl ?_)
    exact m_isC0 hc6 g0 (b_t rfl ⟨rfl, rel0⟩)
  have g0 : ¬ sm 17 (8 * c) = -1 := by
    have e : s' (14 + c) 0 = sm 17 (8 * c) := h2 0 (by decide)
    rw [← e]
    exact call0_ne h3
  have e7 : s' (14 + c) 7 = sm 17 (8 * c + 7) := h2 7 (by decide)
  have e1 : s' 7 1 = sm 10 1 := hw.1 1 (by decide)
  refine c_phas hc hc6 (fun z => b_f (by decide) ?_) (fun z => b_t rfl (m_isC1 hc6 g0 (b_f (by decide) ?_)))
  · by_cases y : x2 = -1
    · refine b_t y (c_fund hc6 (m_isC1 hc6 g0 (b_f (by decide) (b_t y (m_works hM (fun t' res' g' w1 m1 => m_has (by omega) ?_))))))
      obtain ⟨e, -⟩ := pl_uniq hc m1
      subst e
      rw [if_pos (show bt (t' 7 0) c = true from (m1.2.2.2.1 c (by omega)).mpr z)]
      refine b_f (by decide) (b_t y (m_fund hc6 ⟨?_, rel_of hR.1 k4 h4 hp (wS_uS w1)⟩))
      rw [e7, e1, w1 17 (by decide) (by decide) (by decide) (by decide) (by decide) (by decide) (by decide) (by decide), w1 10 (by decide) (by decide) (by decide) (by decide) (by decide) (by decide) (by decide) (by decide)]
    · refine b_f y ?_
      rcases p_ix x2 p1 with hx | ⟨i, hi, rfl⟩
      · exact c_isP0 p2 p1 hx (b_t rfl (m_isC1 hc6 g0 (b_f (by decide) (b_f y (m_isP0 p3 p1 hx (b_t rfl ⟨rfl, rel0⟩))))))
      · refine c_isP1 p2 p1 hi (b_f (by decide) (c_share hM hc p2 (fun i hi => (p4 i hi).2.2) z hi ?_))
        refine m_isC1 hc6 g0 (b_f (by decide) (b_f y (m_isP1 p3 p1 hi (b_f (by decide) (m_works hM (fun t' res' g' w1 m1 => m_has (by omega) ?_))))))
        obtain ⟨e, eg⟩ := pl_uniq hc m1
        subst e
        rw [if_pos (show bt (t' 7 0) c = true from (m1.2.2.2.1 c (by omega)).mpr z)]
        have w12 : t' 12 = sm 12 := w1 12 (by decide) (by decide) (by decide) (by decide) (by decide) (by decide) (by decide) (by decide)
        have w17 : t' 17 = sm 17 := w1 17 (by decide) (by decide) (by decide) (by decide) (by decide) (by decide) (by decide) (by decide)
        have w10 : t' 10 = sm 10 := w1 10 (by decide) (by decide) (by decide) (by decide) (by decide) (by decide) (by decide) (by decide)
        have hr' : rkOK (t' 12) P := fun i hi => by
          obtain ⟨r, r1, r2, r3⟩ := (p4 i hi).2.2
          exact ⟨r, r1, r2, by rw [w12, ← (p4 i hi).1]; exact r3⟩
        refine b_f (by decide) (b_f y (m_share (wSame_MD w1 hM) m1 hr' hc6 z hi ⟨?_, rel_of hR.1 k4 h4 hp (wS_uS w1)⟩))
        rw [w17, w10, w12, ← e7, ← e1, wl_congr (g := g) (g' := g') _ 0 0 (fun i _ h2 => eg i (by omega)), wl_congr (g := g) (g' := g') _ 1 0 (fun i _ h2 => eg i (by omega))]
        exact shV_congr p1 (f_ok hM hc.2.2.2.2.2.2.2 z) hi (fun i hi => (p4 i hi).1)
  · have fin : ∀ x2, wp_M_share_21 (fun r1 sm1 => (-1 : Int32) = r1 ∧ tRel PO s' sm1) (nI c) x2 sm := fun x2 => by
      refine m_works hM (fun t' res' g' w1 m1 => m_has (by omega) ?_)
      obtain ⟨e, -⟩ := pl_uniq hc m1
      subst e
      rw [if_neg (show ¬ bt (t' 7 0) c = true from fun w => z ((m1.2.2.2.1 c (by omega)).mp w))]
      exact b_t rfl ⟨rfl, rel_of hR.1 k4 h4 hp (wS_uS w1)⟩
    by_cases y : x2 = -1
    · exact b_t y (fin x2)
    · refine b_f y ?_
      rcases p_ix x2 p1 with hx | ⟨i, hi, rfl⟩
      · exact m_isP0 p3 p1 hx (b_t rfl ⟨rfl, rel0⟩)
      · exact m_isP1 p3 p1 hi (b_f (by decide) (fin _))
