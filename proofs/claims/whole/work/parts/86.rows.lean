/-! the reference: the calls in their order, their parts -/
def MD (D : Dt) (t : tSt) (P : Nat) : Prop := (∀ c, c < 6 → (dT D c = 0 ∧ t 17 (8 * c) = -1) ∨ (dT D c = 1 ∧ (∀ k, k < 8 → t 17 (8 * c + k) = dF D c k) ∧ rCallOK (dF D c))) ∧ (dw D ≤ 20 ∧ t 10 0 = nI (dw D)) ∧ (∀ i, i < 5 → t 16 i = dC D i ∧ ∃ n : Nat, n ≤ 3 ∧ dC D i = nI n) ∧ P ≤ 6 ∧ t 2 0 = nI P ∧ (∀ p, p < P → t 13 p = dL D p) ∧ (∀ p, p < 6 → t 14 p = dH D p) ∧ ∀ p, P ≤ p → p < 6 → dL D p = 0
theorem MD_of {D : Dt} {t t' : tSt} {P : Nat} (h : MD D t P) (h17 : t' 17 = t 17) (h10 : t' 10 = t 10) (h16 : t' 16 = t 16) (h2 : t' 2 = t 2) (h13 : t' 13 = t 13) (h14 : t' 14 = t 14) : MD D t' P := by unfold MD at h ⊢; rw [h17, h10, h16, h2, h13, h14]; exact h
theorem MD_bOK {D : Dt} {t : tSt} {P : Nat} (h : MD D t P) : bOK D := by
  refine ⟨fun c hc => ?_, fun i hi => (h.2.2.1 i hi).2, h.2.1.1⟩
  rcases h.1 c hc with z | z
  · exact Or.inl z.1
  · exact Or.inr ⟨z.1, z.2.2⟩
theorem rB_MD {s t : tSt} (h : rBase s t) : ∃ P, MD (dt s) t P := by
  obtain ⟨-, hW, ⟨P, hP⟩, hPc, hC, -, -⟩ := h
  obtain ⟨hw0, w, f, p, g, w1, w2, w3, w4, e0, e1, e2, e3⟩ := hW
  have ew : dw (dt s) = w := by show (s 7 0).toNatClampNeg = w; rw [e0]; exact n_cl (by omega)
  refine ⟨P, fun c hc => ?_, ⟨by rw [ew]; exact w1, by rw [ew, ← hw0 0 (by decide)]; exact e0⟩, fun i hi => ⟨(hPc i hi).1.symm, (hPc i hi).2⟩, hP.1, hP.2.2.1, fun i hi => (hP.2.2.2.1 i hi).2.1.symm, fun i hi => (hP.2.2.2.2.1 i hi).1.symm, fun i h1 h2 => (hP.2.2.2.2.2 i h1 h2).1⟩
  have e : dF (dt s) c = s (14 + c) := fc_at hc
  rcases hC c hc with z | z
  · exact Or.inl z
  · refine Or.inr ⟨z.1, fun k hk => ?_, by rw [e]; exact z.2.2⟩
    rw [e]
    exact (z.2.1 k hk).symm
def SR (st0 st : tSt) (l : List Nat) : Prop := (∀ κ, κ ≠ 6 → κ ≠ 22 → st κ = st0 κ) ∧ st 6 0 = nI l.length ∧ ∀ j, j < l.length → st 22 j = nI (lAt l j)
theorem row_len (D : Dt) : (row D).length ≤ 6 := len6 (row_nodup D) (fun c hc => (row_mem hc).1)
theorem m_sorts14 {D : Dt} {st0 : tSt} {P o : Nat} {rest : List Nat} {post : tSt → Prop} {k67 : Int32 → tSt → Prop} (hM : MD D st0 P) (hK : ∀ (st : tSt) (pre : List Nat), row D = pre ++ rest → SR st0 st pre → k67 (nI o) st) : ∀ (m c : Nat) (st : tSt) (pre : List Nat), c + m = 6 → row D = pre ++ (rC D o m c ++ rest) → SR st0 st pre → wp_M_sorts_14 post k67 (m + 1) (nI o) (nI c) st
  | 0, c, st, pre, hc, hrow, hS => by
    have e : c = 6 := by omega
    subst e
    exact b_t (by decide) (hK st pre hrow hS)
  | m + 1, c, st, pre, hc, hrow, hS => by
    have e17 : st 17 = st0 17 := hS.1 17 (by decide) (by decide)
    refine b_f (nI_ge (a := c) (b := 6) (by omega) (by decide)) ?_
    have skip : isO D o c = false → ∀ y : Int32, y = nI c + 1 → wp_M_sorts_14 post k67 (m + 1) (nI o) y st := by
      intro zO y e
      rw [nI_1] at e
      subst e
      have erC : rC D o (m + 1) c = rC D o m (c + 1) := by show (if isO D o c = true then _ else _) = _; rw [zO]; rfl
      rw [erC] at hrow
      exact m_sorts14 hM hK m (c + 1) st pre (by omega) hrow hS
    rcases hM.1 c (by omega) with z | z
    · refine m_isC0 (by omega) (by rw [e17]; exact z.2) (b_t rfl (skip ?_))
      unfold isO
      rw [z.1]
      rfl
    · have h0 : st0 17 (8 * c) = dF D c 0 := z.2.1 0 (by decide)
      refine m_isC1 (by omega) (by rw [e17, h0]; exact call0_ne z.2.2) (b_f (by decide) (m_of (k := 0) (by omega) (by decide) ?_))
      have h0' : st 17 (8 * c + 0) = dF D c 0 := by rw [e17]; exact h0
      rw [h0']
      by_cases g : dF D c 0 = nI o
      · have zO : isO D o c = true := by
          unfold isO
          rw [decide_eq_true z.1, decide_eq_true g]
          rfl
        have erC : rC D o (m + 1) c = c :: rC D o m (c + 1) := by show (if isO D o c = true then _ else _) = _; rw [if_pos zO]
        rw [erC] at hrow
        have hl : pre.length < 6 := by
          have := row_len D
          rw [hrow, List.length_append, List.length_append, List.length_cons] at this
          omega
        have e6 := hS.2.1
        refine b_t g ?_
        rw [e6]
        refine ⟨vp_in_nI hl (by decide), fun s5 e5 s6 e6' y e => ?_⟩
        rw [nI_1] at e
        subst e
        rw [n_cl (show pre.length < 2 ^ 31 by omega)] at e5
        have q6 : s5 6 0 = nI pre.length := by rw [e5, tUp_ne _ _ _ (by decide)]; exact e6
        rw [q6, nI_1] at e6'
        refine m_sorts14 hM hK m (c + 1) s6 (pre ++ [c]) (by omega) (by rw [hrow]; simp) ⟨fun κ k1 k2 => by rw [e6', tUp_ne _ _ _ k1, e5, tUp_ne _ _ _ k2]; exact hS.1 κ k1 k2, by rw [e6', List.length_append]; simp [tUp_ap], fun j hj => ?_⟩
        rw [List.length_append] at hj
        have hj' : j < pre.length + 1 := hj
        rw [e6', tUp_ne _ _ _ (by decide), e5]
        by_cases w : j = pre.length
        · rw [w, lAt_end]
          simp [tUp_ap]
        · rw [lAt_l (by omega)]
          simp only [tUp_ap, w, and_false, if_false]
          exact hS.2.2 j (by omega)
      · refine b_f g (skip ?_)
        unfold isO
        rw [decide_eq_false g, Bool.and_false]
theorem m_sorts7 {D : Dt} {st0 : tSt} {P : Nat} {post : tSt → Prop} (hM : MD D st0 P) (hQ : ∀ st : tSt, SR st0 st (row D) → post st) : ∀ (m o : Nat) (st : tSt) (pre : List Nat), o + m = 4 → row D = pre ++ rO D m o → SR st0 st pre → wp_M_sorts_7 post (m + 1) (nI o) st
  | 0, o, st, pre, ho, hrow, hS => by
    have e : o = 4 := by omega
    subst e
    refine b_t (by decide) (hQ st ?_)
    rw [hrow]
    show SR st0 st (pre ++ [])
    rw [List.append_nil]
    exact hS
  | m + 1, o, st, pre, ho, hrow, hS => by
    refine b_f (nI_ge (a := o) (b := 4) (by omega) (by decide)) ⟨7, m_sorts14 (rest := rO D m (o + 1)) hM (fun st' pre' b1 b2 y e => ?_) 6 0 st pre rfl hrow hS⟩
    rw [nI_1] at e
    subst e
    exact m_sorts7 hM hQ m (o + 1) st' pre' (by omega) b1 b2
theorem m_sorts {D : Dt} {t : tSt} {P : Nat} {post : tSt → Prop} (hM : MD D t P) (hQ : ∀ st : tSt, SR t st (row D) → post st) : wp_M_sorts t post := by
  intro s1 e1
  refine ⟨5, m_sorts7 (st0 := s1) (MD_of hM (by rw [e1, tUp_ne _ _ _ (by decide)]) (by rw [e1, tUp_ne _ _ _ (by decide)]) (by rw [e1, tUp_ne _ _ _ (by decide)]) (by rw [e1, tUp_ne _ _ _ (by decide)]) (by rw [e1, tUp_ne _ _ _ (by decide)]) (by rw [e1, tUp_ne _ _ _ (by decide)])) (fun st h => hQ st ⟨fun κ k1 k2 => by rw [h.1 κ k1 k2, e1, tUp_ne _ _ _ k1], h.2⟩) 4 0 s1 [] rfl rfl ⟨fun _ _ _ => rfl, by rw [e1]; simp [tUp_ap]; rfl, fun j hj => absurd hj (by show ¬ j < 0; omega)⟩⟩
/-! parts -/
def mLS (st0 st : tSt) (ps : List (Nat × Nat)) : Prop := (∀ κ, κ ≠ 8 → κ ≠ 23 → κ ≠ 24 → st κ = st0 κ) ∧ st 8 0 = nI ps.length ∧ ∀ j, j < ps.length → st 23 j = nI (pAt ps j).1 ∧ st 24 j = nI (pAt ps j).2
theorem m_addP {st0 st : tSt} {ps : List (Nat × Nat)} {c k x : Nat} {Q : tSt → Prop} (hS : mLS st0 st ps) (hl : ps.length < 12) (hc : c < 6) (hk : k < 8) (hx : st0 17 (8 * c + k) = nI x) (hQ : ∀ st9 : tSt, mLS st0 st9 (ps ++ [(c, x)]) → Q st9) : vp_in (st 8 0) 12 ∧ (∀ st5 : tSt, st5 = tUp st 23 (st 8 0).toNatClampNeg (nI c) → wp_M_of (nI c) (nI k) st5 (fun r7 st6 => vp_in (st5 8 0) 12 ∧ (∀ st8 : tSt, st8 = tUp st6 24 (st5 8 0).toNatClampNeg r7 → (∀ st9 : tSt, st9 = tUp st8 8 0 ((st8 8 0) + (1 : Int32)) → Q st9)))) := by
  have e8 := hS.2.1
  have el := n_cl (show ps.length < 2 ^ 31 by omega)
  rw [e8, el]
  refine ⟨vp_in_nI hl (by decide), fun s5 e5 => m_of hc hk ?_⟩
  have q8 : s5 8 0 = nI ps.length := by rw [e5, tUp_ne _ _ _ (by decide)]; exact e8
  have q17 : s5 17 (8 * c + k) = nI x := by rw [e5, tUp_ne _ _ _ (by decide), hS.1 17 (by decide) (by decide) (by decide)]; exact hx
  rw [q8, el, q17]
  refine ⟨vp_in_nI hl (by decide), fun s8 e8' s9 e9 => hQ s9 ?_⟩
  have r8 : s8 8 0 = nI ps.length := by rw [e8', tUp_ne _ _ _ (by decide)]; exact q8
  rw [r8, nI_1] at e9
  refine ⟨fun κ k1 k2 k3 => by rw [e9, tUp_ne _ _ _ k1, e8', tUp_ne _ _ _ k3, e5, tUp_ne _ _ _ k2]; exact hS.1 κ k1 k2 k3, by rw [e9, List.length_append]; simp [tUp_ap], fun j hj => ?_⟩
  rw [List.length_append] at hj
  have hj' : j < ps.length + 1 := hj
  have g23 : s9 23 j = if j = ps.length then nI c else st 23 j := by
    rw [e9, tUp_ne _ _ _ (by decide), e8', tUp_ne _ _ _ (by decide), e5]
    by_cases z : j = ps.length <;> simp [tUp_ap, z]
  have g24 : s9 24 j = if j = ps.length then nI x else st 24 j := by
    rw [e9, tUp_ne _ _ _ (by decide), e8']
    by_cases z : j = ps.length
    · simp [tUp_ap, z]
    · simp [tUp_ap, z, e5]
  rw [g23, g24]
  by_cases z : j = ps.length
  · rw [if_pos z, if_pos z, pAt_r (by omega), z]
    simp [pAt]
  · rw [if_neg z, if_neg z, pAt_l (by omega)]
    exact hS.2.2 j (by omega)
theorem m_lists7 {D : Dt} {st0 : tSt} {P : Nat} {R : List Nat} {post : tSt → Prop} (hM : MD D st0 P) (hR : ∀ c, c ∈ R → c < 6 ∧ dT D c = 1) (hR6 : R.length ≤ 6) (h6 : st0 6 0 = nI R.length) (h22 : ∀ j, j < R.length → st0 22 j = nI (lAt R j)) (hQ : ∀ st : tSt, mLS st0 st (pts (dF D) (R.filter (fun c => bt (st0 7 0) c))) → post st) : ∀ (rem pre : List Nat) (st : tSt), R = pre ++ rem → mLS st0 st (pts (dF D) (pre.filter (fun c => bt (st0 7 0) c))) → wp_M_lists_7 post (rem.length + 1) (nI pre.length) st
  | [], pre, st, hr, hS => by
    have e : R = pre := by rw [hr, List.append_nil]
    refine b_t (by rw [hS.1 6 (by decide) (by decide) (by decide), h6, e]; exact Int32.le_refl _) (hQ st (by rw [e]; exact hS))
  | c :: rem, pre, st, hr, hS => by
    have hl : pre.length + (rem.length + 1) = R.length := by rw [hr, List.length_append, List.length_cons]
    have hcR : c ∈ R := by rw [hr]; simp
    have hc := hR c hcR
    have e6 : st 6 0 = nI R.length := by rw [hS.1 6 (by decide) (by decide) (by decide)]; exact h6
    have e22 : st 22 pre.length = nI c := by rw [hS.1 22 (by decide) (by decide) (by decide), h22 pre.length (by omega), hr, lAt_end]
    refine b_f (by rw [e6]; exact nI_ge (by omega) (by omega)) ⟨vp_in_nI (by omega) (by decide), fun y2 e2 => ?_⟩
    rw [n_cl (show pre.length < 2 ^ 31 by omega), e22] at e2
    subst e2
    have hr' : R = (pre ++ [c]) ++ rem := by rw [hr]; simp
    have nxt : ∀ st' : tSt, mLS st0 st' (pts (dF D) ((pre ++ [c]).filter (fun c => bt (st0 7 0) c))) → wp_M_lists_98 post (wp_M_lists_7 post (rem.length + 1)) (nI pre.length) st' := by
      intro st' hS' y e
      rw [nI_1] at e
      subst e
      have := m_lists7 hM hR hR6 h6 h22 hQ rem (pre ++ [c]) st' hr' hS'
      rw [List.length_append] at this
      exact this
    have ff : (pre ++ [c]).filter (fun c => bt (st0 7 0) c) = pre.filter (fun c => bt (st0 7 0) c) ++ (if bt (st0 7 0) c = true then [c] else []) := by
      rw [List.filter_append, List.filter_cons, List.filter_nil]
    rw [ff] at nxt
    have e7 : st 7 0 = st0 7 0 := by rw [hS.1 7 (by decide) (by decide) (by decide)]
    refine ⟨3, b_f (by decide) (m_has (by omega) ?_)⟩
    rw [e7]
    by_cases g : bt (st0 7 0) c = true
    case neg =>
      rw [if_neg g] at nxt ⊢
      rw [List.append_nil] at nxt
      exact b_t rfl (nxt st hS)
    rw [if_pos g] at nxt ⊢
    rw [pts_app] at nxt
    rcases hM.1 c hc.1 with z | ⟨z1, z2, z3⟩
    · rw [z.1] at hc; exact absurd hc.2 (by decide)
    have hlen : (pts (dF D) (pre.filter (fun c => bt (st0 7 0) c))).length + 2 ≤ 12 := by
      have a := pts_len (dF D) (pre.filter (fun c => bt (st0 7 0) c))
      have b := List.length_filter_le (fun c => bt (st0 7 0) c) pre
      omega
    obtain ⟨t1, t2, t3⟩ := two_ok z3
    have f5 : st0 17 (8 * c + 5) = nI (dF D c 5).toNatClampNeg := by rw [z2 5 (by decide)]; exact t2
    refine b_f (by decide) (m_of (k := 5) hc.1 (by decide) ?_)
    rw [hS.1 17 (by decide) (by decide) (by decide), f5]
    refine b_f (n_m1_ne (by omega)) (m_addP (k := 5) hS (by omega) hc.1 (by decide) f5 (fun s9 hS9 y e => ?_))
    have e' : y = nI 1 := e
    subst e'
    have e79 : s9 7 0 = st0 7 0 := by rw [hS9.1 7 (by decide) (by decide) (by decide)]
    refine b_f (by decide) (m_has (by omega) ?_)
    rw [e79, if_pos g]
    refine b_f (by decide) (m_of (k := 6) hc.1 (by decide) ?_)
    rw [hS9.1 17 (by decide) (by decide) (by decide), z2 6 (by decide)]
    have fin : ∀ s' : tSt, mLS st0 s' (pts (dF D) (pre.filter (fun c => bt (st0 7 0) c)) ++ ptsOf (dF D) c) → ∀ y : Int32, y = nI 1 + 1 → wp_M_lists_24 post (wp_M_lists_98 post (wp_M_lists_7 post (rem.length + 1))) 1 (nI pre.length) (nI c) y s' := by
      intro s' hS' y e
      subst e
      exact b_t (by decide) (nxt s' hS')
    rcases t3 with t3 | ⟨t3, t4, t5⟩
    · refine b_t t3 (fin s9 ?_)
      unfold ptsOf
      rw [if_pos t3]
      exact hS9
    · refine b_f t5 (m_addP (k := 6) hS9 (by rw [List.length_append]; simp; omega) hc.1 (by decide) (by rw [z2 6 (by decide)]; exact t4) (fun s10 hS10 => fin s10 ?_))
      unfold ptsOf
      rw [if_neg t5]
      rw [List.append_assoc] at hS10
      exact hS10
theorem m_lists {D : Dt} {t : tSt} {P : Nat} {R : List Nat} {post : tSt → Prop} (hM : MD D t P) (hR : ∀ c, c ∈ R → c < 6 ∧ dT D c = 1) (hR6 : R.length ≤ 6) (h6 : t 6 0 = nI R.length) (h22 : ∀ j, j < R.length → t 22 j = nI (lAt R j)) (hQ : ∀ st : tSt, mLS t st (pts (dF D) (R.filter (fun c => bt (t 7 0) c))) → post st) : wp_M_lists t post := by
  intro s1 e1
  have so : ∀ κ, κ ≠ 8 → s1 κ = t κ := fun κ hκ => by rw [e1, tUp_ne _ _ _ hκ]
  have e7 : s1 7 0 = t 7 0 := by rw [so 7 (by decide)]
  refine ⟨R.length + 1, m_lists7 (st0 := s1) (MD_of hM (so 17 (by decide)) (so 10 (by decide)) (so 16 (by decide)) (so 2 (by decide)) (so 13 (by decide)) (so 14 (by decide))) hR hR6 (by rw [so 6 (by decide)]; exact h6) (fun j hj => by rw [so 22 (by decide)]; exact h22 j hj) (fun st h => hQ st ?_) R [] s1 rfl ⟨fun _ _ _ _ => rfl, by rw [e1]; simp [tUp_ap]; rfl, fun j hj => absurd hj (by show ¬ j < 0; omega)⟩⟩
  rw [e7] at h
  exact ⟨fun κ k1 k2 k3 => by rw [h.1 κ k1 k2 k3, so κ k1], h.2⟩
