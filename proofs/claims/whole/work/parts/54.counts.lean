/-! count and lasts -/
def cntb (b : Nat → Bool) : Nat → Nat
  | 0 => 0
  | k + 1 => cntb b k + (if b k then 1 else 0)
theorem cntb_le (b : Nat → Bool) : ∀ k, cntb b k ≤ k
  | 0 => Nat.le_refl 0
  | k + 1 => by
    have := cntb_le b k
    unfold cntb
    by_cases h : b k = true
    · rw [if_pos h]; omega
    · rw [if_neg h]; omega
theorem cntb_congr {b c : Nat → Bool} : ∀ k, (∀ i, i < k → b i = c i) → cntb b k = cntb c k
  | 0, _ => rfl
  | k + 1, h => by
    unfold cntb
    rw [cntb_congr k (fun i hi => h i (by omega)), h k (by omega)]
theorem c_cnt {st : tSt} {post : Int32 → tSt → Prop} (h : post (nI (cntb (fun c => !decide (st 13 c = 0)) 6)) st) : ∀ (m k : Nat), k + m = 6 → wp_T_callCount_4 post (m + 1) (nI (cntb (fun c => !decide (st 13 c = 0)) k)) (nI k) st
  | 0, k, hk => by
    have e : k = 6 := by omega
    subst e
    exact b_t (by decide) h
  | m + 1, k, hk => by
    refine b_f (nI_ge (a := k) (b := 6) (by omega) (by decide)) ⟨vp_in_nI (by omega) (by decide), ?_⟩
    rw [n_cl (show k < 2 ^ 31 by omega)]
    have ih := c_cnt h m (k + 1) (by omega)
    by_cases h0 : st 13 k = 0
    · refine b_t h0 (fun y e => ?_)
      rw [nI_1] at e
      subst e
      have e2 : cntb (fun c => !decide (st 13 c = 0)) (k + 1) = cntb (fun c => !decide (st 13 c = 0)) k := by
        show cntb _ k + (if (!decide (st 13 k = 0)) = true then 1 else 0) = _
        simp [h0]
      rw [e2] at ih
      exact ih
    · refine b_f h0 (fun y1 e1 y e => ?_)
      rw [nI_1] at e e1
      subst e; subst e1
      have e2 : cntb (fun c => !decide (st 13 c = 0)) (k + 1) = cntb (fun c => !decide (st 13 c = 0)) k + 1 := by
        show cntb _ k + (if (!decide (st 13 k = 0)) = true then 1 else 0) = _
        simp [h0]
      rw [e2] at ih
      exact ih
theorem m_cnt {st : tSt} {post : Int32 → tSt → Prop} (h : post (nI (cntb (fun c => !decide (st 17 (8 * c) = -1)) 6)) st) : ∀ (m k : Nat), k + m = 6 → wp_M_count_125 post (m + 1) (nI (cntb (fun c => !decide (st 17 (8 * c) = -1)) k)) (nI k) st
  | 0, k, hk => by
    have e : k = 6 := by omega
    subst e
    exact b_t (by decide) h
  | m + 1, k, hk => by
    refine b_f (nI_ge (a := k) (b := 6) (by omega) (by decide)) ?_
    have ih := m_cnt h m (k + 1) (by omega)
    by_cases h0 : st 17 (8 * k) = -1
    · refine m_isC0 (by omega) h0 (b_t rfl (fun y e y2 e2 => ?_))
      rw [nI_1] at e2
      have e3 : cntb (fun c => !decide (st 17 (8 * c) = -1)) (k + 1) = cntb (fun c => !decide (st 17 (8 * c) = -1)) k := by
        show cntb _ k + (if (!decide (st 17 (8 * k) = -1)) = true then 1 else 0) = _
        simp [h0]
      rw [e3] at ih
      subst e2
      rw [show y = nI (cntb (fun c => !decide (st 17 (8 * c) = -1)) k) by rw [e]; exact nI_add _ 0]
      exact ih
    · refine m_isC1 (by omega) h0 (b_f (by decide) (fun y e y2 e2 => ?_))
      rw [nI_1] at e2
      have e3 : cntb (fun c => !decide (st 17 (8 * c) = -1)) (k + 1) = cntb (fun c => !decide (st 17 (8 * c) = -1)) k + 1 := by
        show cntb _ k + (if (!decide (st 17 (8 * k) = -1)) = true then 1 else 0) = _
        simp [h0]
      rw [e3] at ih
      subst e2
      rw [show y = nI (cntb (fun c => !decide (st 17 (8 * c) = -1)) k + 1) by rw [e]; exact nI_add _ 1]
      exact ih
theorem n_sub {j : Nat} (k : Nat) (h : k ≤ j) : nI j - nI k = nI (j - k) := pk_sub h
theorem p_count (PO : tSt → Prop) : lwP_count (tRel PO) := by
  intro st sm x1 hR
  obtain ⟨hB, hpl⟩ := id hR
  obtain ⟨⟨L, l1, l2, l3, l4⟩, q2, ⟨P, q3⟩, q4, q5, ⟨T, D, q6, q7⟩, q8⟩ := id hB
  obtain ⟨t1, t2, t3, t4, t5⟩ := q6
  obtain ⟨d1, d2, d3, ⟨N, n1, n2, n3⟩, d5⟩ := q7
  rcases w_dec x1 10 13 with a0 | ⟨a1, a2⟩
  case inr =>
    obtain ⟨j, hj1, hj2, rfl⟩ := n_btw (a := 10) (b := 13) (by decide) (by decide) a1 a2
    have e : nI j - 10 = nI (j - 10) := n_sub 10 hj1
    refine c_w1 a1 a2 (b_f (by decide) ?_)
    rw [e]
    refine c_num (by omega) (m_w1 a1 a2 (b_f (by decide) ?_))
    rw [e, n_cl (show j - 10 < 2 ^ 31 by omega)]
    exact ⟨vp_in_nI (by omega) (by decide), q2.1 _ (by omega), hR⟩
  rcases w_dec x1 20 24 with b0 | ⟨b1, b2⟩
  case inr =>
    obtain ⟨j, hj1, hj2, rfl⟩ := n_btw (a := 20) (b := 24) (by decide) (by decide) b1 b2
    have e : nI j - 20 = nI (j - 20) := n_sub 20 hj1
    refine c_w0 a0 (b_t rfl (c_w1 b1 b2 (b_f (by decide) ?_)))
    rw [e, n_cl (show j - 20 < 2 ^ 31 by omega)]
    refine ⟨vp_in_nI (by omega) (by decide), m_w0 a0 (b_t rfl (m_w1 b1 b2 (b_f (by decide) ?_)))⟩
    rw [e, n_cl (show j - 20 < 2 ^ 31 by omega)]
    exact ⟨vp_in_nI (by omega) (by decide), (q4 _ (by omega)).1, hR⟩
  have eT : (29 : Int32) + sm 3 0 = nI (29 + T) := by rw [t3]; exact nI_add 29 T
  rcases w_dec x1 30 39 with c0 | ⟨c1, c2⟩
  case inr =>
    obtain ⟨j, hj1, hj2, rfl⟩ := n_btw (a := 30) (b := 39) (by decide) (by decide) c1 c2
    have e : nI j - 30 = nI (j - 30) := n_sub 30 hj1
    refine c_w0 a0 (b_t rfl (c_w0 b0 (b_t rfl (c_w1 c1 c2 (b_f (by decide) ?_)))))
    rw [e, n_cl (show j - 30 < 2 ^ 31 by omega)]
    refine ⟨vp_in_nI (by omega) (by decide), ?_⟩
    by_cases hjT : j - 30 < T
    · have mm : ∀ r : Int32, r = sm 20 (j - 30) → wp_M_count (nI j) sm (fun r1 sm1 => r = r1 ∧ tRel PO st sm1) := by
        intro r er
        refine m_w0 a0 (b_t rfl (m_w0 b0 (b_t rfl (m_w1 c1 ?_ (b_f (by decide) ?_)))))
        · rw [eT]
          exact nI_nlt (by omega) (by omega)
        · rw [e, n_cl (show j - 30 < 2 ^ 31 by omega)]
          exact ⟨vp_in_nI (by omega) (by decide), er, hR⟩
      rcases n3 _ hjT with ⟨u1, u2, u3⟩ | ⟨u, h, u1, u2, u3, u4, u5, u6⟩
      · exact b_t u1 (mm _ u2.symm)
      · refine b_f (by rw [u4]; exact n_m1_ne (by omega)) (mm _ ?_)
        rw [u4, u5]
        exact pk_div (a := u) (d := 6) (by omega) (by decide) (by decide)
    · refine b_t (t5 _ (by omega) (by omega)).2.2 (m_w0 a0 (b_t rfl (m_w0 b0 (b_t rfl (m_w0 (Or.inr ?_) (b_t rfl ?_))))))
      · rw [eT]
        exact nI_lt (by omega) (by omega)
      · have ne : ∀ k : Nat, k < 6 → ¬ nI j = nI k := fun k hk h => by
          have := (nI_eq (a := j) (b := k) (by omega) (by omega)).mp h
          omega
        exact b_f (ne 0 (by decide)) (b_f (ne 1 (by decide)) (b_f (ne 2 (by decide)) (b_f (ne 3 (by decide)) (b_f (ne 4 (by decide)) (b_f (ne 5 (by decide)) ⟨rfl, hR⟩)))))
  have c0' : x1 < 30 ∨ (29 : Int32) + sm 3 0 < x1 := by
    rcases c0 with c0 | c0
    · exact Or.inl c0
    · refine Or.inr ?_
      rw [eT]
      rw [Int32.lt_iff_toInt_lt] at c0 ⊢
      rw [nI_toInt (by omega)]
      have : (39 : Int32).toInt = 39 := by decide
      omega
  refine c_w0 a0 (b_t rfl (c_w0 b0 (b_t rfl (c_w0 c0 (b_t rfl ?_)))))
  have mm : ∀ (r : Int32), (∀ post : Int32 → tSt → Prop, (∀ z, z = r → post z sm) → ((x1 = 0 → post (sm 1 0) sm) ∧ (¬ x1 = 0 → ((x1 = 1 → wp_M_month sm (fun r8 st7 => post r8 st7)) ∧ (¬ x1 = 1 → ((x1 = 2 → post (sm 2 0) sm) ∧ (¬ x1 = 2 → ((x1 = 3 → (fun z0 z1 w => ∃ q125, wp_M_count_125 post q125 z0 z1 w) (0 : Int32) (0 : Int32) sm) ∧ (¬ x1 = 3 → ((x1 = 4 → post (sm 3 0) sm) ∧ (¬ x1 = 4 → ((x1 = 5 → post (sm 0 0) sm) ∧ (¬ x1 = 5 → post (-1 : Int32) sm))))))))))))) → wp_M_count x1 sm (fun r1 sm1 => r = r1 ∧ tRel PO st sm1) := by
    intro r h
    exact m_w0 a0 (b_t rfl (m_w0 b0 (b_t rfl (m_w0 c0' (b_t rfl (h (fun r1 sm1 => r = r1 ∧ tRel PO st sm1) (fun z ez => ⟨ez.symm, hR⟩)))))))
  by_cases x0 : x1 = 0
  · refine b_t x0 (mm _ (fun post h => b_t x0 (h _ ?_)))
    rw [d2, d3]
  refine b_f x0 ?_
  by_cases x1' : x1 = 1
  · refine b_t x1' ?_
    refine mm _ (fun post h => b_f x0 (b_t x1' (h _ ?_)))
    rw [d2, d3]
  refine b_f x1' ?_
  by_cases x2 : x1 = 2
  · refine b_t x2 (mm _ (fun post h => b_f x0 (b_f x1' (b_t x2 (h _ ?_)))))
    rw [q3.2.1, q3.2.2.1]
  refine b_f x2 ?_
  by_cases x3 : x1 = 3
  · refine b_t x3 ⟨7, ?_⟩
    refine c_cnt ?_ 6 0 rfl
    refine mm _ (fun post h => b_f x0 (b_f x1' (b_f x2 (b_t x3 ⟨7, m_cnt (h _ ?_) 6 0 rfl⟩))))
    congr 1
    refine cntb_congr 6 (fun i hi => ?_)
    rcases call_there (q5 i hi) with ⟨g1, g2⟩ | ⟨g1, g2⟩
    · simp [g1, g2]
    · simp [g1, g2]
  refine b_f x3 ?_
  by_cases x4 : x1 = 4
  · refine b_t x4 (mm _ (fun post h => b_f x0 (b_f x1' (b_f x2 (b_f x3 (b_t x4 (h _ ?_)))))))
    rw [t2, t3]
  refine b_f x4 ?_
  by_cases x5 : x1 = 5
  · refine b_t x5 (mm _ (fun post h => b_f x0 (b_f x1' (b_f x2 (b_f x3 (b_f x4 (b_t x5 (h _ ?_))))))))
    rw [l2, l3]
  refine b_f x5 (mm _ (fun post h => b_f x0 (b_f x1' (b_f x2 (b_f x3 (b_f x4 (b_f x5 (h _ rfl))))))))
