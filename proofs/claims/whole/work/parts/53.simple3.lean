/-! calls: isCall, off, about -/
theorem n_8 {c : Nat} (h : c < 6) : (8 : Int32) * nI c = nI (8 * c) := by
  have := pk_mul 8 c
  exact this
theorem n_8k {c k : Nat} (h : c < 6) (hk : k < 8) : (8 : Int32) * nI c + nI k = nI (8 * c + k) := by
  rw [n_8 h]
  exact nI_add _ _
theorem call0_ne {f : Nat → Int32} (h : rCallOK f) : ¬ f 0 = -1 := by
  obtain ⟨o, fr, le, pl, oc, on, fe, h1, -, -, -, -, -, -, -, e, -⟩ := h
  rw [e]
  exact n_m1_ne (by omega)
theorem q_ix (x : Int32) : (x < 0 ∨ (5 : Int32) < x) ∨ ∃ c : Nat, c < 6 ∧ x = nI c := by
  rcases w_dec x 0 5 with h | ⟨h1, h2⟩
  · exact Or.inl h
  · obtain ⟨j, -, hj, e⟩ := n_btw (a := 0) (b := 5) (by decide) (by decide) h1 h2
    exact Or.inr ⟨j, by omega, e⟩
theorem c_in5 {c : Nat} (h : c < 6) : ¬ nI c < 0 ∧ ¬ (5 : Int32) < nI c := ⟨nI_pos (by omega), nI_nlt (a := 5) (b := c) (by omega) (by omega)⟩
theorem c_isCo {st : tSt} {x : Int32} {post : Int32 → tSt → Prop} (hx : x < 0 ∨ (5 : Int32) < x) (h : post 0 st) : wp_T_isCall x st post := c_w0 hx (b_t rfl h)
theorem m_isCo {st : tSt} {x : Int32} {post : Int32 → tSt → Prop} (hx : x < 0 ∨ (5 : Int32) < x) (h : post 0 st) : wp_M_isCall x st post := m_w0 hx (b_t rfl h)
theorem c_isC0 {st : tSt} {c : Nat} {post : Int32 → tSt → Prop} (hc : c < 6) (h0 : st 13 c = 0) (h : post 0 st) : wp_T_isCall (nI c) st post := by
  refine c_w1 (c_in5 hc).1 (c_in5 hc).2 (b_f (by decide) ⟨vp_in_nI (by omega) (by decide), ?_⟩)
  rw [n_cl (show c < 2 ^ 31 by omega)]
  exact b_t h0 h
theorem c_isC1 {st : tSt} {c : Nat} {post : Int32 → tSt → Prop} (hc : c < 6) (h0 : st 13 c = 1) (h : post 1 st) : wp_T_isCall (nI c) st post := by
  refine c_w1 (c_in5 hc).1 (c_in5 hc).2 (b_f (by decide) ⟨vp_in_nI (by omega) (by decide), ?_⟩)
  rw [n_cl (show c < 2 ^ 31 by omega)]
  exact b_f (by rw [h0]; decide) h
theorem m_isC0 {st : tSt} {c : Nat} {post : Int32 → tSt → Prop} (hc : c < 6) (h0 : st 17 (8 * c) = -1) (h : post 0 st) : wp_M_isCall (nI c) st post := by
  refine m_w1 (c_in5 hc).1 (c_in5 hc).2 (b_f (by decide) ?_)
  rw [n_8 hc, n_cl (show 8 * c < 2 ^ 31 by omega)]
  exact ⟨vp_in_nI (by omega) (by decide), b_t h0 h⟩
theorem m_isC1 {st : tSt} {c : Nat} {post : Int32 → tSt → Prop} (hc : c < 6) (h0 : ¬ st 17 (8 * c) = -1) (h : post 1 st) : wp_M_isCall (nI c) st post := by
  refine m_w1 (c_in5 hc).1 (c_in5 hc).2 (b_f (by decide) ?_)
  rw [n_8 hc, n_cl (show 8 * c < 2 ^ 31 by omega)]
  exact ⟨vp_in_nI (by omega) (by decide), b_f h0 h⟩
theorem m_of {st : tSt} {c k : Nat} {post : Int32 → tSt → Prop} (hc : c < 6) (hk : k < 8) (h : post (st 17 (8 * c + k)) st) : wp_M_of (nI c) (nI k) st post := by
  unfold wp_M_of
  rw [n_8k hc hk, n_cl (show 8 * c + k < 2 ^ 31 by omega)]
  exact ⟨vp_in_nI (by omega) (by decide), h⟩
theorem c_fact {st : tSt} {c k : Nat} {post : Int32 → tSt → Prop} (hk : k < 8) (h : post (st (14 + c) k) st) : wp_Call_fact c (nI k) st post := by
  refine c_w1 (nI_pos (by omega)) (nI_nlt (a := 7) (b := k) (by omega) (by omega)) (b_f (by decide) ⟨vp_in_nI (by omega) (by decide), ?_⟩)
  rw [n_cl (show k < 2 ^ 31 by omega)]
  exact h
theorem c_num {st : tSt} {k : Nat} {post : Int32 → tSt → Prop} (hk : k < 4) (h : post (st 7 k) st) : wp_TownWord_number (nI k) st post := by
  refine c_w1 (nI_pos (by omega)) (nI_nlt (a := 3) (b := k) (by omega) (by omega)) (b_f (by decide) ⟨vp_in_nI (by omega) (by decide), ?_⟩)
  rw [n_cl (show k < 2 ^ 31 by omega)]
  exact h
/-- a call's first row, on both sides -/
theorem call_there {s t : tSt} {c : Nat} (h : rCall1 s t c) : (s 13 c = 0 ∧ t 17 (8 * c) = -1) ∨ (s 13 c = 1 ∧ ¬ t 17 (8 * c) = -1) := by
  rcases h with h | ⟨h1, h2, h3⟩
  · exact Or.inl h
  · refine Or.inr ⟨h1, ?_⟩
    have e : s (14 + c) 0 = t 17 (8 * c) := h2 0 (by decide)
    rw [← e]
    exact call0_ne h3
theorem p_off (PO : tSt → Prop) : lwP_off (tRel PO) := by
  intro st sm x1 hR
  obtain ⟨hB, hpl⟩ := id hR
  obtain ⟨q1, q2, ⟨P, q3⟩, q4, q5, ⟨T, D, q6, q7⟩, q8⟩ := id hB
  rcases q_ix x1 with hx | ⟨c, hc, rfl⟩
  · exact c_isCo hx (b_t rfl (m_isCo hx (b_t rfl ⟨rfl, hR⟩)))
  rcases call_there (q5 c hc) with ⟨h0, g0⟩ | ⟨h0, g0⟩
  · exact c_isC0 hc h0 (b_t rfl (m_isC0 hc g0 (b_t rfl ⟨rfl, hR⟩)))
  refine c_isC1 hc h0 (b_f (by decide) ⟨vp_in_nI (by omega) (by decide), fun s3 e3 s4 e4 => m_isC1 hc g0 (b_f (by decide) ?_)⟩)
  rw [n_8 hc, n_cl (show 8 * c < 2 ^ 31 by omega)]
  rw [n_cl (show c < 2 ^ 31 by omega)] at e3
  refine ⟨vp_in_nI (by omega) (by decide), fun t3 f3 => ⟨rfl, ?_⟩⟩
  subst e4; subst e3; subst f3
  refine ⟨⟨q1.of rfl rfl rfl rfl, q2.of rfl rfl, ⟨P, q3.of rfl rfl rfl rfl rfl rfl rfl rfl rfl rfl⟩, q4.of rfl rfl, fun d hd => ?_, ⟨T, D, q6.of rfl rfl rfl rfl rfl rfl rfl, q7.of rfl rfl rfl rfl rfl rfl⟩, q8⟩, Or.inl rfl⟩
  have e1 : tUp (tUp st 13 c 0) 4 0 0 13 d = if d = c then 0 else st 13 d := by simp [tUp_ap]
  have e2 : ∀ k, tUp sm 17 (8 * c) (-1) 17 k = if k = 8 * c then -1 else sm 17 k := fun k => by simp [tUp_ap]
  have e3 : tUp (tUp st 13 c 0) 4 0 0 (14 + d) = st (14 + d) := by rw [tUp_ne _ _ _ (by omega), tUp_ne _ _ _ (by omega)]
  unfold rCall1
  rw [e1, e3]
  by_cases hdc : d = c
  · rw [if_pos hdc, e2, if_pos (by rw [hdc])]
    exact Or.inl ⟨rfl, rfl⟩
  · rw [if_neg hdc, e2, if_neg (by omega)]
    rcases q5 d hd with h | ⟨h1, h2, h3⟩
    · exact Or.inl h
    · refine Or.inr ⟨h1, fun k hk => ?_, h3⟩
      rw [e2, if_neg (by omega)]
      exact h2 k hk
theorem p_about (PO : tSt → Prop) : lwP_about (tRel PO) := by
  intro st sm x1 x2 hR
  obtain ⟨hB, hpl⟩ := id hR
  have q5 := hB.2.2.2.2.1
  rcases q_ix x1 with hx | ⟨c, hc, rfl⟩
  · exact c_isCo hx (b_t rfl (m_isCo hx (b_t rfl ⟨rfl, hR⟩)))
  rcases q5 c hc with ⟨h0, g0⟩ | ⟨h0, h2, h3⟩
  · exact c_isC0 hc h0 (b_t rfl (m_isC0 hc g0 (b_t rfl ⟨rfl, hR⟩)))
  have g0 : ¬ sm 17 (8 * c) = -1 := by
    have e : st (14 + c) 0 = sm 17 (8 * c) := h2 0 (by decide)
    rw [← e]
    exact call0_ne h3
  rcases w_dec x2 0 7 with g1 | ⟨g1, g2⟩
  · exact c_isC1 hc h0 (b_f (by decide) (c_w0 g1 (b_t rfl (m_isC1 hc g0 (b_f (by decide) (m_w0 g1 (b_t rfl ⟨rfl, hR⟩)))))))
  obtain ⟨k, -, hk, rfl⟩ := n_btw (a := 0) (b := 7) (by decide) (by decide) g1 g2
  refine c_isC1 hc h0 (b_f (by decide) (c_w1 g1 g2 (b_f (by decide) ⟨vp_in_nI (by omega) (by decide), ?_⟩)))
  rw [n_cl (show c < 2 ^ 31 by omega)]
  refine c_fact (by omega) (m_isC1 hc g0 (b_f (by decide) (m_w1 g1 g2 (b_f (by decide) (m_of hc (by omega) ⟨h2 k (by omega), hR⟩)))))
