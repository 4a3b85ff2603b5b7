/-! piper, tune, off, about -/
theorem p_piper (PO : tSt → Prop) : lwP_piper (tRel PO) := by
  intro st sm x1 x2 hR
  obtain ⟨hB, hpl⟩ := id hR
  obtain ⟨q1, q2, ⟨P, q3⟩, q4, q5, ⟨T, D, q6, q7⟩, q8⟩ := id hB
  obtain ⟨p1, p2, p3, p4, p5, p6⟩ := id q3
  by_cases h6 : P = 6
  · have e6 : (6 : Int32) ≤ st 0 0 := by rw [p2, h6]; decide
    exact b_t e6 (b_t (by rw [p3, h6]; rfl) ⟨rfl, hR⟩)
  have n6 : ¬ (6 : Int32) ≤ st 0 0 := by rw [p2]; exact nI_ge (a := P) (b := 6) (by omega) (by decide)
  have m6 : ¬ sm 2 0 = 6 := by rw [p3]; exact fun h => h6 ((nI_eq (a := P) (b := 6) (by omega) (by decide)).mp h)
  refine b_f n6 ?_
  rcases w_dec x1 1 9 with h1 | ⟨h1, h2⟩
  · exact c_w0 h1 (b_t rfl (b_f m6 (m_w0 h1 (b_t rfl ⟨rfl, hR⟩))))
  rcases w_dec x2 1 31 with g1 | ⟨g1, g2⟩
  · exact c_w1 h1 h2 (b_f (by decide) (c_w0 g1 (b_t rfl (b_f m6 (m_w1 h1 h2 (b_f (by decide) (m_w0 g1 (b_t rfl ⟨rfl, hR⟩))))))))
  obtain ⟨r, hr1, hr2, rfl⟩ := n_btw (a := 1) (b := 9) (by decide) (by decide) h1 h2
  have hc : (nI P).toNatClampNeg = P := nI_clamp (by omega)
  have hin : vp_in (nI P) 6 := vp_in_nI (by omega) (by decide)
  refine c_w1 h1 h2 (b_f (by decide) (c_w1 g1 g2 (b_f (by decide) (fun y3 e3 => ?_))))
  rw [p2] at e3
  subst e3
  refine ⟨hin, fun s1 f1 s2 f2 s7 e7 s8 e8 => b_f m6 (m_w1 h1 h2 (b_f (by decide) (m_w1 g1 g2 (b_f (by decide) ?_))))⟩
  rw [hc] at f1 f2
  have z0 : sm 2 0 = nI P := p3
  refine ⟨by rw [z0]; exact hin, fun t5 k5 => ?_⟩
  rw [z0, hc] at k5
  have z1 : t5 2 0 = nI P := by rw [k5]; exact p3
  refine ⟨by rw [z1]; exact hin, fun t6 k6 t7 k7 => ?_⟩
  rw [z1, hc] at k6
  have z2 : t6 2 0 = nI P := by rw [k6]; exact z1
  rw [z2, nI_1] at k7
  have z3 : t7 2 0 = nI (P + 1) := by rw [k7]; simp [tUp_ap]
  refine ⟨by rw [z3]; exact (nI_pred P).symm, ?_⟩
  have y1 : s2 0 0 = nI P := by rw [f2, f1]; exact p2
  rw [y1, nI_1] at e7
  subst e8; subst e7; subst f2; subst f1; subst k7; subst k6; subst k5
  refine ⟨⟨q1.of rfl rfl rfl rfl, q2.of rfl rfl, ⟨P + 1, by omega, by simp [tUp_ap], by simp [tUp_ap], fun k hk => ?_, fun k hk => ?_, fun k hk1 hk2 => ?_⟩, q4.of rfl rfl, q5.of rfl (fun c hc => by rw [tUp_ne _ _ _ (by omega), tUp_ne _ _ _ (by omega), tUp_ne _ _ _ (by omega), tUp_ne _ _ _ (by omega)]) rfl, ⟨T, D, q6.of rfl rfl rfl rfl rfl rfl rfl, q7.of rfl rfl rfl rfl rfl rfl⟩, q8⟩, Or.inl rfl⟩
  · by_cases hk2 : k = P
    · subst hk2
      simp [tUp_ap]
      exact ⟨r, hr1, hr2, rfl⟩
    · have := p4 k (by omega)
      simp [tUp_ap, hk2]
      exact this
  · exact p5 k hk
  · have := p6 k (by omega) hk2
    have hne : k ≠ P := by omega
    simp [tUp_ap, hne]
    exact this
theorem p_tune (PO : tSt → Prop) : lwP_tune (tRel PO) := by
  intro st sm x1 x2 hR
  obtain ⟨hB, hpl⟩ := id hR
  obtain ⟨q1, q2, ⟨P, q3⟩, q4, q5, ⟨T, D, q6, q7⟩, q8⟩ := id hB
  obtain ⟨p1, p2, p3, p4, p5⟩ := id q6
  by_cases h6 : T = 10
  · have e6 : (10 : Int32) ≤ st 1 0 := by rw [p2, h6]; decide
    exact b_t e6 (b_t (by rw [p3, h6]; rfl) ⟨rfl, hR⟩)
  have n6 : ¬ (10 : Int32) ≤ st 1 0 := by rw [p2]; exact nI_ge (a := T) (b := 10) (by omega) (by decide)
  have m6 : ¬ sm 3 0 = 10 := by rw [p3]; exact fun h => h6 ((nI_eq (a := T) (b := 10) (by omega) (by decide)).mp h)
  refine b_f n6 ?_
  rcases w_dec x1 0 63 with h1 | ⟨h1, h2⟩
  · exact c_w0 h1 (b_t rfl (b_f m6 (m_w0 h1 (b_t rfl ⟨rfl, hR⟩))))
  rcases w_dec x2 0 4095 with g1 | ⟨g1, g2⟩
  · exact c_w1 h1 h2 (b_f (by decide) (c_w0 g1 (b_t rfl (b_f m6 (m_w1 h1 h2 (b_f (by decide) (m_w0 g1 (b_t rfl ⟨rfl, hR⟩))))))))
  have hc : (nI T).toNatClampNeg = T := nI_clamp (by omega)
  have hin : vp_in (nI T) 10 := vp_in_nI (by omega) (by decide)
  refine c_w1 h1 h2 (b_f (by decide) (c_w1 g1 g2 (b_f (by decide) (fun y3 e3 => ?_))))
  rw [p2] at e3
  subst e3
  refine ⟨hin, fun s1 f1 s2 f2 s7 e7 s8 e8 => b_f m6 (m_w1 h1 h2 (b_f (by decide) (m_w1 g1 g2 (b_f (by decide) ?_))))⟩
  rw [hc] at f1 f2
  refine ⟨by rw [p3]; exact hin, fun t5 k5 => ?_⟩
  rw [p3, hc] at k5
  have z1 : t5 3 0 = nI T := by rw [k5]; exact p3
  refine ⟨by rw [z1]; exact hin, fun t6 k6 => ?_⟩
  rw [z1, hc] at k6
  have z2 : t6 3 0 = nI T := by rw [k6]; exact z1
  refine ⟨by rw [z2]; exact hin, fun t7 k7 => ?_⟩
  rw [z2, hc] at k7
  have z3 : t7 3 0 = nI T := by rw [k7]; exact z2
  refine ⟨by rw [z3]; exact hin, fun t8 k8 t9 k9 => ?_⟩
  rw [z3, hc] at k8
  have z4 : t8 3 0 = nI T := by rw [k8]; exact z3
  rw [z4, nI_1] at k9
  have z5 : t9 3 0 = nI (T + 1) := by rw [k9]; simp [tUp_ap]
  refine ⟨by rw [z5]; exact (nI_pred T).symm, ?_⟩
  have y1 : s2 1 0 = nI T := by rw [f2, f1]; exact p2
  rw [y1, nI_1] at e7
  subst e8; subst e7; subst f2; subst f1; subst k9; subst k8; subst k7; subst k6; subst k5
  have hT := p5 T (Nat.le_refl T) (by omega)
  obtain ⟨d1, d2, d3, ⟨N, n1, n2, n3⟩, d5⟩ := q7
  refine ⟨⟨q1.of rfl rfl rfl rfl, q2.of rfl rfl, ⟨P, q3.of rfl rfl rfl rfl rfl rfl rfl rfl rfl rfl⟩, q4.of rfl rfl, q5.of rfl (fun c hc => by rw [tUp_ne _ _ _ (by omega), tUp_ne _ _ _ (by omega), tUp_ne _ _ _ (by omega), tUp_ne _ _ _ (by omega)]) rfl, ⟨T + 1, D, ⟨by omega, by simp [tUp_ap], by simp [tUp_ap], fun k hk => ?_, fun k hk1 hk2 => ?_⟩, d1, d2, d3, ⟨N, n1, n2, fun k hk => ?_⟩, fun i j hi hj => ?_⟩, q8⟩, Or.inl rfl⟩
  · by_cases hk2 : k = T
    · subst hk2
      simp [tUp_ap]
    · have := p4 k (by omega)
      simp [tUp_ap, hk2]
      exact this
  · have := p5 k (by omega) hk2
    have hne : k ≠ T := by omega
    simp [tUp_ap, hne]
    exact this
  · by_cases hk2 : k = T
    · subst hk2
      refine Or.inl ⟨hT.2.2, by simp [tUp_ap], by simp [tUp_ap]⟩
    · have := n3 k (by omega)
      simpa [tUp_ap, hk2] using this
  · have never : ∀ k, k < T → (st 22 k = -1 ∧ sm 21 k = 0) ∨ ∃ u h : Nat, u < 59994 ∧ 1 ≤ h ∧ h ≤ 59994 ∧ st 22 k = nI u ∧ sm 21 k = nI h := by
      intro k hk
      rcases n3 k hk with ⟨a, -, b⟩ | ⟨u, h, a, b, c, d, -, f⟩
      · exact Or.inl ⟨a, b⟩
      · exact Or.inr ⟨u, h, by omega, b, by omega, d, f⟩
    have e1 : ∀ k, tUp (tUp (tUp (tUp st 20 T x1) 21 T x2) 1 0 (nI (T + 1))) 4 0 0 22 k = st 22 k := fun k => rfl
    have e2 : ∀ k, tUp (tUp (tUp (tUp (tUp sm 18 T x1) 19 T x2) 20 T (-1)) 21 T 0) 3 0 (nI (T + 1)) 21 k = if k = T then 0 else sm 21 k := fun k => by simp [tUp_ap]
    rw [e1, e1, e2, e2]
    have m1lt : ∀ u : Nat, u < 59994 → (-1 : Int32) < nI u := by
      intro u hu
      rw [Int32.lt_iff_toInt_lt, nI_toInt (by omega)]
      have : (-1 : Int32).toInt = -1 := by decide
      omega
    have zlt : ∀ h : Nat, 1 ≤ h → h ≤ 59994 → (0 : Int32) < nI h := fun h a b => nI_lt (a := 0) (by omega) (by omega)
    by_cases hiT : i = T
    · subst hiT
      rw [if_pos rfl, hT.2.2]
      by_cases hjT : j = i
      · subst hjT
        rw [if_pos rfl, hT.2.2]
        exact ⟨fun h => absurd h (by decide), fun h => absurd h (by decide)⟩
      · rw [if_neg hjT]
        rcases never j (by omega) with ⟨a, b⟩ | ⟨u, h, a, b, c, d, f⟩
        · rw [a, b]
          exact ⟨fun h => absurd h (by decide), fun h => absurd h (by decide)⟩
        · rw [d, f]
          exact ⟨fun _ => zlt h b c, fun _ => m1lt u a⟩
    · rw [if_neg hiT]
      by_cases hjT : j = T
      · subst hjT
        rw [if_pos rfl, hT.2.2]
        rcases never i (by omega) with ⟨a, b⟩ | ⟨u, h, a, b, c, d, f⟩
        · rw [a, b]
          exact ⟨fun h => absurd h (by decide), fun h => absurd h (by decide)⟩
        · rw [d, f]
          refine ⟨fun g => absurd (m1lt u a) ?_, fun g => absurd (zlt h b c) ?_⟩
          · exact Int32.lt_asymm g
          · exact Int32.lt_asymm g
      · rw [if_neg hjT]
        exact d5 i j (by omega) (by omega)
