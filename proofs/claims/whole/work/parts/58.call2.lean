theorem p_call {PO : tSt → Prop} (hPO : ∀ s s' : tSt, (∀ k, k ≠ 24 → s' k = s k) → PO s → PO s') : lwP_call (tRel PO) := by
  intro st sm x1 x2 x3 x4 x5 x6 x7 x8 hR
  obtain ⟨hB, hpl⟩ := id hR
  obtain ⟨q1, q2, ⟨P, q3⟩, q4, q5, ⟨T, D, q6, q7⟩, q8⟩ := id hB
  intro s1 e1 s2 e2 s3 e3 s4 e4 s5 e5 s6 e6 s7 e7 s8 e8
  have hX : ∀ j, j < 8 → s8 24 j = row8 x1 x2 x3 x4 x5 x6 x7 x8 j := by
    subst e8; subst e7; subst e6; subst e5; subst e4; subst e3; subst e2; subst e1
    intro j hj
    match j, hj with
    | 0, _ => simp [tUp_ap, row8]
    | 1, _ => simp [tUp_ap, row8]
    | 2, _ => simp [tUp_ap, row8]
    | 3, _ => simp [tUp_ap, row8]
    | 4, _ => simp [tUp_ap, row8]
    | 5, _ => simp [tUp_ap, row8]
    | 6, _ => simp [tUp_ap, row8]
    | 7, _ => simp [tUp_ap, row8]
    | _ + 8, h => exact absurd h (by omega)
  have h8 : ∀ k, k ≠ 24 → s8 k = st k := by
    subst e8; subst e7; subst e6; subst e5; subst e4; subst e3; subst e2; subst e1
    intro k hk
    rw [tUp_ne _ _ _ hk, tUp_ne _ _ _ hk, tUp_ne _ _ _ hk, tUp_ne _ _ _ hk, tUp_ne _ _ _ hk, tUp_ne _ _ _ hk, tUp_ne _ _ _ hk, tUp_ne _ _ _ hk]
  clear e8 e7 e6 e5 e4 e3 e2 e1
  have hR8 : tRel PO s8 sm := by
    refine ⟨⟨q1.of (h8 _ (by decide)) (h8 _ (by decide)) rfl rfl, q2.of (h8 _ (by decide)) rfl, ⟨P, q3.of (h8 _ (by decide)) (h8 _ (by decide)) (h8 _ (by decide)) (h8 _ (by decide)) (h8 _ (by decide)) rfl rfl rfl rfl rfl⟩, q4.of (h8 _ (by decide)) rfl, q5.of (h8 _ (by decide)) (fun c hc => h8 _ (by omega)) rfl, ⟨T, D, q6.of (h8 _ (by decide)) (h8 _ (by decide)) (h8 _ (by decide)) (h8 _ (by decide)) rfl rfl rfl, q7.of (h8 _ (by decide)) (h8 _ (by decide)) rfl rfl rfl rfl⟩, by rw [h8 3 (by decide)]; exact q8⟩, ?_⟩
    rw [h8 4 (by decide)]
    rcases hpl with h | ⟨h, g⟩
    · exact Or.inl h
    · exact Or.inr ⟨h, hPO st s8 h8 g⟩
  have hok8 : rowOK (row8 x1 x2 x3 x4 x5 x6 x7 x8) ↔ ((∀ j, j < 8 → inR (s8 24 j) j) ∧ ¬ (96 : Int32) < s8 24 1 + s8 24 2) := by
    unfold rowOK
    rw [hX 1 (by decide), hX 2 (by decide)]
    refine ⟨fun h => ⟨fun j hj => by rw [hX j hj]; exact h.1 j hj, h.2⟩, fun h => ⟨fun j hj => by rw [← hX j hj]; exact h.1 j hj, h.2⟩⟩
  have e13 : ∀ c, s8 13 c = st 13 c := fun c => by rw [h8 13 (by decide)]
  rcases first_free (fun c => !decide (st 13 c = 0)) 6 with hall | ⟨c, hc, hc0, hcl⟩
  · have A : ∀ c, c < 6 → ¬ st 13 c = 0 := fun c hc h => by have := hall c hc; simp [h] at this
    refine ⟨7, c_free0 (fun c hc => by rw [e13]; exact A c hc) (b_t rfl (m_call (fun _ => ⟨rfl, hR8⟩) (fun _ => ⟨7, m_free0 (fun c hc h => ?_) ⟨rfl, hR8⟩ 6 0 rfl⟩))) 6 0 rfl⟩
    rcases call_there (q5 c hc) with ⟨g, -⟩ | ⟨-, g⟩
    · exact A c hc g
    · exact g h
  have h0 : st 13 c = 0 := by simpa using hc0
  have A : ∀ d, d < c → ¬ st 13 d = 0 := fun d hd h => by have := hcl d hd; simp [h] at this
  have m0 : sm 17 (8 * c) = -1 := by
    rcases call_there (q5 c hc) with ⟨-, g⟩ | ⟨g, -⟩
    · exact g
    · rw [h0] at g; exact absurd g (by decide)
  have mA : ∀ d, d < c → ¬ sm 17 (8 * d) = -1 := fun d hd => by
    rcases call_there (q5 d (by omega)) with ⟨g, -⟩ | ⟨-, g⟩
    · exact absurd g (A d hd)
    · exact g
  refine ⟨c + 1, c_free1 hc (by rw [e13]; exact h0) (fun d hd => by rw [e13]; exact A d hd) (b_f (n_m1_ne (by omega)) ?_) c 0 (by omega)⟩
  by_cases hrow : rowOK (row8 x1 x2 x3 x4 x5 x6 x7 x8)
  case neg => exact c_canBe0 (fun h => hrow (hok8.mpr h)) (b_t rfl (m_call (fun _ => ⟨rfl, hR8⟩) (fun h => absurd h hrow)))
  have hin8 := hok8.mp hrow
  refine c_canBe1 hin8.1 hin8.2 (b_f (by decide) ⟨vp_in_nI (by omega) (by decide), fun a1 b1 a2 b2 a3 b3 => m_call (fun h => absurd hrow h) (fun _ => ⟨c + 1, m_free1 hc m0 mA (m_116 hc (fun t' ht hk => ⟨rfl, ?_⟩)) c 0 (by omega)⟩)⟩)
  rw [n_cl (show c < 2 ^ 31 by omega)] at b1 b2
  subst b3; subst b2; subst b1
  have key : ∀ k, k ≠ 4 → k ≠ 13 → k ≠ 14 + c → tUp (tUp (tUpA s8 (14 + c) (va_cpy (s8 24) (s8 (14 + c)) 0 0 8)) 13 c 1) 4 0 0 k = s8 k := fun k a b d => by rw [tUp_ne _ _ _ a, tUp_ne _ _ _ b, tUpA_ne _ _ d]
  have key2 : ∀ k, k ≠ 4 → k ≠ 13 → k ≠ 14 + c → k ≠ 24 → tUp (tUp (tUpA s8 (14 + c) (va_cpy (s8 24) (s8 (14 + c)) 0 0 8)) 13 c 1) 4 0 0 k = st k := fun k a b d f => by rw [key k a b d, h8 k f]
  have K : ∀ k, k ≠ 4 → k ≠ 13 → (k < 14 ∨ 19 < k) → k ≠ 24 → tUp (tUp (tUpA s8 (14 + c) (va_cpy (s8 24) (s8 (14 + c)) 0 0 8)) 13 c 1) 4 0 0 k = st k := fun k a b d f => key2 k a b (by omega) f
  refine ⟨⟨q1.of (K _ (by decide) (by decide) (by decide) (by decide)) (K _ (by decide) (by decide) (by decide) (by decide)) (hk _ (by decide)) (hk _ (by decide)), q2.of (K _ (by decide) (by decide) (by decide) (by decide)) (hk _ (by decide)), ⟨P, q3.of (K _ (by decide) (by decide) (by decide) (by decide)) (K _ (by decide) (by decide) (by decide) (by decide)) (K _ (by decide) (by decide) (by decide) (by decide)) (K _ (by decide) (by decide) (by decide) (by decide)) (K _ (by decide) (by decide) (by decide) (by decide)) (hk _ (by decide)) (hk _ (by decide)) (hk _ (by decide)) (hk _ (by decide)) (hk _ (by decide))⟩, q4.of (K _ (by decide) (by decide) (by decide) (by decide)) (hk _ (by decide)), fun d hd => ?_, ⟨T, D, q6.of (K _ (by decide) (by decide) (by decide) (by decide)) (K _ (by decide) (by decide) (by decide) (by decide)) (K _ (by decide) (by decide) (by decide) (by decide)) (K _ (by decide) (by decide) (by decide) (by decide)) (hk _ (by decide)) (hk _ (by decide)) (hk _ (by decide)), q7.of (K _ (by decide) (by decide) (by decide) (by decide)) (K _ (by decide) (by decide) (by decide) (by decide)) (hk _ (by decide)) (hk _ (by decide)) (hk _ (by decide)) (hk _ (by decide))⟩, ?_⟩, Or.inl (by simp [tUp_ap])⟩
  · have e1 : tUp (tUp (tUpA s8 (14 + c) (va_cpy (s8 24) (s8 (14 + c)) 0 0 8)) 13 c 1) 4 0 0 13 d = if d = c then 1 else st 13 d := by
      rw [tUp_ne _ _ _ (by decide), tUp_ap]
      by_cases hdc : d = c
      · simp [hdc]
      · simp [hdc, tUpA_ap]
        rw [if_neg (by omega), e13]
    unfold rCall1
    rw [e1]
    by_cases hdc : d = c
    · subst hdc
      rw [if_pos rfl]
      have e2 : ∀ k, k < 8 → tUp (tUp (tUpA s8 (14 + d) (va_cpy (s8 24) (s8 (14 + d)) 0 0 8)) 13 d 1) 4 0 0 (14 + d) k = row8 x1 x2 x3 x4 x5 x6 x7 x8 k := by
        intro k hk8
        rw [tUp_ne _ _ _ (by omega), tUp_ne _ _ _ (by omega), tUpA_self]
        unfold va_cpy
        rw [if_pos ⟨Nat.zero_le k, by omega⟩]
        rw [show 0 + (k - 0) = k by omega]
        exact hX k hk8
      refine Or.inr ⟨rfl, fun k hk8 => ?_, ?_⟩
      · rw [e2 k hk8, ht, if_pos ⟨by omega, by omega⟩, show 8 * d + k - 8 * d = k by omega]
      · have hr := row_callOK hrow
        unfold rCallOK at hr ⊢
        rw [e2 0 (by decide), e2 1 (by decide), e2 2 (by decide), e2 3 (by decide), e2 4 (by decide), e2 5 (by decide), e2 6 (by decide), e2 7 (by decide)]
        exact hr
    · rw [if_neg hdc, key2 (14 + d) (by omega) (by omega) (by omega) (by omega), ht, if_neg (by omega)]
      rcases q5 d hd with h | ⟨g1, g2, g3⟩
      · exact Or.inl h
      · refine Or.inr ⟨g1, fun k hk8 => ?_, g3⟩
        rw [ht, if_neg (by omega)]
        exact g2 k hk8
  · rw [K 3 (by decide) (by decide) (by decide) (by decide), hk 4 (by decide)]
    exact q8
