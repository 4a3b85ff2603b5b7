/-! what is kept when other keys change -/
theorem rTape.of {s t s' t' : tSt} (h : rTape s t) (h5 : s' 5 = s 5) (h6 : s' 6 = s 6) (g0 : t' 0 = t 0) (g9 : t' 9 = t 9) : rTape s' t' := by unfold rTape at h ⊢; rw [h5, h6, g0, g9]; exact h
theorem rWord.of {s t s' t' : tSt} (h : rWord s t) (h7 : s' 7 = s 7) (g10 : t' 10 = t 10) : rWord s' t' := by unfold rWord at h ⊢; rw [h7, g10]; exact h
theorem rPip.of {s t s' t' : tSt} {P : Nat} (h : rPip s t P) (h0 : s' 0 = s 0) (h9 : s' 9 = s 9) (h10 : s' 10 = s 10) (h11 : s' 11 = s 11) (h12 : s' 12 = s 12) (g2 : t' 2 = t 2) (g12 : t' 12 = t 12) (g13 : t' 13 = t 13) (g14 : t' 14 = t 14) (g15 : t' 15 = t 15) : rPip s' t' P := by unfold rPip at h ⊢; rw [h0, h9, h10, h11, h12, g2, g12, g13, g14, g15]; exact h
theorem rPieces.of {s t s' t' : tSt} (h : rPieces s t) (h23 : s' 23 = s 23) (g16 : t' 16 = t 16) : rPieces s' t' := by unfold rPieces at h ⊢; rw [h23, g16]; exact h
theorem rCalls.of {s t s' t' : tSt} (h : rCalls s t) (h13 : s' 13 = s 13) (hf : ∀ c, c < 6 → s' (14 + c) = s (14 + c)) (g17 : t' 17 = t 17) : rCalls s' t' := by
  intro c hc
  have h1 := h c hc
  unfold rCall1 at h1 ⊢
  rw [h13, hf c hc, g17]
  exact h1
theorem rTunes.of {s t s' t' : tSt} {T : Nat} (h : rTunes s t T) (h1 : s' 1 = s 1) (h20 : s' 20 = s 20) (h21 : s' 21 = s 21) (h22 : s' 22 = s 22) (g3 : t' 3 = t 3) (g18 : t' 18 = t 18) (g19 : t' 19 = t 19) : rTunes s' t' T := by unfold rTunes at h ⊢; rw [h1, h20, h21, h22, g3, g18, g19]; exact h
theorem rHeard.of {s t s' t' : tSt} {T D : Nat} (h : rHeard s t T D) (h2 : s' 2 = s 2) (h22 : s' 22 = s 22) (g1 : t' 1 = t 1) (g5 : t' 5 = t 5) (g20 : t' 20 = t 20) (g21 : t' 21 = t 21) : rHeard s' t' T D := by unfold rHeard at h ⊢; rw [h2, h22, g1, g5, g20, g21]; exact h
/-! the state of a piper -/
theorem rb_how {s t : tSt} {P i : Nat} {v : Int32} (hB : rBase s t) (hP : rPip s t P) (hi : i < P) (hv : v = 0 ∨ v = 1 ∨ v = 2) : rBase (tUp (tUp s 11 i v) 4 0 0) (tUp t 14 i v) := by
  obtain ⟨h1, h2, -, h4, h5, ⟨T, D, h6, h7⟩, h8⟩ := hB
  obtain ⟨p1, p2, p3, p4, p5, p6⟩ := hP
  refine ⟨h1.of rfl rfl rfl rfl, h2.of rfl rfl, ⟨P, p1, p2, p3, p4, fun k hk => ?_, fun k hk1 hk2 => ?_⟩, h4.of rfl rfl, h5.of rfl (fun c hc => by rw [tUp_ne _ _ _ (by omega), tUp_ne _ _ _ (by omega)]) rfl, ⟨T, D, h6.of rfl rfl rfl rfl rfl rfl rfl, h7.of rfl rfl rfl rfl rfl rfl⟩, h8⟩
  · have e1 : tUp (tUp s 11 i v) 4 0 0 11 k = if k = i then v else s 11 k := by simp [tUp_ap]
    have e2 : tUp t 14 i v 14 k = if k = i then v else t 14 k := by simp [tUp_ap]
    obtain ⟨q1, q2, q3⟩ := p5 k hk
    by_cases hki : k = i
    · rw [e1, e2, if_pos hki, if_pos hki]
      exact ⟨rfl, q2, hv⟩
    · rw [e1, e2, if_neg hki, if_neg hki]
      exact ⟨q1, q2, q3⟩
  · have e1 : tUp (tUp s 11 i v) 4 0 0 11 k = if k = i then v else s 11 k := by simp [tUp_ap]
    rw [e1, if_neg (by omega)]
    exact p6 k hk1 hk2
theorem p_old (PO : tSt → Prop) : lwP_old (tRel PO) := by
  intro st sm x1 hR
  obtain ⟨hB, hpl⟩ := id hR
  obtain ⟨P, hP⟩ := hB.2.2.1
  obtain ⟨p1, p2, p3, p4, p5, p6⟩ := id hP
  rcases p_ix x1 p1 with hx | ⟨i, hi, rfl⟩
  · exact c_isP0 p2 p1 hx (b_t rfl (m_isP0 p3 p1 hx (b_t rfl ⟨rfl, hR⟩)))
  · have hc : (nI i).toNatClampNeg = i := nI_clamp (by omega)
    have hin : vp_in (nI i) 6 := vp_in_nI (by omega) (by decide)
    have he := (p5 i (by omega)).1
    refine c_isP1 p2 p1 hi (b_f (by decide) ⟨hin, ?_⟩)
    rw [hc]
    by_cases h2 : st 11 i = 2
    · refine b_t h2 (m_isP1 p3 p1 hi (b_f (by decide) ⟨hin, ?_⟩))
      rw [hc]
      exact b_t (by rw [← he]; exact h2) ⟨rfl, hR⟩
    · refine b_f h2 ⟨hin, fun s3 e3 s4 e4 => m_isP1 p3 p1 hi (b_f (by decide) ⟨hin, ?_⟩)⟩
      rw [hc]
      refine b_f (by rw [← he]; exact h2) ⟨hin, fun t3 f3 => ⟨rfl, ?_⟩⟩
      subst e4; subst e3; subst f3
      exact ⟨rb_how hB hP hi (Or.inr (Or.inr rfl)), Or.inl rfl⟩
theorem p_ill (PO : tSt → Prop) : lwP_ill (tRel PO) := by
  intro st sm x1 x2 hx2 hR
  obtain ⟨hB, hpl⟩ := id hR
  obtain ⟨P, hP⟩ := hB.2.2.1
  obtain ⟨p1, p2, p3, p4, p5, p6⟩ := id hP
  have main : wp_T_ill_9 (fun r st1 => wp_M_ill x1 x2 sm (fun r1 sm1 => r = r1 ∧ tRel PO st1 sm1)) x1 x2 st := by
    rcases p_ix x1 p1 with hx | ⟨i, hi, rfl⟩
    · exact c_isP0 p2 p1 hx (b_t rfl (m_isP0 p3 p1 hx (b_t rfl ⟨rfl, hR⟩)))
    · have hc : (nI i).toNatClampNeg = i := nI_clamp (by omega)
      have hin : vp_in (nI i) 6 := vp_in_nI (by omega) (by decide)
      obtain ⟨he, -, hd⟩ := p5 i (by omega)
      refine c_isP1 p2 p1 hi (b_f (by decide) ⟨hin, ?_⟩)
      rw [hc]
      by_cases h2 : st 11 i = 2
      · refine b_t h2 (m_isP1 p3 p1 hi (b_f (by decide) ⟨hin, ?_⟩))
        rw [hc]
        exact b_t (by rw [← he]; exact h2) ⟨rfl, hR⟩
      · refine b_f h2 ⟨hin, ?_⟩
        have key : ∀ post : Int32 → tSt → Prop, (st 11 i = x2 → post 0 sm) → (¬ st 11 i = x2 → post 1 (tUp sm 14 i x2)) → wp_M_ill (nI i) x2 sm post := by
          intro post k0 k1
          refine m_isP1 p3 p1 hi (b_f (by decide) ⟨hin, ?_⟩)
          rw [hc]
          refine b_f (by rw [← he]; exact h2) ⟨hin, ?_⟩
          rw [← he]
          have fin : ∀ s0 : Int32, s0 = st 11 i → wp_M_ill_33 post (nI i) x2 s0 sm := by
            intro s0 e0
            by_cases hs : s0 = x2
            · exact b_t hs (k0 (by rw [← e0]; exact hs))
            · have k1' := k1 (by rw [← e0]; exact hs)
              refine b_f hs ?_
              rcases hx2 with h | h
              · refine b_t h ⟨hin, fun t1 f1 => ?_⟩
                subst f1
                rw [hc, ← h]
                exact k1'
              · refine b_f (by rw [h]; decide) ⟨hin, fun t1 f1 => ?_⟩
                subst f1
                rw [h] at k1'
                rw [hc]
                exact k1'
          by_cases h1 : st 11 i = 1
          · exact b_t h1 (fin 1 h1.symm)
          · refine b_f h1 (fin 0 ?_)
            rcases hd with h | h | h
            · exact h.symm
            · exact absurd h h1
            · exact absurd h h2
        by_cases h3 : st 11 i = x2
        · exact b_t h3 (key _ (fun _ => ⟨rfl, hR⟩) (fun n => absurd h3 n))
        · refine b_f h3 ⟨hin, fun s3 e3 s4 e4 => key _ (fun n => absurd n h3) (fun _ => ⟨rfl, ?_⟩)⟩
          subst e4; subst e3
          exact ⟨rb_how hB hP hi (by rcases hx2 with h | h <;> simp [h]), Or.inl rfl⟩
  rcases hx2 with h | h
  · subst h
    exact b_t rfl main
  · subst h
    exact b_f (by decide) main
theorem p_wages (PO : tSt → Prop) : lwP_wages (tRel PO) := by
  intro st sm x1 hR
  obtain ⟨hB, hpl⟩ := id hR
  obtain ⟨P, p1, p2, p3, p4, p5, p6⟩ := hB.2.2.1
  by_cases h0 : x1 = -1
  · exact b_t h0 (b_t h0 ⟨hB.2.2.2.2.2.2, hR⟩)
  refine b_f h0 ?_
  rcases p_ix x1 p1 with hx | ⟨i, hi, rfl⟩
  · exact c_isP0 p2 p1 hx (b_t rfl (b_f h0 (m_isP0 p3 p1 hx (b_t rfl ⟨rfl, hR⟩))))
  · have hc : (nI i).toNatClampNeg = i := nI_clamp (by omega)
    have hin : vp_in (nI i) 6 := vp_in_nI (by omega) (by decide)
    refine c_isP1 p2 p1 hi (b_f (by decide) ⟨hin, b_f h0 (m_isP1 p3 p1 hi (b_f (by decide) ⟨hin, ?_, hR⟩))⟩)
    rw [hc]
    exact (p5 i (by omega)).2.1
theorem p_pieces (PO : tSt → Prop) : lwP_pieces (tRel PO) := by
  intro st sm x1 x2 hR
  obtain ⟨hB, hpl⟩ := id hR
  rcases w_dec x1 0 4 with h1 | ⟨h1, h2⟩
  · exact c_w0 h1 (b_t rfl (m_w0 h1 (b_t rfl ⟨rfl, hR⟩)))
  rcases w_dec x2 0 3 with g1 | ⟨g1, g2⟩
  · exact c_w1 h1 h2 (b_f (by decide) (c_w0 g1 (b_t rfl (m_w1 h1 h2 (b_f (by decide) (m_w0 g1 (b_t rfl ⟨rfl, hR⟩)))))))
  obtain ⟨i, -, hi, rfl⟩ := n_btw (a := 0) (b := 4) (by decide) (by decide) h1 h2
  obtain ⟨v, -, hv, rfl⟩ := n_btw (a := 0) (b := 3) (by decide) (by decide) g1 g2
  have hc : (nI i).toNatClampNeg = i := nI_clamp (by omega)
  have hin : vp_in (nI i) 5 := vp_in_nI (by omega) (by decide)
  refine c_w1 h1 h2 (b_f (by decide) (c_w1 g1 g2 (b_f (by decide) ⟨hin, fun s5 e5 s6 e6 => m_w1 h1 h2 (b_f (by decide) (m_w1 g1 g2 (b_f (by decide) ⟨hin, fun t5 f5 => ⟨rfl, ?_⟩⟩)))⟩)))
  subst e6; subst e5; subst f5
  rw [hc]
  obtain ⟨q1, q2, ⟨P, q3⟩, q4, q5, ⟨T, D, q6, q7⟩, q8⟩ := hB
  refine ⟨⟨q1.of rfl rfl rfl rfl, q2.of rfl rfl, ⟨P, q3.of rfl rfl rfl rfl rfl rfl rfl rfl rfl rfl⟩, fun k hk => ?_, q5.of rfl (fun c hc => by rw [tUp_ne _ _ _ (by omega), tUp_ne _ _ _ (by omega)]) rfl, ⟨T, D, q6.of rfl rfl rfl rfl rfl rfl rfl, q7.of rfl rfl rfl rfl rfl rfl⟩, q8⟩, Or.inl rfl⟩
  have e1 : tUp (tUp st 23 i (nI v)) 4 0 0 23 k = if k = i then nI v else st 23 k := by simp [tUp_ap]
  have e2 : tUp sm 16 i (nI v) 16 k = if k = i then nI v else sm 16 k := by simp [tUp_ap]
  rw [e1, e2]
  by_cases hki : k = i
  · rw [if_pos hki, if_pos hki]
    exact ⟨rfl, v, hv, rfl⟩
  · rw [if_neg hki, if_neg hki]
    exact q4 k hk
