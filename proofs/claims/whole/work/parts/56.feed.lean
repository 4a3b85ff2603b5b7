/-! feed -/
def put4 (f : Nat → Int32) (L : Nat) (x : Int32) : Nat → Int32 := upd (upd (upd (upd f L ((x >>> ((24 : Int32) &&& 31)) &&& 255)) (L + 1) ((x >>> ((16 : Int32) &&& 31)) &&& 255)) (L + 2) ((x >>> ((8 : Int32) &&& 31)) &&& 255)) (L + 3) ((x >>> ((0 : Int32) &&& 31)) &&& 255)
def psh4 (f : Nat → Int32) (L : Nat) (x : Int32) : Nat → Int32 := upd (upd (upd (upd f L (vp_nar .byte (x >>> ((24 : Int32) &&& 31)).toInt8.toInt32)) (L + 1) (vp_nar .byte (x >>> ((16 : Int32) &&& 31)).toInt8.toInt32)) (L + 2) (vp_nar .byte (x >>> ((8 : Int32) &&& 31)).toInt8.toInt32)) (L + 3) (vp_nar .byte (x >>> ((0 : Int32) &&& 31)).toInt8.toInt32)
theorem nar_b (z : Int32) : vp_nar .byte z.toInt8.toInt32 &&& 255 = z &&& 255 := by
  have e : vp_nar .byte z.toInt8.toInt32 = z.toInt8.toInt32.toInt8.toInt32 := rfl
  rw [e, bp_b, bp_b]
theorem put4_psh4 {f g : Nat → Int32} {L : Nat} (x : Int32) (h : ∀ i, i < L → f i = g i &&& 255) : ∀ i, i < L + 4 → put4 f L x i = psh4 g L x i &&& 255 := by
  intro i hi
  unfold put4 psh4 upd
  by_cases h3 : i = L + 3
  · simp only [h3, if_pos]; rw [nar_b]
  by_cases h2 : i = L + 2
  · simp only [if_neg h3]; simp only [h2, if_pos]; rw [nar_b]
  by_cases h1 : i = L + 1
  · simp only [if_neg h3, if_neg h2]; simp only [h1, if_pos]; rw [nar_b]
  by_cases h0 : i = L
  · simp only [if_neg h3, if_neg h2, if_neg h1]; simp only [h0, if_pos]; rw [nar_b]
  simp only [if_neg h3, if_neg h2, if_neg h1, if_neg h0]
  exact h i (by omega)
theorem c_put1 {post : tSt → Prop} {n L : Nat} {x sh : Int32} {st : tSt} (hs : ¬ sh < 0) (hl : st 5 0 = nI L) (h40 : L < 40) (h : wp_Tape_put_3 post n x (sh + (-8)) (tUp (tUp st 6 L ((x >>> (sh &&& 31)) &&& 255)) 5 0 (nI (L + 1)))) : wp_Tape_put_3 post (n + 1) x sh st := by
  refine b_f hs (b_f (by rw [hl]; exact nI_ge (a := L) (b := 40) h40 (by decide)) ⟨by rw [hl]; exact vp_in_nI h40 (by decide), fun s1 e1 s2 e2 y e => ?_⟩)
  rw [hl, n_cl (show L < 2 ^ 31 by omega)] at e1
  have z : s1 5 0 = nI L := by rw [e1]; exact hl
  rw [z, nI_1] at e2
  subst e2; subst e1; subst e
  exact h
theorem c_put {post : tSt → Prop} {L : Nat} {x : Int32} {st : tSt} (hl : st 5 0 = nI L) (h40 : L + 4 ≤ 40) (h : ∀ s' : tSt, s' 5 0 = nI (L + 4) → s' 6 = put4 (st 6) L x → (∀ k, k ≠ 5 → k ≠ 6 → s' k = st k) → post s') : wp_Tape_put x st post := by
  refine ⟨5, ?_⟩
  refine c_put1 (by decide) hl (by omega) ?_
  show wp_Tape_put_3 post 4 x 16 _
  refine c_put1 (L := L + 1) (by decide) (by simp [tUp_ap]) (by omega) ?_
  show wp_Tape_put_3 post 3 x 8 _
  refine c_put1 (L := L + 2) (by decide) (by simp [tUp_ap]) (by omega) ?_
  show wp_Tape_put_3 post 2 x 0 _
  refine c_put1 (L := L + 3) (by decide) (by simp [tUp_ap]) (by omega) ?_
  show wp_Tape_put_3 post 1 x (-8) _
  refine b_t (by decide) (h _ (by simp [tUp_ap]) rfl (fun k h5 h6 => ?_))
  rw [tUp_ne _ _ _ h5, tUp_ne _ _ _ h6, tUp_ne _ _ _ h5, tUp_ne _ _ _ h6, tUp_ne _ _ _ h5, tUp_ne _ _ _ h6, tUp_ne _ _ _ h5, tUp_ne _ _ _ h6]
theorem m_push1 {post : tSt → Prop} {n L : Nat} {x sh : Int32} {st : tSt} (hs : ¬ sh < 0) (hl : st 0 0 = nI L) (h40 : L < 40) (h : wp_M_push_3 post n x (sh + (-8)) (tUp (tUp st 9 L (vp_nar .byte (x >>> (sh &&& 31)).toInt8.toInt32)) 0 0 (nI (L + 1)))) : wp_M_push_3 post (n + 1) x sh st := by
  refine b_f hs ⟨by rw [hl]; exact vp_in_nI h40 (by decide), fun s1 e1 s2 e2 y e => ?_⟩
  rw [hl, n_cl (show L < 2 ^ 31 by omega)] at e1
  have z : s1 0 0 = nI L := by rw [e1]; exact hl
  rw [z, nI_1] at e2
  subst e2; subst e1; subst e
  exact h
theorem m_push {post : tSt → Prop} {L : Nat} {x : Int32} {st : tSt} (hl : st 0 0 = nI L) (h40 : L + 4 ≤ 40) (h : ∀ s' : tSt, s' 0 0 = nI (L + 4) → s' 9 = psh4 (st 9) L x → (∀ k, k ≠ 0 → k ≠ 9 → s' k = st k) → post s') : wp_M_push x st post := by
  refine ⟨5, ?_⟩
  refine m_push1 (by decide) hl (by omega) ?_
  show wp_M_push_3 post 4 x 16 _
  refine m_push1 (L := L + 1) (by decide) (by simp [tUp_ap]) (by omega) ?_
  show wp_M_push_3 post 3 x 8 _
  refine m_push1 (L := L + 2) (by decide) (by simp [tUp_ap]) (by omega) ?_
  show wp_M_push_3 post 2 x 0 _
  refine m_push1 (L := L + 3) (by decide) (by simp [tUp_ap]) (by omega) ?_
  show wp_M_push_3 post 1 x (-8) _
  refine b_t (by decide) (h _ (by simp [tUp_ap]) rfl (fun k h5 h6 => ?_))
  rw [tUp_ne _ _ _ h5, tUp_ne _ _ _ h6, tUp_ne _ _ _ h5, tUp_ne _ _ _ h6, tUp_ne _ _ _ h5, tUp_ne _ _ _ h6, tUp_ne _ _ _ h5, tUp_ne _ _ _ h6]
theorem p_feed {PO : tSt → Prop} (hPO : ∀ s s' : tSt, (∀ k, k ≠ 5 → k ≠ 6 → s' k = s k) → PO s → PO s') : lwP_feed (tRel PO) := by
  intro st sm x1 x2 x3 x4 x5 hR
  obtain ⟨hB, hpl⟩ := id hR
  obtain ⟨⟨L, l1, l2, l3, l4⟩, q2, ⟨P, q3⟩, q4, q5, ⟨T, D, q6, q7⟩, q8⟩ := id hB
  have e20 : st 5 0 + 20 = nI (L + 20) := by rw [l2]; exact nI_add L 20
  have f20 : sm 0 0 + 20 = nI (L + 20) := by rw [l3]; exact nI_add L 20
  by_cases hL : 40 < L + 20
  · refine b_t (by rw [e20]; exact nI_lt (a := 40) hL (by omega)) (b_t rfl (b_f (by rw [f20]; exact nI_ge (b := L + 20) (a := 40) hL (by omega)) ⟨rfl, hR⟩))
  refine b_f (by rw [e20]; exact nI_nlt (a := 40) (by omega) (by decide)) (b_f (by decide) ?_)
  refine c_put l2 (by omega) (fun s1 a1 b1 c1 => ?_)
  refine c_put a1 (by omega) (fun s2 a2 b2 c2 => ?_)
  refine c_put a2 (by omega) (fun s3 a3 b3 c3 => ?_)
  refine c_put a3 (by omega) (fun s4 a4 b4 c4 => ?_)
  refine c_put a4 (by omega) (fun s5 a5 b5 c5 => ?_)
  show wp_M_feed x1 x2 x3 x4 x5 sm (fun r1 sm1 => s5 5 0 = r1 ∧ tRel PO s5 sm1)
  refine b_t (by rw [f20]; exact nI_le (b := 40) (by omega) (by decide)) ?_
  refine m_push l3 (by omega) (fun t1 d1 e1 f1 => ?_)
  refine m_push d1 (by omega) (fun t2 d2 e2 f2 => ?_)
  refine m_push d2 (by omega) (fun t3 d3 e3 f3 => ?_)
  refine m_push d3 (by omega) (fun t4 d4 e4 f4 => ?_)
  refine m_push d4 (by omega) (fun t5 d5 e5 f5 => ?_)
  have hs : ∀ k, k ≠ 5 → k ≠ 6 → s5 k = st k := fun k h5 h6 => by rw [c5 k h5 h6, c4 k h5 h6, c3 k h5 h6, c2 k h5 h6, c1 k h5 h6]
  have ht : ∀ k, k ≠ 0 → k ≠ 9 → t5 k = sm k := fun k h5 h6 => by rw [f5 k h5 h6, f4 k h5 h6, f3 k h5 h6, f2 k h5 h6, f1 k h5 h6]
  refine ⟨by rw [a5, d5], ⟨⟨L + 4 + 4 + 4 + 4 + 4, by omega, a5, d5, ?_⟩, q2.of (hs _ (by decide) (by decide)) (ht _ (by decide) (by decide)), ⟨P, q3.of (hs _ (by decide) (by decide)) (hs _ (by decide) (by decide)) (hs _ (by decide) (by decide)) (hs _ (by decide) (by decide)) (hs _ (by decide) (by decide)) (ht _ (by decide) (by decide)) (ht _ (by decide) (by decide)) (ht _ (by decide) (by decide)) (ht _ (by decide) (by decide)) (ht _ (by decide) (by decide))⟩, q4.of (hs _ (by decide) (by decide)) (ht _ (by decide) (by decide)), q5.of (hs _ (by decide) (by decide)) (fun c hc => hs _ (by omega) (by omega)) (ht _ (by decide) (by decide)), ⟨T, D, q6.of (hs _ (by decide) (by decide)) (hs _ (by decide) (by decide)) (hs _ (by decide) (by decide)) (hs _ (by decide) (by decide)) (ht _ (by decide) (by decide)) (ht _ (by decide) (by decide)) (ht _ (by decide) (by decide)), q7.of (hs _ (by decide) (by decide)) (hs _ (by decide) (by decide)) (ht _ (by decide) (by decide)) (ht _ (by decide) (by decide)) (ht _ (by decide) (by decide)) (ht _ (by decide) (by decide))⟩, by rw [hs 3 (by decide) (by decide), ht 4 (by decide) (by decide)]; exact q8⟩, ?_⟩
  · rw [b5, e5, b4, e4, b3, e3, b2, e2, b1, e1]
    exact put4_psh4 x5 (put4_psh4 x4 (put4_psh4 x3 (put4_psh4 x2 (put4_psh4 x1 l4))))
  · rw [hs 4 (by decide) (by decide)]
    rcases hpl with h | ⟨h1, h2⟩
    · exact Or.inl h
    · exact Or.inr ⟨h1, hPO st s5 hs h2⟩
