theorem c_lasts {st : tSt} {post : Int32 → tSt → Prop} {P p : Nat} (hP : P ≤ 6) (hp : st 0 0 = nI P) (h7 : st 7 2 = nI p) {k42 : Int32 → tSt → Prop} (h : k42 (nI (cntb (fun c => decide (st 11 c = 2)) P * p)) st) : ∀ (m k : Nat), k + m = P → wp_T_lasts_4 post k42 (m + 1) (nI (cntb (fun c => decide (st 11 c = 2)) k * p)) (nI k) st
  | 0, k, hk => by
    have e : k = P := by omega
    subst e
    exact b_t (by rw [hp]; exact Int32.le_refl _) h
  | m + 1, k, hk => by
    refine b_f (by rw [hp]; exact nI_ge (by omega) (by omega)) ⟨vp_in_nI (by omega) (by decide), ?_⟩
    rw [n_cl (show k < 2 ^ 31 by omega)]
    have ih := c_lasts (post := post) hP hp h7 h m (k + 1) (by omega)
    by_cases h0 : st 11 k = 2
    · refine b_t h0 (c_num (k := 2) (by decide) (fun y1 e1 y e => ?_))
      rw [nI_1] at e
      rw [h7, nI_add] at e1
      subst e; subst e1
      have e2 : cntb (fun c => decide (st 11 c = 2)) (k + 1) = cntb (fun c => decide (st 11 c = 2)) k + 1 := by
        show cntb _ k + (if decide (st 11 k = 2) = true then 1 else 0) = _
        simp [h0]
      rw [e2, Nat.add_mul, Nat.one_mul] at ih
      exact ih
    · refine b_f h0 (fun y e => ?_)
      rw [nI_1] at e
      subst e
      have e2 : cntb (fun c => decide (st 11 c = 2)) (k + 1) = cntb (fun c => decide (st 11 c = 2)) k := by
        show cntb _ k + (if decide (st 11 k = 2) = true then 1 else 0) = _
        simp [h0]
      rw [e2] at ih
      exact ih
theorem m_lasts {st : tSt} {post : Int32 → tSt → Prop} {P : Nat} (hP : P ≤ 6) (hp : st 2 0 = nI P) {k36 : Int32 → tSt → Prop} (h : k36 (nI (cntb (fun c => decide (st 14 c = 2)) P)) st) : ∀ (m k : Nat), k + m = P → wp_M_lasts_4 post k36 (m + 1) (nI (cntb (fun c => decide (st 14 c = 2)) k)) (nI k) st
  | 0, k, hk => by
    have e : k = P := by omega
    subst e
    exact b_t (by rw [hp]; exact Int32.le_refl _) h
  | m + 1, k, hk => by
    refine b_f (by rw [hp]; exact nI_ge (by omega) (by omega)) ⟨vp_in_nI (by omega) (by decide), ?_⟩
    rw [n_cl (show k < 2 ^ 31 by omega)]
    have ih := m_lasts (post := post) hP hp h m (k + 1) (by omega)
    by_cases h0 : st 14 k = 2
    · refine b_t h0 (fun y1 e1 y e => ?_)
      rw [nI_1] at e e1
      subst e; subst e1
      have e2 : cntb (fun c => decide (st 14 c = 2)) (k + 1) = cntb (fun c => decide (st 14 c = 2)) k + 1 := by
        show cntb _ k + (if decide (st 14 k = 2) = true then 1 else 0) = _
        simp [h0]
      rw [e2] at ih
      exact ih
    · refine b_f h0 (fun y1 e1 y e => ?_)
      rw [nI_1] at e
      subst e
      have e2 : cntb (fun c => decide (st 14 c = 2)) (k + 1) = cntb (fun c => decide (st 14 c = 2)) k := by
        show cntb _ k + (if decide (st 14 k = 2) = true then 1 else 0) = _
        simp [h0]
      rw [e2] at ih
      rw [show y1 = nI (cntb (fun c => decide (st 14 c = 2)) k) by rw [e1]; exact nI_add _ 0]
      exact ih
theorem p_lasts (PO : tSt → Prop) : lwP_lasts (tRel PO) := by
  intro st sm hR
  obtain ⟨hB, hpl⟩ := id hR
  obtain ⟨q1, ⟨w1, w, f, p, g, hw1, hw2, hw3, hw4, hw5, hw6, hw7, hw8⟩, ⟨P, p1, p2, p3, p4, p5, p6⟩, q4, q5, q6, q8⟩ := id hB
  have ecn : cntb (fun c => decide (st 11 c = 2)) P = cntb (fun c => decide (sm 14 c = 2)) P := cntb_congr P (fun i hi => by rw [(p5 i (by omega)).1])
  have hle := cntb_le (fun c => decide (sm 14 c = 2)) P
  have h10 : sm 10 2 = nI p := by rw [← w1 2 (by decide)]; exact hw7
  have mm : ∀ r : Int32, (∀ post : Int32 → tSt → Prop, post r sm → wp_M_lasts_36 post (nI (cntb (fun c => decide (sm 14 c = 2)) P)) sm) → wp_M_lasts sm (fun r1 sm1 => r = r1 ∧ tRel PO st sm1) := fun r h => ⟨P + 1, by
    have := m_lasts (post := fun r1 sm1 => r = r1 ∧ tRel PO st sm1) p1 p3 (h (fun r1 sm1 => r = r1 ∧ tRel PO st sm1) ⟨rfl, hR⟩) P 0 (by omega)
    exact this⟩
  refine ⟨P + 1, ?_⟩
  have key : wp_T_lasts_42 (fun r st1 => wp_M_lasts sm (fun r1 sm1 => r = r1 ∧ tRel PO st1 sm1)) (nI (cntb (fun c => decide (st 11 c = 2)) P * p)) st := by
    rw [ecn]
    by_cases hz : cntb (fun c => decide (sm 14 c = 2)) P * p = 0
    · refine b_t (by rw [hz]; rfl) (mm _ (fun post hp => ?_))
      rcases Nat.mul_eq_zero.mp hz with h | h
      · exact b_t (by rw [h]; rfl) hp
      · by_cases h2 : nI (cntb (fun c => decide (sm 14 c = 2)) P) = 0
        · exact b_t h2 hp
        · exact b_f h2 (b_t (by rw [h10, h]; rfl) hp)
    · have hlt : cntb (fun c => decide (sm 14 c = 2)) P * p < 2 ^ 31 := by
        have : cntb (fun c => decide (sm 14 c = 2)) P * p ≤ 6 * 9999 := Nat.mul_le_mul (by omega) hw3
        omega
      have hc0 : 0 < cntb (fun c => decide (sm 14 c = 2)) P := Nat.pos_of_ne_zero (fun h => hz (by rw [h, Nat.zero_mul]))
      have hp0 : 0 < p := Nat.pos_of_ne_zero (fun h => hz (by rw [h, Nat.mul_zero]))
      have nz : ¬ nI (cntb (fun c => decide (sm 14 c = 2)) P * p) = 0 := nI_ne0 (Nat.pos_of_ne_zero hz) hlt
      refine b_f nz ⟨nz, mm _ (fun post hp => ?_)⟩
      refine b_f (nI_ne0 hc0 (by omega)) (b_f (by rw [h10]; exact nI_ne0 hp0 (by omega)) ?_)
      rw [h10, pk_mul, ← q8]
      refine ⟨nz, fun y e => ?_⟩
      subst e
      by_cases hy : st 3 0 / nI (cntb (fun c => decide (sm 14 c = 2)) P * p) < 9999
      · rw [if_pos hy] at hp
        exact b_f (Int32.not_le.mpr hy) hp
      · rw [if_neg hy] at hp
        exact b_t (Int32.not_lt.mp hy) hp
  have := c_lasts (post := fun r st1 => wp_M_lasts sm (fun r1 sm1 => r = r1 ∧ tRel PO st1 sm1)) p1 p2 hw7 key P 0 (by omega)
  rw [show cntb (fun c => decide (st 11 c = 2)) 0 * p = 0 from Nat.zero_mul p] at this
  exact this
