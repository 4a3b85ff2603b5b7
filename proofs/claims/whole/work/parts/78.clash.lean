/-! which calls clash -/
def fFr (f : Nat → Int32) : Nat := (f 1).toNatClampNeg
def fLe (f : Nat → Int32) : Nat := (f 2).toNatClampNeg
def fPl (f : Nat → Int32) : Nat := (f 3).toNatClampNeg
theorem callOK_nat {f : Nat → Int32} (h : rCallOK f) : f 1 = nI (fFr f) ∧ f 2 = nI (fLe f) ∧ f 3 = nI (fPl f) ∧ 1 ≤ fLe f ∧ fFr f + fLe f ≤ 96 ∧ fPl f ≤ 9 := by
  obtain ⟨o, fr, le, pl, oc, on, fe, h1, h2, h3, h4, h5, h6, h7, h8, e0, e1, e2, e3, e4, e5, e6, e7⟩ := h
  have a1 : fFr f = fr := by unfold fFr; rw [e1]; exact n_cl (by omega)
  have a2 : fLe f = le := by unfold fLe; rw [e2]; exact n_cl (by omega)
  have a3 : fPl f = pl := by unfold fPl; rw [e3]; exact n_cl (by omega)
  rw [a1, a2, a3]
  exact ⟨e1, e2, e3, h2, h4, h5⟩
def apN (a b : Nat) : Nat := if b ≤ a then a - b else b - a
theorem apN_comm (a b : Nat) : apN a b = apN b a := by
  unfold apN
  by_cases h : b ≤ a
  · by_cases g : a ≤ b
    · rw [if_pos h, if_pos g]; omega
    · rw [if_pos h, if_neg g]
  · rw [if_neg h, if_pos (by omega)]
theorem apN_le {a b : Nat} (ha : a ≤ 9) (hb : b ≤ 9) : apN a b ≤ 9 := by
  unfold apN
  by_cases h : b ≤ a
  · rw [if_pos h]; omega
  · rw [if_neg h]; omega
def clB (w : Nat) (f g : Nat → Int32) : Bool := decide (fFr f < fFr g + fLe g + w * apN (fPl f) (fPl g)) && decide (fFr g < fFr f + fLe f + w * apN (fPl f) (fPl g))
theorem clB_comm (w : Nat) (f g : Nat → Int32) : clB w f g = clB w g f := by
  unfold clB
  rw [apN_comm (fPl g) (fPl f), Bool.and_comm]
theorem clB_self {w : Nat} {f : Nat → Int32} (h : rCallOK f) : clB w f f = true := by
  have := (callOK_nat h).2.2.2.1
  unfold clB
  simp only [Bool.and_eq_true, decide_eq_true_eq]
  omega
theorem abs9 : ∀ a, a < 10 → ∀ b, b < 10 → (if (0 : Int32) ≤ nI a - nI b then nI a - nI b else 0 - (nI a - nI b)) = nI (apN a b) := by decide +kernel
theorem c_clash {st : tSt} {c d w : Nat} {post : Int32 → tSt → Prop} (hw : w ≤ 20) (hc : rCallOK (st (14 + c))) (hd : rCallOK (st (14 + d))) (h : post (if clB w (st (14 + c)) (st (14 + d)) = true then 1 else 0) st) : wp_Call_clashesWith c d (nI w) st post := by
  obtain ⟨a1, a2, a3, a4, a5, a6⟩ := callOK_nat hc
  obtain ⟨b1, b2, b3, b4, b5, b6⟩ := callOK_nat hd
  intro y e
  rw [a3, b3, abs9 _ (by omega) _ (by omega), pk_mul] at e
  have hap := apN_le a6 b6
  have hm : w * apN (fPl (st (14 + c))) (fPl (st (14 + d))) ≤ 20 * 9 := Nat.mul_le_mul hw hap
  subst e
  show ((st (14 + d) 1 + st (14 + d) 2 + _ ≤ st (14 + c) 1 → _) ∧ (¬ st (14 + d) 1 + st (14 + d) 2 + _ ≤ st (14 + c) 1 → _))
  rw [a1, b1, b2, nI_add, nI_add]
  unfold clB at h
  by_cases g1 : fFr (st (14 + d)) + fLe (st (14 + d)) + w * apN (fPl (st (14 + c))) (fPl (st (14 + d))) ≤ fFr (st (14 + c))
  · refine b_t (nI_le g1 (by omega)) ?_
    rw [decide_eq_false (by omega : ¬ fFr (st (14 + c)) < fFr (st (14 + d)) + fLe (st (14 + d)) + w * apN (fPl (st (14 + c))) (fPl (st (14 + d))))] at h
    exact h
  · refine b_f (nI_ge (by omega) (by omega)) ?_
    rw [decide_eq_true (by omega : fFr (st (14 + c)) < fFr (st (14 + d)) + fLe (st (14 + d)) + w * apN (fPl (st (14 + c))) (fPl (st (14 + d)))), Bool.true_and] at h
    show ((st (14 + c) 1 + st (14 + c) 2 + _ ≤ nI (fFr (st (14 + d))) → _) ∧ (¬ st (14 + c) 1 + st (14 + c) 2 + _ ≤ nI (fFr (st (14 + d))) → _))
    rw [a1, a2, nI_add, nI_add]
    by_cases g2 : fFr (st (14 + c)) + fLe (st (14 + c)) + w * apN (fPl (st (14 + c))) (fPl (st (14 + d))) ≤ fFr (st (14 + d))
    · refine b_t (nI_le g2 (by omega)) ?_
      rw [decide_eq_false (by omega)] at h
      exact h
    · refine b_f (nI_ge (by omega) (by omega)) ?_
      rw [decide_eq_true (by omega)] at h
      exact h
/-- the facts of a call, as the reference has them -/
def mF (t : tSt) (c : Nat) : Nat → Int32 := fun k => t 17 (8 * c + k)
theorem m_apart {st : tSt} {a b : Nat} {post : Int32 → tSt → Prop} (ha : a ≤ 9) (hb : b ≤ 9) (h : post (nI (apN a b)) st) : wp_M_apart (nI a) (nI b) st post := by
  unfold apN at h
  by_cases g : b ≤ a
  · rw [if_pos g] at h
    refine b_t (nI_le g (by omega)) ?_
    rw [pk_sub g]
    exact h
  · rw [if_neg g] at h
    refine b_f (nI_ge (by omega) (by omega)) ?_
    rw [pk_sub (by omega)]
    exact h
theorem m_g61 {st : tSt} {a b w : Nat} {post : Int32 → tSt → Prop} (ha6 : a < 6) (hb6 : b < 6) (hw : w ≤ 20) (h10 : st 10 0 = nI w) (ha : rCallOK (mF st a)) (hb : rCallOK (mF st b)) (h : post (if fFr (mF st b) < fFr (mF st a) + fLe (mF st a) + w * apN (fPl (mF st a)) (fPl (mF st b)) then 0 else 1) st) : wp_M_goes_61 post (nI a) (nI b) st := by
  obtain ⟨a1, a2, a3, a4, a5, a6⟩ := callOK_nat ha
  obtain ⟨b1, b2, b3, b4, b5, b6⟩ := callOK_nat hb
  have hap := apN_le a6 b6
  have hm : w * apN (fPl (mF st a)) (fPl (mF st b)) ≤ 20 * 9 := Nat.mul_le_mul hw hap
  refine m_of (k := 1) hb6 (by decide) (m_of (k := 1) ha6 (by decide) (m_of (k := 2) ha6 (by decide) (m_of (k := 3) ha6 (by decide) (m_of (k := 3) hb6 (by decide) ?_))))
  have e1 : st 17 (8 * a + 1) = nI (fFr (mF st a)) := a1
  have e2 : st 17 (8 * a + 2) = nI (fLe (mF st a)) := a2
  have e3 : st 17 (8 * a + 3) = nI (fPl (mF st a)) := a3
  have e4 : st 17 (8 * b + 1) = nI (fFr (mF st b)) := b1
  have e5 : st 17 (8 * b + 3) = nI (fPl (mF st b)) := b3
  rw [e1, e2, e3, e4, e5]
  refine m_apart a6 b6 ?_
  rw [h10, pk_mul, nI_add, nI_add]
  by_cases g : fFr (mF st b) < fFr (mF st a) + fLe (mF st a) + w * apN (fPl (mF st a)) (fPl (mF st b))
  · rw [if_pos g] at h
    exact b_t (nI_lt g (by omega)) h
  · rw [if_neg g] at h
    exact b_f (nI_nlt (by omega) (by omega)) h
theorem m_goes {st : tSt} {c d w : Nat} {post : Int32 → tSt → Prop} (hc6 : c < 6) (hd6 : d < 6) (hw : w ≤ 20) (h10 : st 10 0 = nI w) (hc : rCallOK (mF st c)) (hd : rCallOK (mF st d)) (h : post (if (!clB w (mF st c) (mF st d)) = true then 1 else 0) st) : wp_M_goes (nI c) (nI d) st post := by
  obtain ⟨a1, a2, a3, a4, a5, a6⟩ := callOK_nat hc
  obtain ⟨b1, b2, b3, b4, b5, b6⟩ := callOK_nat hd
  have e1 : st 17 (8 * c + 1) = nI (fFr (mF st c)) := a1
  have e2 : st 17 (8 * d + 1) = nI (fFr (mF st d)) := b1
  have fst : fFr (mF st c) ≤ fFr (mF st d) → wp_M_goes_35 post (nI c) (nI d) st := by
    intro hle
    refine b_f (by decide) (b_f (by decide) (m_g61 hc6 hd6 hw h10 hc hd ?_))
    have ecl : clB w (mF st c) (mF st d) = decide (fFr (mF st d) < fFr (mF st c) + fLe (mF st c) + w * apN (fPl (mF st c)) (fPl (mF st d))) := by
      unfold clB
      rw [decide_eq_true (by omega : fFr (mF st c) < fFr (mF st d) + fLe (mF st d) + w * apN (fPl (mF st c)) (fPl (mF st d))), Bool.true_and]
    rw [ecl] at h
    by_cases g : fFr (mF st d) < fFr (mF st c) + fLe (mF st c) + w * apN (fPl (mF st c)) (fPl (mF st d))
    · rw [if_pos g]; simpa [g] using h
    · rw [if_neg g]; simpa [g] using h
  have snd : fFr (mF st d) ≤ fFr (mF st c) → wp_M_goes_39 post (nI c) (nI d) st := by
    intro hle
    refine b_t rfl (b_t rfl (m_g61 hd6 hc6 hw h10 hd hc ?_))
    have ecl : clB w (mF st c) (mF st d) = decide (fFr (mF st c) < fFr (mF st d) + fLe (mF st d) + w * apN (fPl (mF st d)) (fPl (mF st c))) := by
      unfold clB
      rw [apN_comm (fPl (mF st d)) (fPl (mF st c)), decide_eq_true (by omega : fFr (mF st d) < fFr (mF st c) + fLe (mF st c) + w * apN (fPl (mF st c)) (fPl (mF st d))), Bool.and_true]
    rw [ecl] at h
    by_cases g : fFr (mF st c) < fFr (mF st d) + fLe (mF st d) + w * apN (fPl (mF st d)) (fPl (mF st c))
    · rw [if_pos g]; simpa [g] using h
    · rw [if_neg g]; simpa [g] using h
  refine m_of (k := 1) hc6 (by decide) (m_of (k := 1) hd6 (by decide) ?_)
  rw [e1, e2]
  by_cases g1 : fFr (mF st c) < fFr (mF st d)
  · exact b_t (nI_lt g1 (by omega)) (fst (by omega))
  refine b_f (nI_nlt (by omega) (by omega)) (m_of (k := 1) hc6 (by decide) (m_of (k := 1) hd6 (by decide) ?_))
  rw [e1, e2]
  by_cases g2 : fFr (mF st c) = fFr (mF st d)
  · refine b_t (by rw [g2]) ?_
    by_cases g3 : nI d ≤ nI c
    · exact b_t g3 (snd (by omega))
    · exact b_f g3 (fst (by omega))
  · exact b_f (fun e => g2 ((nI_eq (by omega) (by omega)).mp e)) (snd (by omega))
