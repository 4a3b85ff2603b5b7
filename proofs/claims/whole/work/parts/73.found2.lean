/-- the reference's search finds the least row, or there is none -/
theorem m_searchL {s : tSt} {n P : Nat} {gb : Nat → Nat → Bool} {post : Int32 → tSt → Prop} (A : SA s n P gb)
    (hY : ∀ (st' : tSt) (g : Nat → Nat), sSame s st' → Lst n P (sOk s) (sCl s gb) g → (∀ i, i < n → st' 25 i = nI (g i)) → post 1 st')
    (hN : ∀ st' : tSt, sSame s st' → (¬ ∃ g, Vd n P (sOk s) (sCl s gb) g) → post 0 st') : ∀ (f k : Nat) (st : tSt) (T : Nat → Nat) (bl : Nat → Nat → Prop), k ≤ n → 9 ^ 14 ≤ ms9 T k + f → sSame s st → RT n st T k → RB n st bl k → SI n P (sOk s) (sCl s gb) k T bl → wp_M_canBePlayed_29 post f (nI k) st
  | 0, k, st, T, bl, hkn, hf, hs, hT, hB, hI => by
    have hP := A.1
    have hn := A.2.1
    have := ms9_lt (T := T) (k := k) (by omega) (fun i hi => by have := (hI.1 i hi).2.1; omega) (by have := hI.2.2.2.1; omega)
    omega
  | f + 1, k, st, T, bl, hkn, hf, hs, hT, hB, hI => by
    have hP := A.1
    have hn := A.2.1
    have e8 : st 8 0 = nI n := by rw [hs 8 (by decide) (by decide)]; exact A.2.2.2.1
    by_cases hk : k = n
    · subst hk
      refine b_t (by rw [e8]; exact Int32.le_refl _) (hY st (fun i => T i - 1) hs (SI_done hI) (fun i hi => ?_))
      rw [hT i (by omega) hi]
      have := (hI.1 i hi).1
      obtain ⟨v, hv⟩ : ∃ v, T i = v + 1 := ⟨T i - 1, by omega⟩
      rw [hv]
      exact nI_pred v
    have hk' : k < n := by omega
    have hik : vp_in (nI k) 12 := vp_in_nI (by omega) (by decide)
    refine b_f (by rw [e8]; exact nI_ge hk' (by omega)) ⟨P + 1, m_takesL A hk' P st T bl (by omega) hs hT hB hI (fun st' T1 bl' a1 a2 a3 a4 a5 a6 a7 a8 a9 a10 => ?_) (fun st' T1 bl' a1 a2 a3 a4 a5 a6 => ?_)⟩
    · refine b_f (by decide) (fun y e => ?_)
      rw [nI_1] at e
      subst e
      have e8' : st' 8 0 = nI n := by rw [a1 8 (by decide) (by decide)]; exact A.2.2.2.1
      have ms : ms9 T k < ms9 (fun i => if i = k then T1 k + 1 else if i = k + 1 then 0 else T1 i) (k + 1) := ms9_push (by omega) (by simp; omega) (fun i hi => by
        have q1 : ¬ i = k := by omega
        have q2 : ¬ i = k + 1 := by omega
        simp only [if_neg q1, if_neg q2]
        exact a2 i hi)
      have hpush : SI n P (sOk s) (sCl s gb) (k + 1) (fun i => if i = k then T1 k + 1 else if i = k + 1 then 0 else T1 i) (fun i j => i ≠ k + 1 ∧ bl' i j) := by
        refine SI_push a5 hk' a4 (by simp) (fun i hi => ?_) (fun i hi j => ⟨fun z => z.2, fun z => ⟨by omega, z⟩⟩) (by simp) (fun j z => z.1 rfl) a6 a7
        have q1 : ¬ i = k := by omega
        have q2 : ¬ i = k + 1 := by omega
        simp only [if_neg q1, if_neg q2]
      have rt : ∀ i, i ≤ k → st' 25 i = nI ((fun i => if i = k then T1 k + 1 else if i = k + 1 then 0 else T1 i) i) - 1 := by
        intro i hi
        by_cases q : i = k
        · subst q
          simp only [if_pos]
          rw [a9]
          exact (nI_pred _).symm
        · have q2 : ¬ i = k + 1 := by omega
          simp only [if_neg q, if_neg q2]
          exact a8 i (by omega)
      by_cases hlast : k + 1 = n
      · refine b_t (by rw [e8', hlast]; exact Int32.le_refl _) ?_
        refine m_searchL A hY hN f (k + 1) st' _ _ (by omega) (by omega) a1 (fun i hi hin => rt i (by omega)) (fun i hi hin j => ?_) hpush
        exact ⟨fun z => (a10 i (by omega) hin j).mp z.2, fun z => ⟨by omega, (a10 i (by omega) hin j).mpr z⟩⟩
      · have hin1 : vp_in (nI (k + 1)) 12 := vp_in_nI (by omega) (by decide)
        refine b_f (by rw [e8']; exact nI_ge (by omega) (by omega)) ⟨hin1, fun s4 e4 => ⟨hin1, fun s5 e5 => ?_⟩⟩
        rw [n_cl (show k + 1 < 2 ^ 31 by omega)] at e4 e5
        have f25 : ∀ i, s5 25 i = if i = k + 1 then -1 else st' 25 i := fun i => by
          rw [e5, e4]
          by_cases q : i = k + 1 <;> simp [tUp_ap, q]
        have f26 : ∀ i, s5 26 i = if i = k + 1 then 0 else st' 26 i := fun i => by
          rw [e5, e4]
          by_cases q : i = k + 1 <;> simp [tUp_ap, q]
        have fo : sSame s s5 := fun κ b1 b2 => by rw [e5, e4, tUp_ne _ _ _ b2, tUp_ne _ _ _ b1]; exact a1 κ b1 b2
        refine m_searchL A hY hN f (k + 1) s5 _ _ (by omega) (by omega) fo (fun i hi hin => ?_) (fun i hi hin j => ?_) hpush
        · rw [f25]
          by_cases q : i = k + 1
          · subst q
            have q2 : ¬ k + 1 = k := by omega
            simp only [if_pos, if_neg q2]
            decide
          · rw [if_neg q]
            exact rt i (by omega)
        · rw [f26]
          by_cases q : i = k + 1
          · rw [if_pos q, b_0]
            exact ⟨fun z => absurd q z.1, fun z => by simp at z⟩
          · rw [if_neg q]
            exact ⟨fun z => (a10 i (by omega) hin j).mp z.2, fun z => ⟨q, (a10 i (by omega) hin j).mpr z⟩⟩
    · refine b_t rfl ⟨hik, ?_⟩
      rw [n_cl (show k < 2 ^ 31 by omega)]
      have bk := a6 k (Nat.le_refl k) hk'
      by_cases hz : st' 26 k = 0
      · refine b_t hz (hN st' a1 (SI_none a4 hk' a3 (fun j hj => ?_)))
        have := (bk j).mp hj
        rw [hz, b_0] at this
        cases this
      refine b_f hz ?_
      obtain ⟨l, l1, l2, l3⟩ := max_bit (fun j => bt (st' 26 k) j) k (by
        refine Classical.byContradiction (fun q => hz (b_ext (fun i hi => ?_)))
        rw [b_0]
        cases hb : bt (st' 26 k) i with
        | false => rfl
        | true => exact absurd ⟨i, a4.2.2.1 k i (Nat.le_refl k) ((bk i).mpr hb), hb⟩ q)
      refine ⟨k + 1, m_lastL (by omega) l1 l2 l3 ?_ k 0 0 (by omega) (fun q => absurd q (by omega))⟩
      have hil : vp_in (nI l) 12 := vp_in_nI (by omega) (by decide)
      refine ⟨hil, hik, hil, fun s1 e1 => ?_⟩
      rw [n_cl (show k < 2 ^ 31 by omega), n_cl (show l < 2 ^ 31 by omega)] at e1
      have so : ∀ κ, κ ≠ 26 → s1 κ = st' κ := fun κ hκ => by rw [e1]; exact tUp_ne _ _ _ hκ
      have f26 : ∀ i, s1 26 i = if i = l then st' 26 l ||| (st' 26 k &&& (((1 : Int32) <<< (nI l &&& 31)) ^^^ -1)) else st' 26 i := fun i => by
        rw [e1]
        by_cases q : i = l <;> simp [tUp_ap, q]
      have ms : ms9 T k < ms9 T1 l := ms9_back (by omega) l1 (fun i hi => by have := (a4.1 i hi).2.1; omega) (by have := hI.2.2.2.1; omega) (fun i hi => (a2 i hi).symm)
      refine m_searchL A hY hN f l s1 T1 (fun i j => if i = l then (bl' l j ∨ (bl' k j ∧ j ≠ l)) else bl' i j) (by omega) (by omega) (fun κ b1 b2 => by rw [so κ b2]; exact a1 κ b1 b2) (fun i hi hin => by rw [so 25 (by decide)]; exact a5 i (by omega) hin) (fun i hi hin j => ?_) ?_
      · rw [f26]
        by_cases q : i = l
        · simp only [if_pos q]
          rw [b_or, b_and]
          by_cases hj : j < 32
          · rw [bt_not hj, bt_shl (by omega) hj]
            have b1 := a6 l (by omega) (by omega) j
            have b2 := bk j
            simp only [Bool.or_eq_true, Bool.and_eq_true, Bool.not_eq_true', decide_eq_false_iff_not]
            exact ⟨fun z => z.elim (fun z => Or.inl (b1.mp z)) (fun z => Or.inr ⟨b2.mp z.1, z.2⟩), fun z => z.elim (fun z => Or.inl (b1.mpr z)) (fun z => Or.inr ⟨b2.mpr z.1, z.2⟩)⟩
          · rw [b_big (show 32 ≤ j by omega), b_big (show 32 ≤ j by omega)]
            refine ⟨fun z => ?_, fun z => by simp at z⟩
            rcases z with z | ⟨z, -⟩
            · have := a4.2.2.1 l j (by omega) z
              omega
            · have := a4.2.2.1 k j (Nat.le_refl k) z
              omega
        · simp only [if_neg q]
          exact a6 i (by omega) hin j
      · exact SI_back a4 hk' a3 ((bk l).mpr l2) (fun j hj => l3 j (a4.2.2.1 k j (Nat.le_refl k) hj) ((bk j).mp hj)) (fun i hi j => by show (if i = l then _ else bl' i j) ↔ bl' i j; rw [if_neg (show ¬ i = l by omega)]) (fun j => by simp)
  termination_by f => f
