theorem m_takesL {s : tSt} {n P k : Nat} {gb : Nat → Nat → Bool} {post : Int32 → tSt → Prop} (A : SA s n P gb) (hk : k < n) : ∀ (f : Nat) (st : tSt) (T : Nat → Nat) (bl : Nat → Nat → Prop), P ≤ T k + f → sSame s st → RT n st T k → RB n st bl k → SI n P (sOk s) (sCl s gb) k T bl →
    (∀ (st' : tSt) (T1 : Nat → Nat) (bl' : Nat → Nat → Prop), sSame s st' → (∀ i, i < k → T1 i = T i) → T k ≤ T1 k → T1 k < P → SI n P (sOk s) (sCl s gb) k T1 bl' → sOk s k (T1 k) → (∀ j, j < k → sCl s gb j k → T1 j ≠ T1 k + 1) → (∀ i, i < k → st' 25 i = nI (T1 i) - 1) → st' 25 k = nI (T1 k) → RB n st' bl' k → post 1 st') →
    (∀ (st' : tSt) (T1 : Nat → Nat) (bl' : Nat → Nat → Prop), sSame s st' → (∀ i, i < k → T1 i = T i) → T1 k = P → SI n P (sOk s) (sCl s gb) k T1 bl' → RT n st' T1 k → RB n st' bl' k → post 0 st') → wp_M_takes_0 post (f + 1) (nI k) st
  | f, st, T, bl, hf, hs, hT, hB, hI, hS, hF => by
    have hP := A.1
    have hn := A.2.1
    have hik : vp_in (nI k) 12 := vp_in_nI (by omega) (by decide)
    have e2 : st 2 0 = nI P := by rw [hs 2 (by decide) (by decide)]; exact A.2.2.1
    have eT : st 25 k = nI (T k) - 1 := hT k (Nat.le_refl k) hk
    have hTP := hI.2.2.2.1
    refine ⟨hik, ?_⟩
    rw [n_cl (show k < 2 ^ 31 by omega), e2, eT]
    by_cases full : T k = P
    · exact b_t ((n_pm (by omega) (by omega)).mpr (by omega)) (hF st T bl hs (fun _ _ => rfl) full hI hT hB)
    have hlt : T k < P := by omega
    match f, hf, hS, hF with
    | 0, hf, _, _ => omega
    | f + 1, hf, hS, hF =>
      refine b_f (fun q => by have := (n_pm (a := P) (b := T k) (by omega) (by omega)).mp q; omega) ⟨hik, hik, fun s1 e1 => ⟨hik, ?_⟩⟩
      rw [n_pp] at e1
      have s1k : s1 25 k = nI (T k) := by rw [e1]; simp [tUp_ap]
      have s1i : ∀ i, i < k → s1 25 i = nI (T i) - 1 := fun i hi => by
        have : ¬ i = k := by omega
        rw [e1]
        simp [tUp_ap, this]
        exact hT i (by omega) (by omega)
      have s1o : ∀ κ, κ ≠ 25 → s1 κ = st κ := fun κ hκ => by rw [e1]; exact tUp_ne _ _ _ hκ
      have hs1 : sSame s s1 := fun κ a b => by rw [s1o κ a]; exact hs κ a b
      rw [s1k]
      -- on with the next value
      have next : ∀ (s4 : tSt) (bl2 : Nat → Nat → Prop), sSame s s4 → (∀ i, i ≤ k → s4 25 i = s1 25 i) → RB n s4 bl2 k → SI n P (sOk s) (sCl s gb) k (fun i => if i = k then T k + 1 else T i) bl2 → wp_M_takes_0 post (f + 1) (nI k) s4 := by
        intro s4 bl2 g1 g2 g3 g4
        refine m_takesL A hk f s4 (fun i => if i = k then T k + 1 else T i) bl2 (by simp; omega) g1 (fun i hi hin => ?_) g3 g4 (fun st' T1 bl' a1 a2 a3 a4 a5 a6 a7 a8 a9 a10 => ?_) (fun st' T1 bl' a1 a2 a3 a4 a5 a6 => ?_)
        · rw [g2 i hi]
          by_cases q : i = k
          · subst q
            simp only [if_pos]
            rw [s1k]
            exact (nI_pred (T i)).symm
          · simp only [if_neg q]
            exact s1i i (by omega)
        · have a2' : ∀ i, i < k → T1 i = T i := fun i hi => by
            have := a2 i hi
            rw [if_neg (by omega)] at this
            exact this
          have a3' : T k + 1 ≤ T1 k := by
            have := a3
            simp only [if_pos] at this
            exact this
          exact hS st' T1 bl' a1 a2' (by omega) a4 a5 a6 a7 a8 a9 a10
        · exact hF st' T1 bl' a1 (fun i hi => by
            have := a2 i hi
            rw [if_neg (by omega)] at this
            exact this) a3 a4 a5 a6
      refine m_hinders A hs1 hk hlt (fun hno => ?_) (fun i hi g1 g2 => ?_) (fun g1 g2 => ?_)
      · refine b_f (n_m1_ne (by omega)) (b_t (Int32.le_refl _) ?_)
        refine next s1 bl hs1 (fun _ _ => rfl) (fun i hi hin j => ?_) ?_
        · rw [s1o 26 (by decide)]; exact hB i hi hin j
        · exact SI_try hI hk hlt (by simp) (fun i hi => if_neg (by omega)) (fun _ _ _ => Iff.rfl) (fun _ h => h) (fun _ h => Or.inl h) (Or.inl hno)
      · refine b_f (n_m1_ne (by omega)) (b_f (nI_ge hi (by omega)) ⟨hik, hik, fun s4 e4 => ?_⟩)
        have s4o : ∀ κ, κ ≠ 26 → s4 κ = s1 κ := fun κ hκ => by rw [e4]; exact tUp_ne _ _ _ hκ
        have hTi : T i = T k + 1 := (n_pe (a := T i) (b := T k) (by have := (hI.1 i hi).2.1; omega) (by omega)).mp (by rw [← s1i i hi]; exact g1)
        refine next s4 (fun a j => bl a j ∨ (a = k ∧ j = i)) (fun κ a b => by rw [s4o κ b]; exact hs1 κ a b) (fun j _ => by rw [s4o 25 (by decide)]) (fun a ha han j => ?_) ?_
        · have h26 : s4 26 a = if a = k then s1 26 k ||| ((1 : Int32) <<< (nI i &&& 31)) else s1 26 a := by
            rw [e4]
            by_cases q : a = k
            · subst q; simp [tUp_ap]
            · simp [tUp_ap, q]
          rw [h26]
          by_cases q : a = k
          · subst q
            rw [if_pos rfl, b_or, s1o 26 (by decide)]
            by_cases hj : j < 32
            · rw [bt_shl (by omega) hj, Bool.or_eq_true, decide_eq_true_eq]
              refine ⟨fun z => ?_, fun z => ?_⟩
              · rcases z with z | ⟨-, z⟩
                · exact Or.inl ((hB a ha han j).mp z)
                · exact Or.inr z
              · rcases z with z | z
                · exact Or.inl ((hB a ha han j).mpr z)
                · exact Or.inr ⟨rfl, z⟩
            · rw [b_big (show 32 ≤ j by omega), b_big (show 32 ≤ j by omega)]
              refine ⟨fun z => ?_, fun z => by simp at z⟩
              rcases z with z | ⟨-, z⟩
              · have := hI.2.2.1 a j ha z
                omega
              · omega
          · rw [if_neg q, s1o 26 (by decide)]
            refine ⟨fun z => ?_, fun z => Or.inl ((hB a ha han j).mpr z)⟩
            rcases z with z | ⟨z, -⟩
            · exact (hB a ha han j).mp z
            · exact absurd z q
        · refine SI_try hI hk hlt (by simp) (fun i hi => if_neg (by omega)) (fun a ha j => ⟨fun z => ?_, Or.inl⟩) (fun _ h => Or.inl h) (fun j z => ?_) (Or.inr ⟨i, hi, Or.inr ⟨rfl, rfl⟩, hTi, g2⟩)
          · rcases z with z | ⟨z, -⟩
            · exact z
            · omega
          · rcases z with z | ⟨-, z⟩
            · exact Or.inl z
            · exact Or.inr (by omega)
      · refine b_t rfl (hS s1 T bl hs1 (fun _ _ => rfl) (Nat.le_refl _) hlt hI g1 (fun j hj hc e => ?_) s1i s1k (fun i hi hin j => by rw [s1o 26 (by decide)]; exact hB i hi hin j))
        refine g2 j hj ?_ hc
        rw [s1i j hj]
        exact (n_pe (a := T j) (b := T k) (by omega) (by omega)).mpr e
  termination_by f => f
/-- the last that is to blame -/
theorem m_lastL {st : tSt} {k l : Nat} {post : Int32 → tSt → Prop} {k118 : Int32 → Int32 → tSt → Prop} (hk : k < 12) (hl : l < k) (hb : bt (st 26 k) l = true) (hm : ∀ j, j < k → bt (st 26 k) j = true → j ≤ l) (h : k118 (nI k) (nI l) st) : ∀ (m b : Nat) (z : Int32), b + m = k → (l < b → z = nI l) → wp_M_canBePlayed_88 post k118 (m + 1) (nI k) z (nI b) st
  | 0, b, z, hbk, hz => by
    have e : b = k := by omega
    subst e
    have := hz hl
    subst this
    exact b_t (Int32.le_refl _) h
  | m + 1, b, z, hbk, hz => by
    refine b_f (nI_ge (by omega) (by omega)) ⟨vp_in_nI (by omega) (by decide), ?_⟩
    rw [n_cl (show k < 2 ^ 31 by omega)]
    refine m_has (by omega) ?_
    by_cases g : bt (st 26 k) b = true
    · rw [if_pos g]
      refine b_f (by decide) (fun y e => ?_)
      rw [nI_1] at e
      subst e
      refine m_lastL hk hl hb hm h m (b + 1) (nI b) (by omega) (fun q => ?_)
      have := hm b (by omega) g
      rw [show b = l by omega]
    · rw [if_neg g]
      refine b_t rfl (fun y e => ?_)
      rw [nI_1] at e
      subst e
      refine m_lastL hk hl hb hm h m (b + 1) z (by omega) (fun q => hz ?_)
      by_cases q2 : l = b
      · rw [q2] at hb; exact absurd hb g
      · omega
theorem max_bit (p : Nat → Bool) : ∀ k, (∃ j, j < k ∧ p j = true) → ∃ l, l < k ∧ p l = true ∧ ∀ j, j < k → p j = true → j ≤ l
  | 0, ⟨j, h, _⟩ => by omega
  | k + 1, ⟨j, h, hj⟩ => by
    cases hp : p k with
    | true => exact ⟨k, by omega, hp, fun j hj _ => by omega⟩
    | false =>
      have : j < k := by
        refine Nat.lt_of_le_of_ne (by omega) (fun e => ?_)
        rw [e, hp] at hj
        cases hj
      obtain ⟨l, h1, h2, h3⟩ := max_bit p k ⟨j, this, hj⟩
      refine ⟨l, by omega, h2, fun i hi hpi => h3 i ?_ hpi⟩
      refine Nat.lt_of_le_of_ne (by omega) (fun e => ?_)
      rw [e, hp] at hpi
      cases hpi
