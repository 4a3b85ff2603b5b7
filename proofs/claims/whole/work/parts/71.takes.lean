/-! single bits -/
theorem bt_1 : ∀ i, i < 32 → bt 1 i = decide (i = 0) := by decide +kernel
theorem hb_1 (y : Int32) : (y &&& 1) = 1 ↔ bt y 0 = true := by
  constructor
  · intro h
    have h1 := congrArg (fun z => bt z 0) h
    have h2 : bt 1 0 = true := by decide +kernel
    simp only [b_and, h2, Bool.and_true] at h1
    exact h1
  · intro h
    refine b_ext (fun i hi => ?_)
    rw [b_and, bt_1 i hi]
    by_cases h0 : i = 0
    · subst h0; simp [h]
    · simp [h0]
theorem hb_k (x : Int32) {k : Nat} (hk : k < 32) : ((x >>> (nI k &&& 31)) &&& 1) = 1 ↔ bt x k = true := by
  rw [hb_1, b_sshr k hk x (by decide)]
  rw [if_pos (by omega)]
  rfl
theorem bt_shl {k i : Nat} (hk : k < 32) (hi : i < 32) : bt ((1 : Int32) <<< (nI k &&& 31)) i = decide (i = k) := by
  rw [b_shl k hk 1 hi]
  by_cases h : k ≤ i
  · rw [bt_1 (i - k) (by omega)]
    by_cases e : i = k
    · subst e; simp
    · have : ¬ i - k = 0 := by omega
      simp [e, this]
  · have : ¬ i = k := by omega
    simp [h, this]
theorem bt_not {x : Int32} {i : Nat} (hi : i < 32) : bt (x ^^^ -1) i = !bt x i := by
  rw [b_xor, b_m1 i hi]
  cases bt x i <;> rfl
theorem m_has {x : Int32} {k : Nat} {st : tSt} {post : Int32 → tSt → Prop} (hk : k < 32) (h : post (if bt x k = true then 1 else 0) st) : wp_M_has x (nI k) st post := by
  by_cases g : bt x k = true
  · rw [if_pos g] at h
    exact b_t ((hb_k x hk).mpr g) h
  · rw [if_neg g] at h
    exact b_f (fun q => g ((hb_k x hk).mp q)) h
theorem c_has {x : Int32} {k : Nat} {st : tSt} {post : Int32 → tSt → Prop} (hk : k < 32) (h : post (if bt x k = true then 1 else 0) st) : wp_T_hasBit x (nI k) st post := by
  by_cases g : bt x k = true
  · rw [if_pos g] at h
    first | exact b_t ((hb_k x hk).mpr g) h | exact b_f (fun q => q ((hb_k x hk).mpr g)) h
  · rw [if_neg g] at h
    first | exact b_f (fun q => g ((hb_k x hk).mp q)) h | exact b_t (fun q => g ((hb_k x hk).mp q)) h
/-! the reference: hinders and takes -/
def sOk (s : tSt) (i p : Nat) : Prop := s 14 p = 0 ∧ bt (s 13 p) (s 24 i).toNatClampNeg = true
def sCl (s : tSt) (gb : Nat → Nat → Bool) (i j : Nat) : Prop := s 23 i = s 23 j ∨ gb i j = false
def sSame (s st : tSt) : Prop := ∀ k, k ≠ 25 → k ≠ 26 → st k = s k
def SA (s : tSt) (n P : Nat) (gb : Nat → Nat → Bool) : Prop := P ≤ 6 ∧ n ≤ 12 ∧ s 2 0 = nI P ∧ s 8 0 = nI n ∧ (∀ i, i < n → ∃ x : Nat, x ≤ 4 ∧ s 24 i = nI x) ∧ ∀ st, sSame s st → ∀ i j, i < j → j < n → ¬ s 23 i = s 23 j → ∀ post : Int32 → tSt → Prop, post (if gb i j = true then 1 else 0) st → wp_M_goes (s 23 i) (s 23 j) st post
theorem m_hindL {s st : tSt} {n P k : Nat} {gb : Nat → Nat → Bool} {p : Int32} {post : Int32 → tSt → Prop} (A : SA s n P gb) (hs : sSame s st) (hk : k < n)
    (h1 : ∀ i, i < k → st 25 i = p → sCl s gb i k → post (nI i) st) (h0 : (∀ i, i < k → st 25 i = p → ¬ sCl s gb i k) → post (-1) st) : ∀ m j : Nat, j + m = k → (∀ i, i < j → st 25 i = p → ¬ sCl s gb i k) → wp_M_hinders_31 post (m + 1) (nI k) p (nI j) st
  | 0, j, hj, hno => by
    have e : j = k := by omega
    subst e
    exact b_t (Int32.le_refl _) (h0 hno)
  | m + 1, j, hj, hno => by
    have hn := A.2.1
    have hin : vp_in (nI j) 12 := vp_in_nI (by omega) (by decide)
    have hik : vp_in (nI k) 12 := vp_in_nI (by omega) (by decide)
    have next : (st 25 j = p → ¬ sCl s gb j k) → ∀ y : Int32, y = nI j + 1 → wp_M_hinders_31 post (m + 1) (nI k) p y st := by
      intro hnj y e
      rw [nI_1] at e
      subst e
      refine m_hindL A hs hk h1 h0 m (j + 1) (by omega) (fun i hi => ?_)
      by_cases q : i = j
      · subst q; exact hnj
      · exact hno i (by omega)
    refine b_f (nI_ge (by omega) (by omega)) ⟨hin, ?_⟩
    rw [n_cl (show j < 2 ^ 31 by omega), n_cl (show k < 2 ^ 31 by omega)]
    by_cases g : st 25 j = p
    case neg => exact b_f g (next (fun q => absurd q g))
    refine b_t g ⟨hin, hik, ?_⟩
    have e23 : st 23 = s 23 := hs 23 (by decide) (by decide)
    rw [e23]
    by_cases g2 : s 23 j = s 23 k
    · exact b_t g2 (h1 j (by omega) g (Or.inl g2))
    refine b_f g2 ⟨hin, hik, A.2.2.2.2.2 st hs j k (by omega) hk g2 _ ?_⟩
    by_cases g3 : gb j k = true
    · rw [if_pos g3]
      exact b_f (by decide) (next (fun _ q => by
        rcases q with q | q
        · exact g2 q
        · rw [g3] at q; cases q))
    · rw [if_neg g3]
      exact b_t rfl (h1 j (by omega) g (Or.inr (by cases hgb : gb j k with | true => exact absurd hgb g3 | false => rfl)))
theorem m_hinders {s st : tSt} {n P k p : Nat} {gb : Nat → Nat → Bool} {post : Int32 → tSt → Prop} (A : SA s n P gb) (hs : sSame s st) (hk : k < n) (hp : p < P)
    (hb : ¬ sOk s k p → post (nI k) st) (h1 : ∀ i, i < k → st 25 i = nI p → sCl s gb i k → post (nI i) st) (h0 : sOk s k p → (∀ i, i < k → st 25 i = nI p → ¬ sCl s gb i k) → post (-1) st) : wp_M_hinders (nI k) (nI p) st post := by
  have hP := A.1
  have hn := A.2.1
  have hin : vp_in (nI p) 6 := vp_in_nI (by omega) (by decide)
  have hik : vp_in (nI k) 12 := vp_in_nI (by omega) (by decide)
  have e14 : st 14 = s 14 := hs 14 (by decide) (by decide)
  have e13 : st 13 = s 13 := hs 13 (by decide) (by decide)
  have e24 : st 24 = s 24 := hs 24 (by decide) (by decide)
  refine ⟨hin, ?_⟩
  rw [n_cl (show p < 2 ^ 31 by omega), n_cl (show k < 2 ^ 31 by omega), e14, e13, e24]
  obtain ⟨x, hx, ex⟩ := A.2.2.2.2.1 k hk
  by_cases g : s 14 p = 0
  case neg => exact b_f g (hb (fun q => g q.1))
  refine b_t g ⟨hin, hik, ?_⟩
  have ecl : (s 24 k).toNatClampNeg = x := by rw [ex]; exact n_cl (by omega)
  rw [ex]
  refine m_has (by omega) ?_
  by_cases g2 : bt (s 13 p) x = true
  · rw [if_pos g2]
    refine b_f (by decide) ⟨k + 1, m_hindL A hs hk h1 (h0 ⟨g, by rw [ecl]; exact g2⟩) k 0 (by omega) (fun i hi => absurd hi (by omega))⟩
  · rw [if_neg g2]
    exact b_t rfl (hb (fun q => g2 (by have := q.2; rw [ecl] at this; exact this)))
def RT (n : Nat) (st : tSt) (T : Nat → Nat) (k : Nat) : Prop := ∀ i, i ≤ k → i < n → st 25 i = nI (T i) - 1
def RB (n : Nat) (st : tSt) (bl : Nat → Nat → Prop) (k : Nat) : Prop := ∀ i, i ≤ k → i < n → ∀ j, (bl i j ↔ bt (st 26 i) j = true)
theorem n_pm {a b : Nat} (ha : a ≤ 13) (hb : b ≤ 13) : nI a - 1 ≤ nI b - 1 ↔ a ≤ b := by
  have e1 : (nI a - nI 1).toInt = (a : Int) - 1 := pk_sub_toInt (by omega) (by omega)
  have e2 : (nI b - nI 1).toInt = (b : Int) - 1 := pk_sub_toInt (by omega) (by omega)
  have f1 : (nI a - 1 : Int32) = nI a - nI 1 := rfl
  have f2 : (nI b - 1 : Int32) = nI b - nI 1 := rfl
  rw [f1, f2, Int32.le_iff_toInt_le, e1, e2]
  omega
theorem n_pe {a b : Nat} (ha : a ≤ 13) (hb : b ≤ 13) : nI a - 1 = nI b ↔ a = b + 1 := by
  have e1 : (nI a - nI 1).toInt = (a : Int) - 1 := pk_sub_toInt (by omega) (by omega)
  have f1 : (nI a - 1 : Int32) = nI a - nI 1 := rfl
  rw [f1]
  constructor
  · intro h
    have := congrArg Int32.toInt h
    rw [e1, nI_toInt (by omega)] at this
    omega
  · intro h
    refine Int32.toInt_inj.mp ?_
    rw [e1, nI_toInt (by omega)]
    omega
theorem n_pp (a : Nat) : nI a - 1 + 1 = nI a := by
  exact Int32.sub_add_cancel _ _
