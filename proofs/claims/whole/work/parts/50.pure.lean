/-! the pure side: numbers, branches, states -/
theorem b_t {c A B : Prop} (h : c) (a : A) : (c → A) ∧ (¬ c → B) := ⟨fun _ => a, fun n => absurd h n⟩
theorem b_f {c A B : Prop} (h : ¬ c) (b : B) : (c → A) ∧ (¬ c → B) := ⟨fun n => absurd n h, fun _ => b⟩
theorem tUp_ap (st : tSt) (k j : Nat) (v : Int32) (k' j' : Nat) : tUp st k j v k' j' = if k' = k ∧ j' = j then v else st k' j' := by
  unfold tUp upd
  by_cases h : k' = k
  · subst h
    by_cases h2 : j' = j <;> simp [h2]
  · simp [h]
theorem tUpA_ap (st : tSt) (k : Nat) (g : Nat → Int32) (k' j' : Nat) : tUpA st k g k' j' = if k' = k then g j' else st k' j' := by
  unfold tUpA
  by_cases h : k' = k <;> simp [h]
theorem n_m1_ne {n : Nat} (h : n < 2 ^ 31) : ¬ nI n = -1 := by
  intro e
  have h1 := congrArg Int32.toInt e
  rw [nI_toInt h] at h1
  have h2 : (-1 : Int32).toInt = -1 := by decide
  omega
theorem n_cl {n : Nat} (h : n < 2 ^ 31) : (nI n).toNatClampNeg = n := nI_clamp h
/-- between two small numbers -/
theorem n_btw {x : Int32} {a b : Nat} (ha : a < 2 ^ 31) (hb : b < 2 ^ 31) (h1 : ¬ x < nI a) (h2 : ¬ nI b < x) : ∃ j : Nat, a ≤ j ∧ j ≤ b ∧ x = nI j := by
  have g1 := Int32.not_lt.mp h1
  have g2 := Int32.not_lt.mp h2
  rw [Int32.le_iff_toInt_le, nI_toInt ha] at g1
  rw [Int32.le_iff_toInt_le, nI_toInt hb] at g2
  refine ⟨x.toInt.toNat, by omega, by omega, ?_⟩
  apply Int32.toInt_inj.mp
  rw [nI_toInt (by omega)]
  omega
-- within and lies
theorem c_w1 {x lo hi : Int32} {st : tSt} {post : Int32 → tSt → Prop} (h1 : ¬ x < lo) (h2 : ¬ hi < x) (h : post 1 st) : wp_T_within x lo hi st post := b_f h1 (b_f h2 h)
theorem c_w0 {x lo hi : Int32} {st : tSt} {post : Int32 → tSt → Prop} (h1 : x < lo ∨ hi < x) (h : post 0 st) : wp_T_within x lo hi st post := by
  by_cases g : x < lo
  · exact b_t g h
  · rcases h1 with h1 | h1
    · exact absurd h1 g
    · exact b_f g (b_t h1 h)
theorem m_w1 {x lo hi : Int32} {st : tSt} {post : Int32 → tSt → Prop} (h1 : ¬ x < lo) (h2 : ¬ hi < x) (h : post 1 st) : wp_M_lies x lo hi st post := b_f h1 (b_f h2 h)
theorem m_w0 {x lo hi : Int32} {st : tSt} {post : Int32 → tSt → Prop} (h1 : x < lo ∨ hi < x) (h : post 0 st) : wp_M_lies x lo hi st post := by
  by_cases g : x < lo
  · exact b_t g h
  · rcases h1 with h1 | h1
    · exact absurd h1 g
    · exact b_f g (b_t h1 h)
theorem w_dec (x lo hi : Int32) : (x < lo ∨ hi < x) ∨ (¬ x < lo ∧ ¬ hi < x) := by
  by_cases g : x < lo
  · exact Or.inl (Or.inl g)
  · by_cases g2 : hi < x
    · exact Or.inl (Or.inr g2)
    · exact Or.inr ⟨g, g2⟩
-- pipers
theorem c_isP1 {st : tSt} {P i : Nat} {post : Int32 → tSt → Prop} (hp : st 0 0 = nI P) (hP : P ≤ 6) (hi : i < P) (h : post 1 st) : wp_T_isPiper (nI i) st post := by
  refine c_w1 (by exact nI_pos (by omega)) ?_ ⟨Or.inr rfl, h⟩
  rw [hp, show nI P - 1 = nI (P - 1) from by rw [show P = (P - 1) + 1 by omega]; exact nI_pred _]
  exact nI_nlt (by omega) (by omega)
theorem c_isP0 {st : tSt} {P : Nat} {x : Int32} {post : Int32 → tSt → Prop} (hp : st 0 0 = nI P) (hP : P ≤ 6) (hx : x < 0 ∨ nI P ≤ x) (h : post 0 st) : wp_T_isPiper x st post := by
  refine c_w0 ?_ ⟨Or.inl rfl, h⟩
  rcases hx with hx | hx
  · exact Or.inl hx
  · by_cases hneg : x < 0
    · exact Or.inl hneg
    refine Or.inr ?_
    rw [hp]
    rw [Int32.le_iff_toInt_le, nI_toInt (by omega)] at hx
    rw [Int32.lt_iff_toInt_lt]
    have e : (nI P - nI 1).toInt = (P : Int) - 1 := pk_sub_toInt (by omega) (by omega)
    have e2 : (nI P - 1 : Int32) = nI P - nI 1 := rfl
    rw [e2, e]
    omega
theorem m_isP1 {st : tSt} {P i : Nat} {post : Int32 → tSt → Prop} (hp : st 2 0 = nI P) (hP : P ≤ 6) (hi : i < P) (h : post 1 st) : wp_M_isPiper (nI i) st post := by
  refine m_w1 (by exact nI_pos (by omega)) ?_ ⟨Or.inr rfl, h⟩
  rw [hp, show nI P - 1 = nI (P - 1) from by rw [show P = (P - 1) + 1 by omega]; exact nI_pred _]
  exact nI_nlt (by omega) (by omega)
theorem m_isP0 {st : tSt} {P : Nat} {x : Int32} {post : Int32 → tSt → Prop} (hp : st 2 0 = nI P) (hP : P ≤ 6) (hx : x < 0 ∨ nI P ≤ x) (h : post 0 st) : wp_M_isPiper x st post := by
  refine m_w0 ?_ ⟨Or.inl rfl, h⟩
  rcases hx with hx | hx
  · exact Or.inl hx
  · by_cases hneg : x < 0
    · exact Or.inl hneg
    refine Or.inr ?_
    rw [hp]
    rw [Int32.le_iff_toInt_le, nI_toInt (by omega)] at hx
    rw [Int32.lt_iff_toInt_lt]
    have e : (nI P - nI 1).toInt = (P : Int) - 1 := pk_sub_toInt (by omega) (by omega)
    have e2 : (nI P - 1 : Int32) = nI P - nI 1 := rfl
    rw [e2, e]
    omega
theorem p_ix (x : Int32) {P : Nat} (hP : P ≤ 6) : (x < 0 ∨ nI P ≤ x) ∨ ∃ i : Nat, i < P ∧ x = nI i := by
  rcases pk_ix x (n := P) (by omega) with h | h | h
  · exact Or.inl (Or.inl h)
  · exact Or.inl (Or.inr h)
  · exact Or.inr h
/-! what the class's state and the reference's state have in common -/
def rTape (s t : tSt) : Prop := ∃ L : Nat, L ≤ 40 ∧ s 5 0 = nI L ∧ t 0 0 = nI L ∧ ∀ i, i < L → s 6 i = t 9 i &&& 255
def rWord (s t : tSt) : Prop := (∀ i, i < 4 → s 7 i = t 10 i) ∧ ∃ w f p g : Nat, w ≤ 20 ∧ f ≤ 100 ∧ p ≤ 9999 ∧ g ≤ 9999 ∧ s 7 0 = nI w ∧ s 7 1 = nI f ∧ s 7 2 = nI p ∧ s 7 3 = nI g
def rPip (s t : tSt) (P : Nat) : Prop := P ≤ 6 ∧ s 0 0 = nI P ∧ t 2 0 = nI P ∧ (∀ i, i < P → s 9 i = t 12 i ∧ s 10 i = t 13 i ∧ ∃ r : Nat, 1 ≤ r ∧ r ≤ 9 ∧ s 9 i = nI r) ∧ (∀ i, i < 6 → s 11 i = t 14 i ∧ s 12 i = t 15 i ∧ (s 11 i = 0 ∨ s 11 i = 1 ∨ s 11 i = 2)) ∧ ∀ i, P ≤ i → i < 6 → s 10 i = 0 ∧ s 11 i = 0
def rPieces (s t : tSt) : Prop := ∀ i, i < 5 → s 23 i = t 16 i ∧ ∃ n : Nat, n ≤ 3 ∧ s 23 i = nI n
def rCallOK (f : Nat → Int32) : Prop := ∃ o fr le pl oc on fe : Nat, o ≤ 3 ∧ 1 ≤ le ∧ le ≤ 24 ∧ fr + le ≤ 96 ∧ pl ≤ 9 ∧ oc ≤ 5 ∧ on ≤ 4 ∧ fe ≤ 9999 ∧ f 0 = nI o ∧ f 1 = nI fr ∧ f 2 = nI le ∧ f 3 = nI pl ∧ f 4 = nI oc ∧ f 5 = nI on ∧ (f 6 = -1 ∨ ∃ tw : Nat, tw ≤ 4 ∧ f 6 = nI tw) ∧ f 7 = nI fe
def rCall1 (s t : tSt) (c : Nat) : Prop := (s 13 c = 0 ∧ t 17 (8 * c) = -1) ∨ (s 13 c = 1 ∧ (∀ k, k < 8 → s (14 + c) k = t 17 (8 * c + k)) ∧ rCallOK (s (14 + c)))
def rCalls (s t : tSt) : Prop := ∀ c, c < 6 → rCall1 s t c
def rTunes (s t : tSt) (T : Nat) : Prop := T ≤ 10 ∧ s 1 0 = nI T ∧ t 3 0 = nI T ∧ (∀ i, i < T → s 20 i = t 18 i ∧ s 21 i = t 19 i) ∧ ∀ i, T ≤ i → i < 10 → s 20 i = 0 ∧ s 21 i = 0 ∧ s 22 i = -1
def rHeard (s t : tSt) (T D : Nat) : Prop := D ≤ 9999 ∧ s 2 0 = nI D ∧ t 1 0 = nI D ∧ (∃ N : Nat, N ≤ 6 * D ∧ t 5 0 = nI N ∧ ∀ i, i < T → (s 22 i = -1 ∧ t 20 i = -1 ∧ t 21 i = 0) ∨ ∃ u h : Nat, u < 6 * D ∧ 1 ≤ h ∧ h ≤ N ∧ s 22 i = nI u ∧ t 20 i = nI (u / 6) ∧ t 21 i = nI h) ∧ ∀ i j, i < T → j < T → (s 22 i < s 22 j ↔ t 21 i < t 21 j)
def rBase (s t : tSt) : Prop := rTape s t ∧ rWord s t ∧ (∃ P, rPip s t P) ∧ rPieces s t ∧ rCalls s t ∧ (∃ T D, rTunes s t T ∧ rHeard s t T D) ∧ s 3 0 = t 4 0
/-- PO: what holds of a plan that is kept -/
def tRel (PO : tSt → Prop) (s t : tSt) : Prop := rBase s t ∧ (s 4 0 = 0 ∨ (s 4 0 = 1 ∧ PO s))
