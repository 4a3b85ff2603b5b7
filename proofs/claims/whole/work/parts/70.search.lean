/-! rows of pipers: valid, least; the reference's search -/
def Vd (n P : Nat) (ok cl : Nat → Nat → Prop) (g : Nat → Nat) : Prop := (∀ i, i < n → g i < P ∧ ok i (g i)) ∧ ∀ i j, i < j → j < n → cl i j → g i ≠ g j
def Lst (n P : Nat) (ok cl : Nat → Nat → Prop) (f : Nat → Nat) : Prop := Vd n P ok cl f ∧ ∀ g, Vd n P ok cl g → ∀ i, i < n → (∀ j, j < i → g j = f j) → f i ≤ g i
theorem Lst_uniq {n P : Nat} {ok cl : Nat → Nat → Prop} {f g : Nat → Nat} (hf : Lst n P ok cl f) (hg : Lst n P ok cl g) : ∀ i, i < n → f i = g i := by
  intro i
  induction i using Nat.strongRecOn with
  | _ i ih =>
    intro hi
    have h1 := hf.2 g hg.1 i hi (fun j hj => (ih j hj (by omega)).symm)
    have h2 := hg.2 f hf.1 i hi (fun j hj => ih j hj (by omega))
    omega
def SI (n P : Nat) (ok cl : Nat → Nat → Prop) (k : Nat) (T : Nat → Nat) (bl : Nat → Nat → Prop) : Prop :=
  (∀ i, i < k → 1 ≤ T i ∧ T i ≤ P ∧ ok i (T i - 1)) ∧ (∀ i j, i < j → j < k → cl i j → T i ≠ T j) ∧ (∀ i j, i ≤ k → bl i j → j < i) ∧ T k ≤ P ∧
  (∀ i, i ≤ k → i < n → ∀ v, (i < k → v + 1 < T i) → (i = k → v < T k) → ∀ g, Vd n P ok cl g → (∀ j, bl i j → g j + 1 = T j) → g i ≠ v)
theorem SI_start {n P : Nat} {ok cl : Nat → Nat → Prop} {T : Nat → Nat} {bl : Nat → Nat → Prop} (hT : T 0 = 0) (hb : ∀ j, ¬ bl 0 j) : SI n P ok cl 0 T bl := by
  refine ⟨fun i h => absurd h (by omega), fun i j h1 h2 => absurd h2 (by omega), fun i j hi h => ?_, by omega, fun i hi hn v _ h2 => ?_⟩
  · have : i = 0 := by omega
    subst this
    exact absurd h (hb j)
  · have : i = 0 := by omega
    subst this
    have := h2 rfl
    omega
/-- a value that is refused: by itself, or by an earlier part -/
theorem SI_try {n P k : Nat} {ok cl : Nat → Nat → Prop} {T T' : Nat → Nat} {bl bl' : Nat → Nat → Prop} (h : SI n P ok cl k T bl) (hk : k < n) (hP : T k < P) (hT : T' k = T k + 1) (hTo : ∀ i, i < k → T' i = T i) (hbo : ∀ i, i < k → ∀ j, (bl' i j ↔ bl i j)) (hbk : ∀ j, bl k j → bl' k j) (hbn : ∀ j, bl' k j → bl k j ∨ j < k)
    (why : ¬ ok k (T k) ∨ ∃ j, j < k ∧ bl' k j ∧ T j = T k + 1 ∧ cl j k) : SI n P ok cl k T' bl' := by
  obtain ⟨h1, h2, h3, h4, h5⟩ := h
  refine ⟨fun i hi => by rw [hTo i hi]; exact h1 i hi, fun i j hij hj hc => by rw [hTo i (by omega), hTo j hj]; exact h2 i j hij hj hc, fun i j hi hb => ?_, by omega, fun i hi hn v v1 v2 g hg hag => ?_⟩
  · by_cases hik : i = k
    · subst hik
      rcases hbn j hb with q | q
      · exact h3 i j (Nat.le_refl i) q
      · exact q
    · exact h3 i j hi ((hbo i (by omega) j).mp hb)
  · by_cases hik : i = k
    · subst hik
      have hv := v2 rfl
      have hag' : ∀ j, bl i j → g j + 1 = T j := fun j hj => by
        have := hag j (hbk j hj)
        rw [hTo j (h3 i j (Nat.le_refl i) hj)] at this
        exact this
      by_cases hvT : v = T i
      · subst hvT
        rcases why with q | ⟨j, q1, q2, q3, q4⟩
        · intro e
          have := (hg.1 i hn).2
          rw [e] at this
          exact q this
        · have e1 := hag j q2
          rw [hTo j q1, q3] at e1
          have e2 := hg.2 j i q1 hn q4
          omega
      · exact h5 i (Nat.le_refl i) hn v (fun q => absurd q (by omega)) (fun _ => by omega) g hg hag'
    · have hik' : i < k := by omega
      have hv := v1 hik'
      rw [hTo i hik'] at hv
      exact h5 i hi hn v (fun _ => hv) (fun q => absurd q hik) g hg (fun j hj => by
        have := hag j ((hbo i hik' j).mpr hj)
        rw [hTo j (by have := h3 i j hi hj; omega)] at this
        exact this)
/-- a value that is taken: to the next part -/
theorem SI_push {n P k : Nat} {ok cl : Nat → Nat → Prop} {T T' : Nat → Nat} {bl bl' : Nat → Nat → Prop} (h : SI n P ok cl k T bl) (hk : k < n) (hP : T k < P) (hT : T' k = T k + 1) (hTo : ∀ i, i < k → T' i = T i) (hbo : ∀ i, i ≤ k → ∀ j, (bl' i j ↔ bl i j)) (hTn : T' (k + 1) = 0) (hbn : ∀ j, ¬ bl' (k + 1) j) (hok : ok k (T k)) (hcl : ∀ j, j < k → cl j k → T j ≠ T k + 1) : SI n P ok cl (k + 1) T' bl' := by
  obtain ⟨h1, h2, h3, h4, h5⟩ := h
  refine ⟨fun i hi => ?_, fun i j hij hj hc => ?_, fun i j hi hb => ?_, by omega, fun i hi hn v v1 v2 g hg hag => ?_⟩
  · by_cases hik : i = k
    · subst hik
      rw [hT]
      exact ⟨by omega, by omega, hok⟩
    · rw [hTo i (by omega)]; exact h1 i (by omega)
  · by_cases hjk : j = k
    · subst hjk
      rw [hT, hTo i hij]
      exact hcl i hij hc
    · rw [hTo i (by omega), hTo j (by omega)]; exact h2 i j hij (by omega) hc
  · by_cases hik : i = k + 1
    · subst hik
      exact absurd hb (hbn j)
    · exact h3 i j (by omega) ((hbo i (by omega) j).mp hb)
  · by_cases hik : i = k + 1
    · subst hik
      have := v2 rfl
      omega
    · have hv := v1 (by omega)
      have hag' : ∀ j, bl i j → g j + 1 = T j := fun j hj => by
        have := hag j ((hbo i (by omega) j).mpr hj)
        rw [hTo j (by have := h3 i j (by omega) hj; omega)] at this
        exact this
      by_cases hik2 : i = k
      · subst hik2
        rw [hT] at hv
        exact h5 i (Nat.le_refl i) hn v (fun q => absurd q (by omega)) (fun _ => by omega) g hg hag'
      · rw [hTo i (by omega)] at hv
        exact h5 i (by omega) hn v (fun _ => hv) (fun q => absurd q hik2) g hg hag'
/-- no value is left, and nobody is to blame -/
theorem SI_none {n P k : Nat} {ok cl : Nat → Nat → Prop} {T : Nat → Nat} {bl : Nat → Nat → Prop} (h : SI n P ok cl k T bl) (hk : k < n) (hT : T k = P) (hb : ∀ j, ¬ bl k j) : ¬ ∃ g, Vd n P ok cl g := by
  rintro ⟨g, hg⟩
  have := h.2.2.2.2 k (Nat.le_refl k) hk (g k) (fun q => absurd q (by omega)) (fun _ => by rw [hT]; exact (hg.1 k hk).1) g hg (fun j hj => absurd hj (hb j))
  exact this rfl
/-- no value is left: back to the last that is to blame -/
theorem SI_back {n P k l : Nat} {ok cl : Nat → Nat → Prop} {T : Nat → Nat} {bl bl' : Nat → Nat → Prop} (h : SI n P ok cl k T bl) (hk : k < n) (hT : T k = P) (hl : bl k l) (hmax : ∀ j, bl k j → j ≤ l) (hbo : ∀ i, i < l → ∀ j, (bl' i j ↔ bl i j)) (hbl : ∀ j, (bl' l j ↔ bl l j ∨ (bl k j ∧ j ≠ l))) : SI n P ok cl l T bl' := by
  obtain ⟨h1, h2, h3, h4, h5⟩ := h
  have hlk : l < k := h3 k l (Nat.le_refl k) hl
  refine ⟨fun i hi => h1 i (by omega), fun i j hij hj hc => h2 i j hij (by omega) hc, fun i j hi hb => ?_, (h1 l hlk).2.1, fun i hi hn v v1 v2 g hg hag => ?_⟩
  · by_cases hil : i = l
    · subst hil
      rcases (hbl j).mp hb with q | ⟨q1, q2⟩
      · exact h3 i j (by omega) q
      · have := hmax j q1
        omega
    · exact h3 i j (by omega) ((hbo i (by omega) j).mp hb)
  · by_cases hil : i = l
    · subst hil
      have hv := v2 rfl
      have ha1 : ∀ j, bl i j → g j + 1 = T j := fun j hj => hag j ((hbl j).mpr (Or.inl hj))
      by_cases hvT : v + 1 = T i
      · intro e
        have hall : ∀ j, bl k j → g j + 1 = T j := fun j hj => by
          by_cases hji : j = i
          · rw [hji, e]; exact hvT
          · exact hag j ((hbl j).mpr (Or.inr ⟨hj, hji⟩))
        exact h5 k (Nat.le_refl k) hk (g k) (fun q => absurd q (by omega)) (fun _ => by rw [hT]; exact (hg.1 k hk).1) g hg hall rfl
      · exact h5 i (by omega) hn v (fun _ => by omega) (fun q => absurd q (by omega)) g hg ha1
    · exact h5 i (by omega) hn v (fun _ => v1 (by omega)) (fun q => absurd q (by omega)) g hg (fun j hj => hag j ((hbo i (by omega) j).mpr hj))
/-- all parts are taken: the row is the least one -/
theorem SI_done {n P : Nat} {ok cl : Nat → Nat → Prop} {T : Nat → Nat} {bl : Nat → Nat → Prop} (h : SI n P ok cl n T bl) : Lst n P ok cl (fun i => T i - 1) := by
  obtain ⟨h1, h2, h3, h4, h5⟩ := h
  refine ⟨⟨fun i hi => ?_, fun i j hij hj hc => ?_⟩, fun g hg i hi hag => ?_⟩
  · have := h1 i hi
    exact ⟨by show T i - 1 < P; omega, this.2.2⟩
  · have a := h1 i (by omega)
    have b := h1 j hj
    have := h2 i j hij hj hc
    show T i - 1 ≠ T j - 1
    omega
  · refine Nat.not_lt.mp (fun hlt => ?_)
    have hlt : g i < T i - 1 := hlt
    refine h5 i (by omega) hi (g i) (fun _ => by omega) (fun q => absurd q (by omega)) g hg (fun j hj => ?_) rfl
    have hj' := h3 i j (by omega) hj
    have a := h1 j (by omega)
    have : g j = T j - 1 := hag j hj'
    omega
/-! how far a search is: it only goes on -/
def pre9 (T : Nat → Nat) : Nat → Nat
  | 0 => 0
  | k + 1 => pre9 T k + T k * 9 ^ (13 - k)
def ms9 (T : Nat → Nat) (k : Nat) : Nat := pre9 T k + (T k + 1) * 9 ^ (13 - k)
theorem pre9_congr {T T' : Nat → Nat} : ∀ k, (∀ i, i < k → T i = T' i) → pre9 T k = pre9 T' k
  | 0, _ => rfl
  | k + 1, h => by
    show pre9 T k + T k * 9 ^ (13 - k) = pre9 T' k + T' k * 9 ^ (13 - k)
    rw [pre9_congr k (fun i hi => h i (by omega)), h k (by omega)]
theorem p9 {k : Nat} (h : k ≤ 13) : 9 ^ (14 - k) = 9 * 9 ^ (13 - k) := by
  rw [show 14 - k = (13 - k) + 1 by omega, Nat.pow_succ]
  omega
theorem pre9_le {T : Nat → Nat} {l : Nat} : ∀ k, l ≤ k → k ≤ 13 → (∀ i, i < k → T i ≤ 8) → pre9 T k + 9 ^ (14 - k) ≤ pre9 T l + 9 ^ (14 - l)
  | 0, h, _, _ => by
    have : l = 0 := by omega
    subst this
    exact Nat.le_refl _
  | k + 1, h, h13, hT => by
    by_cases e : l = k + 1
    · subst e; exact Nat.le_refl _
    · have ih := pre9_le (T := T) (l := l) k (by omega) (by omega) (fun i hi => hT i (by omega))
      have e1 := p9 (k := k) (by omega)
      have e2 : 14 - (k + 1) = 13 - k := by omega
      have e3 : T k * 9 ^ (13 - k) ≤ 8 * 9 ^ (13 - k) := Nat.mul_le_mul_right _ (hT k (by omega))
      show pre9 T k + T k * 9 ^ (13 - k) + 9 ^ (14 - (k + 1)) ≤ _
      rw [e2]
      omega
theorem ms9_lt {T : Nat → Nat} {k : Nat} (h13 : k ≤ 13) (hT : ∀ i, i < k → T i ≤ 8) (hk : T k ≤ 7) : ms9 T k < 9 ^ 14 := by
  have h1 := pre9_le (T := T) (l := 0) k (by omega) h13 hT
  have e1 := p9 (k := k) h13
  have e2 : (T k + 1) * 9 ^ (13 - k) ≤ 8 * 9 ^ (13 - k) := Nat.mul_le_mul_right _ (by omega)
  have e3 : 0 < 9 ^ (13 - k) := Nat.pow_pos (by decide)
  have e4 : pre9 T 0 = 0 := rfl
  have e5 : (14 : Nat) - 0 = 14 := rfl
  rw [e4, e5] at h1
  unfold ms9
  omega
theorem ms9_push {T T' : Nat → Nat} {k : Nat} (h12 : k ≤ 12) (hT : T k + 1 ≤ T' k) (hTo : ∀ i, i < k → T' i = T i) : ms9 T k < ms9 T' (k + 1) := by
  have e1 : pre9 T' k = pre9 T k := pre9_congr k hTo
  have e2 : (T k + 1) * 9 ^ (13 - k) ≤ T' k * 9 ^ (13 - k) := Nat.mul_le_mul_right _ hT
  have e3 : 0 < (T' (k + 1) + 1) * 9 ^ (13 - (k + 1)) := Nat.mul_pos (by omega) (Nat.pow_pos (by decide))
  show pre9 T k + (T k + 1) * 9 ^ (13 - k) < pre9 T' k + T' k * 9 ^ (13 - k) + (T' (k + 1) + 1) * 9 ^ (13 - (k + 1))
  omega
theorem ms9_back {T T0 : Nat → Nat} {k l : Nat} (h12 : k ≤ 12) (hl : l < k) (hT : ∀ i, i < k → T i ≤ 8) (hk : T0 k ≤ 7) (hTo : ∀ i, i < k → T0 i = T i) : ms9 T0 k < ms9 T l := by
  have e0 : pre9 T0 k = pre9 T k := pre9_congr k hTo
  have h1 := pre9_le (T := T) (l := l + 1) k (by omega) (by omega) hT
  have e1 := p9 (k := k) (by omega)
  have e2 : (T0 k + 1) * 9 ^ (13 - k) ≤ 8 * 9 ^ (13 - k) := Nat.mul_le_mul_right _ (by omega)
  have e3 : 0 < 9 ^ (13 - k) := Nat.pow_pos (by decide)
  have e4 : 14 - (l + 1) = 13 - l := by omega
  have e5 : pre9 T (l + 1) = pre9 T l + T l * 9 ^ (13 - l) := rfl
  have e6 : (T l + 1) * 9 ^ (13 - l) = T l * 9 ^ (13 - l) + 9 ^ (13 - l) := by rw [Nat.add_mul, Nat.one_mul]
  rw [e4, e5] at h1
  unfold ms9
  rw [e0, e6]
  omega
