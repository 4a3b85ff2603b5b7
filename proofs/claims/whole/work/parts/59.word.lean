/-! word: both sides read as 'parse' says -/
def kd (b : Int32) : Int32 := if b = 119 then 0 else if b = 102 then 1 else if b = 112 then 2 else if b = 103 then 3 else -1
def isDb (B : Nat → Int32) (n i : Nat) : Bool := decide (i < n) && (!decide (B i < 48) && !decide (57 < B i))
def dct (B : Nat → Int32) (n f : Nat) : Nat := if isDb B n f = true then (if isDb B n (f + 1) = true then (if isDb B n (f + 2) = true then (if isDb B n (f + 3) = true then 4 else 3) else 2) else 1) else 0
def dig (B : Nat → Int32) (i : Nat) : Nat := (B i).toNatClampNeg - 48
def val (B : Nat → Int32) (f : Nat) : Nat → Nat
  | 0 => 0
  | k + 1 => 10 * val B f k + dig B (f + k)
def parse (B : Nat → Int32) (n : Nat) : Nat → Nat → (Nat → Int32) → Int32 × (Nat → Int32)
  | 0, _, c => (0, c)
  | m + 1, i, c =>
    if n ≤ i ∨ kd (B i) = -1 then (nI (100 + i), c)
    else if dct B n (i + 1) = 0 then (nI (200 + (i + 1)), c)
    else if isDb B n (i + 1 + dct B n (i + 1)) = true then (nI (300 + (i + 1 + dct B n (i + 1))), c)
    else if ¬ nI (val B (i + 1) (dct B n (i + 1))) ≤ tab_HIGHEST (kd (B i)).toNatClampNeg then (nI (400 + (i + 1)), c)
    else if i + 1 + dct B n (i + 1) = n then (0, upd c (kd (B i)).toNatClampNeg (nI (val B (i + 1) (dct B n (i + 1)))))
    else if B (i + 1 + dct B n (i + 1)) = 59 then parse B n m (i + 1 + dct B n (i + 1) + 1) (upd c (kd (B i)).toNatClampNeg (nI (val B (i + 1) (dct B n (i + 1)))))
    else (nI (500 + (i + 1 + dct B n (i + 1))), c)
theorem dct_le (B : Nat → Int32) (n f : Nat) : dct B n f ≤ 4 := by
  unfold dct
  split
  · split
    · split
      · split <;> omega
      · omega
    · omega
  · omega
theorem dct_in (B : Nat → Int32) (n f : Nat) : ∀ j, j < dct B n f → isDb B n (f + j) = true := by
  intro j hj
  unfold dct at hj
  by_cases h0 : isDb B n f = true
  · by_cases h1 : isDb B n (f + 1) = true
    · by_cases h2 : isDb B n (f + 2) = true
      · by_cases h3 : isDb B n (f + 3) = true
        · simp [h0, h1, h2, h3] at hj
          rcases (by omega : j = 0 ∨ j = 1 ∨ j = 2 ∨ j = 3) with rfl | rfl | rfl | rfl <;> assumption
        · simp [h0, h1, h2, h3] at hj
          rcases (by omega : j = 0 ∨ j = 1 ∨ j = 2) with rfl | rfl | rfl <;> assumption
      · simp [h0, h1, h2] at hj
        rcases (by omega : j = 0 ∨ j = 1) with rfl | rfl <;> assumption
    · simp [h0, h1] at hj
      subst hj
      exact h0
  · simp [h0] at hj
theorem dct_end (B : Nat → Int32) (n f : Nat) : dct B n f = 4 ∨ ¬ isDb B n (f + dct B n f) = true := by
  by_cases h0 : isDb B n f = true
  · by_cases h1 : isDb B n (f + 1) = true
    · by_cases h2 : isDb B n (f + 2) = true
      · by_cases h3 : isDb B n (f + 3) = true
        · exact Or.inl (by simp [dct, h0, h1, h2, h3])
        · have e : dct B n f = 3 := by simp [dct, h0, h1, h2, h3]
          rw [e]; exact Or.inr h3
      · have e : dct B n f = 2 := by simp [dct, h0, h1, h2]
        rw [e]; exact Or.inr h2
    · have e : dct B n f = 1 := by simp [dct, h0, h1]
      rw [e]; exact Or.inr h1
  · have e : dct B n f = 0 := by simp [dct, h0]
    rw [e]; exact Or.inr h0
theorem isDb_lt {B : Nat → Int32} {n i : Nat} (h : isDb B n i = true) : i < n := by
  unfold isDb at h
  simp at h
  exact h.1
theorem isDb_dig {B : Nat → Int32} {n i : Nat} (h : isDb B n i = true) : dig B i ≤ 9 ∧ B i = nI (48 + dig B i) := by
  unfold isDb at h
  simp only [Bool.and_eq_true, decide_eq_true_eq, Bool.not_eq_true', decide_eq_false_iff_not] at h
  obtain ⟨j, h1, h2, h3⟩ := n_btw (x := B i) (a := 48) (b := 57) (by decide) (by decide) h.2.1 h.2.2
  unfold dig
  rw [h3, n_cl (show j < 2 ^ 31 by omega)]
  exact ⟨by omega, by rw [show 48 + (j - 48) = j by omega]⟩
theorem dct_lt {B : Nat → Int32} {n f : Nat} (h : f ≤ n) : f + dct B n f ≤ n := by
  cases hd : dct B n f with
  | zero => omega
  | succ k =>
    have := isDb_lt (dct_in B n f k (by omega))
    omega
theorem val_lt {B : Nat → Int32} {n f : Nat} : ∀ k, (∀ j, j < k → isDb B n (f + j) = true) → val B f k < 10 ^ k
  | 0, _ => by show 0 < 10 ^ 0; decide
  | k + 1, h => by
    have h1 := val_lt k (fun j hj => h j (by omega))
    have h2 := (isDb_dig (h k (by omega))).1
    show 10 * val B f k + dig B (f + k) < 10 ^ (k + 1)
    rw [Nat.pow_succ]
    omega
theorem val_small {B : Nat → Int32} {n f k : Nat} (hk : k ≤ 4) (h : ∀ j, j < k → isDb B n (f + j) = true) : val B f k < 10000 := by
  have h1 := val_lt k h
  have h2 : 10 ^ k ≤ 10 ^ 4 := Nat.pow_le_pow_right (by decide) hk
  have : (10 : Nat) ^ 4 = 10000 := by decide
  omega
theorem kd_cases (b : Int32) : kd b = -1 ∨ ∃ k : Nat, k < 4 ∧ kd b = nI k ∧ b = tab_LETTERS k ∧ ∀ j, j < k → ¬ b = tab_LETTERS j := by
  unfold kd
  by_cases h0 : b = 119
  · exact Or.inr ⟨0, by decide, by rw [if_pos h0]; rfl, h0, fun j hj => absurd hj (by omega)⟩
  by_cases h1 : b = 102
  · refine Or.inr ⟨1, by decide, by rw [if_neg h0, if_pos h1]; rfl, h1, fun j hj => ?_⟩
    have : j = 0 := by omega
    subst this; exact h0
  by_cases h2 : b = 112
  · refine Or.inr ⟨2, by decide, by rw [if_neg h0, if_neg h1, if_pos h2]; rfl, h2, fun j hj => ?_⟩
    rcases (by omega : j = 0 ∨ j = 1) with rfl | rfl
    · exact h0
    · exact h1
  by_cases h3 : b = 103
  · refine Or.inr ⟨3, by decide, by rw [if_neg h0, if_neg h1, if_neg h2, if_pos h3]; rfl, h3, fun j hj => ?_⟩
    rcases (by omega : j = 0 ∨ j = 1 ∨ j = 2) with rfl | rfl | rfl
    · exact h0
    · exact h1
    · exact h2
  · exact Or.inl (by rw [if_neg h0, if_neg h1, if_neg h2, if_neg h3])
theorem kd_none {b : Int32} (h : kd b = -1) : ∀ j, j < 4 → ¬ b = tab_LETTERS j := by
  intro j hj e
  unfold kd at h
  rcases (by omega : j = 0 ∨ j = 1 ∨ j = 2 ∨ j = 3) with rfl | rfl | rfl | rfl
  · have e : b = 119 := e
    simp [e] at h
  · have e : b = 102 := e
    simp [e] at h
  · have e : b = 112 := e
    simp [e] at h
  · have e : b = 103 := e
    simp [e] at h
-- the class's helpers
theorem c_byte {st : tSt} {L i : Nat} {post : Int32 → tSt → Prop} (hl : st 5 0 = nI L) (hL : L ≤ 40) (hi : i < L) (h : post (st 6 i) st) : wp_Tape_byteAt (nI i) st post := by
  refine c_w1 (nI_pos (by omega)) ?_ (b_f (by decide) ⟨vp_in_nI (by omega) (by decide), ?_⟩)
  · rw [hl, show nI L - 1 = nI (L - 1) from by rw [show L = (L - 1) + 1 by omega]; exact nI_pred _]
    exact nI_nlt (by omega) (by omega)
  · rw [n_cl (show i < 2 ^ 31 by omega)]
    exact h
theorem c_kind0 {st : tSt} {n i : Nat} {post : Int32 → tSt → Prop} (hn : n ≤ 40) (h0 : n ≤ i) (hi : i ≤ 41) (h : post (-1) st) : wp_TownWord_kindAt (nI i) (nI n) st post := ⟨1, b_f (by decide) (b_t (nI_le h0 (by omega)) h)⟩
theorem c_kindL {st : tSt} {L n i : Nat} {post : Int32 → tSt → Prop} (hl : st 5 0 = nI L) (hL : L ≤ 40) (hn : n ≤ L) (hi : i < n) : ∀ (m k : Nat), k + m = 4 → (∀ j, j < k → ¬ st 6 i = tab_LETTERS j) → (post (kd (st 6 i)) st) → wp_TownWord_kindAt_2 post (m + 1) (nI i) (nI n) (nI k) st
  | 0, k, hk, A, h => by
    have e : k = 4 := by omega
    subst e
    refine b_t (by decide) ?_
    rcases kd_cases (st 6 i) with g | ⟨j, g1, g2, g3, g4⟩
    · rw [g] at h; exact h
    · exact absurd g3 (A j g1)
  | m + 1, k, hk, A, h => by
    refine b_f (nI_ge (a := k) (b := 4) (by omega) (by decide)) (b_f (nI_ge hi (by omega)) (c_byte hl hL (by omega) ⟨vp_in_nI (by omega) (by decide), ?_⟩))
    rw [n_cl (show k < 2 ^ 31 by omega)]
    by_cases g : st 6 i = tab_LETTERS k
    · refine b_t g ?_
      rcases kd_cases (st 6 i) with g5 | ⟨j, g1, g2, g3, g4⟩
      · exact absurd g (kd_none g5 k (by omega))
      · have : j = k := by
          rcases Nat.lt_trichotomy j k with q | q | q
          · exact absurd g3 (A j q)
          · exact q
          · exact absurd g (g4 k q)
        subst this
        rw [g2] at h
        exact h
    · refine b_f g (fun y e => ?_)
      rw [nI_1] at e
      subst e
      refine c_kindL hl hL hn hi m (k + 1) (by omega) (fun j hj => ?_) h
      by_cases q : j = k
      · rw [q]; exact g
      · exact A j (by omega)
theorem c_digit {st : tSt} {L n i : Nat} {post : Int32 → tSt → Prop} (hl : st 5 0 = nI L) (hL : L ≤ 40) (hn : n ≤ L) (hi : i ≤ 50) (h : post (if isDb (st 6) n i = true then 1 else 0) st) : wp_TownWord_isDigit (nI i) (nI n) st post := by
  by_cases hin : i < n
  · refine b_f (nI_ge hin (by omega)) (c_byte hl hL (by omega) ?_)
    rcases w_dec (st 6 i) 48 57 with g | ⟨g1, g2⟩
    · have e : isDb (st 6) n i = false := by
        unfold isDb
        rcases g with g | g <;> simp [g]
      rw [e] at h
      exact c_w0 g (b_t rfl h)
    · have e : isDb (st 6) n i = true := by
        unfold isDb
        simp only [Bool.and_eq_true, decide_eq_true_eq, Bool.not_eq_true', decide_eq_false_iff_not]
        exact ⟨hin, g1, g2⟩
      rw [e] at h
      exact c_w1 g1 g2 (b_f (by decide) h)
  · have e : isDb (st 6) n i = false := by
      unfold isDb
      simp [hin]
    rw [e] at h
    exact b_t (nI_le (by omega) (by omega)) h
theorem c_endL {st : tSt} {L n f : Nat} {post : Int32 → tSt → Prop} (hl : st 5 0 = nI L) (hL : L ≤ 40) (hn : n ≤ L) (hf : f ≤ 41) (h : post (nI (f + dct (st 6) n f)) st) : ∀ m k : Nat, k + m = dct (st 6) n f → wp_TownWord_endOfDigits_2 post (m + 1) (nI f) (nI n) (nI (f + k)) st
  | 0, k, hk => by
    have e : k = dct (st 6) n f := by omega
    have h4 : nI f + 4 = nI (f + 4) := nI_add f 4
    have hle := dct_le (st 6) n f
    rw [e]
    by_cases g : dct (st 6) n f = 4
    · exact b_t (by rw [h4, g]; exact Int32.le_refl _) h
    · refine b_f (by rw [h4]; exact nI_ge (by omega) (by omega)) (c_digit hl hL hn (by omega) ?_)
      rcases dct_end (st 6) n f with q | q
      · exact absurd q g
      · rw [if_neg q]
        exact b_t rfl h
  | m + 1, k, hk => by
    have h4 : nI f + 4 = nI (f + 4) := nI_add f 4
    have hle := dct_le (st 6) n f
    refine b_f (by rw [h4]; exact nI_ge (by omega) (by omega)) (c_digit hl hL hn (by omega) ?_)
    rw [if_pos (dct_in (st 6) n f k (by omega))]
    refine b_f (by decide) (fun y e => ?_)
    rw [nI_1] at e
    subst e
    exact c_endL hl hL hn hf h m (k + 1) (by omega)
theorem n_step {B : Nat → Int32} {n f k : Nat} (hk : k < 4) (h : ∀ j, j ≤ k → isDb B n (f + j) = true) : nI (val B f k) * 10 + B (f + k) - 48 = nI (val B f (k + 1)) ∧ 10 * nI (val B f k) + B (f + k) - 48 = nI (val B f (k + 1)) := by
  have e1 := (isDb_dig (h k (Nat.le_refl k))).2
  have m1 : nI (val B f k) * 10 = nI (val B f k * 10) := pk_mul _ 10
  have m2 : 10 * nI (val B f k) = nI (10 * val B f k) := pk_mul 10 _
  rw [e1, m1, m2, nI_add, nI_add]
  have s1 : nI (val B f k * 10 + (48 + dig B (f + k))) - 48 = nI (val B f k * 10 + (48 + dig B (f + k)) - 48) := pk_sub (a := val B f k * 10 + (48 + dig B (f + k))) (b := 48) (by omega)
  have s2 : nI (10 * val B f k + (48 + dig B (f + k))) - 48 = nI (10 * val B f k + (48 + dig B (f + k)) - 48) := pk_sub (a := 10 * val B f k + (48 + dig B (f + k))) (b := 48) (by omega)
  rw [s1, s2]
  show nI _ = nI (10 * val B f k + dig B (f + k)) ∧ nI _ = nI (10 * val B f k + dig B (f + k))
  exact ⟨by congr 1; omega, by congr 1; omega⟩
theorem c_numL {st : tSt} {L n f K : Nat} {post : Int32 → tSt → Prop} (hl : st 5 0 = nI L) (hL : L ≤ 40) (hn : n ≤ L) (hK : K ≤ 4) (A : ∀ j, j < K → isDb (st 6) n (f + j) = true) (hf : f ≤ 41) (h : post (nI (val (st 6) f K)) st) : ∀ m k : Nat, k + m = K → wp_TownWord_numberBetween_5 post (m + 1) (nI (f + K)) (nI (val (st 6) f k)) (nI (f + k)) st
  | 0, k, hk => by
    have e : k = K := by omega
    subst e
    exact b_t (Int32.le_refl _) h
  | m + 1, k, hk => by
    have hd := isDb_lt (A k (by omega))
    refine b_f (nI_ge (by omega) (by omega)) (c_byte hl hL (by omega) (fun y1 e1 y2 e2 => ?_))
    rw [nI_1] at e2
    rw [(n_step (by omega) (fun j hj => A j (by omega))).1] at e1
    subst e1; subst e2
    exact c_numL hl hL hn hK A hf h m (k + 1) (by omega)
