/-! parts that are tied to a part -/
theorem cntb_mono {b c : Nat → Bool} : ∀ {n : Nat}, (∀ k, k < n → b k = true → c k = true) → cntb b n ≤ cntb c n
  | 0, _ => Nat.le_refl 0
  | n + 1, h => by
    have ih := cntb_mono (b := b) (c := c) (n := n) (fun k hk => h k (by omega))
    unfold cntb
    by_cases g : b n = true
    · rw [if_pos g, if_pos (h n (by omega) g)]; omega
    · rw [if_neg g]; omega
theorem cntb_lt {b c : Nat → Bool} : ∀ {n r : Nat}, (∀ k, k < n → b k = true → c k = true) → r < n → c r = true → b r = false → cntb b n < cntb c n
  | 0, r, _, hr, _, _ => by omega
  | n + 1, r, h, hr, hc, hb => by
    unfold cntb
    by_cases e : r = n
    · subst e
      have := cntb_mono (b := b) (c := c) (n := r) (fun k hk => h k (by omega))
      rw [if_pos hc, hb]
      simp
      omega
    · have ih := cntb_lt (b := b) (c := c) (n := n) (r := r) (fun k hk => h k (by omega)) (by omega) hc hb
      by_cases g : b n = true
      · rw [if_pos g, if_pos (h n (by omega) g)]; omega
      · rw [if_neg g]; omega
theorem bt_all : ∀ n, n < 13 → ∀ k, k < 32 → bt (((1 : Int32) <<< (nI n &&& 31)) - 1) k = decide (k < n) := by decide +kernel
theorem inB_32 {x : Int32} {k : Nat} (h : inB x k) : k < 32 := Nat.lt_of_not_le (fun q => by
  have := b_big (x := x) q
  unfold inB at h
  rw [this] at h
  cases h)
theorem inB_all {n k : Nat} (hn : n ≤ 12) : inB (((1 : Int32) <<< (nI n &&& 31)) - 1) k ↔ k < n := by
  constructor
  · intro h
    have hk := inB_32 h
    unfold inB at h
    rw [bt_all n (by omega) k hk] at h
    simpa using h
  · intro h
    unfold inB
    rw [bt_all n (by omega) k (by omega)]
    simpa using h
theorem inB_ext {x y : Int32} (h : ∀ k, inB x k ↔ inB y k) : x = y := by
  refine b_ext (fun i _ => ?_)
  have := h i
  unfold inB at this
  cases hx : bt x i <;> cases hy : bt y i <;> simp_all
theorem inB_or {x y : Int32} {k : Nat} : inB (x ||| y) k ↔ (inB x k ∨ inB y k) := by
  unfold inB
  rw [b_or, Bool.or_eq_true]
theorem inB_and {x y : Int32} {k : Nat} : inB (x &&& y) k ↔ (inB x k ∧ inB y k) := by
  unfold inB
  rw [b_and, Bool.and_eq_true]
theorem nB_le12 (x : Int32) : nB x ≤ 12 := cntb_le _ 12
theorem nB_lt {x y : Int32} (h : ∀ k, inB x k → inB y k) (h12 : ∀ k, inB y k → k < 12) (hne : ¬ y = x) : nB x < nB y := by
  have : ∃ r, inB y r ∧ ¬ inB x r := by
    refine Classical.byContradiction (fun q => hne (inB_ext (fun k => ⟨fun hk => ?_, h k⟩)))
    exact Classical.byContradiction (fun z => q ⟨k, hk, z⟩)
  obtain ⟨r, r1, r2⟩ := this
  refine cntb_lt (r := r) (fun k _ hk => h k hk) (h12 r r1) r1 ?_
  cases hb : bt x r with
  | false => rfl
  | true => exact absurd hb r2
/-- one round -/
theorem c_tied29 {st : tSt} {n : Nat} {left t0 : Int32} {x5 : Int32} {post : Int32 → tSt → Prop} {k65 : Int32 → Int32 → Int32 → Int32 → tSt → Prop} (hn : n ≤ 12) (hc : st 27 0 = nI n) (h0 : ∀ k, inB t0 k → k < n)
    (h : ∀ t : Int32, (∀ k, inB t0 k → inB t k) → (∀ k, inB t k → inB t0 k ∨ inB left k) → (∀ j k, inB t0 j → brS st j k → inB left k → inB t k) → k65 left t t0 x5 st) : ∀ (m k : Nat) (t : Int32), k + m = n → (∀ j, inB t0 j → inB t j) → (∀ j, inB t j → inB t0 j ∨ inB left j) → (∀ j i, j < k → inB t0 j → brS st j i → inB left i → inB t i) → wp_Cast_tiedTo_29 post k65 (m + 1) left t t0 x5 (nI k) st
  | 0, k, t, hk, a1, a2, a3 => by
    have e : k = n := by omega
    subst e
    exact b_t (by rw [hc]; exact Int32.le_refl _) (h t a1 a2 (fun j i hj => a3 j i (h0 j hj) hj))
  | m + 1, k, t, hk, a1, a2, a3 => by
    refine b_f (by rw [hc]; exact nI_ge (by omega) (by omega)) (c_has (by omega) ?_)
    by_cases g : bt t k = true
    · rw [if_pos g]
      refine b_f (by decide) ⟨vp_in_nI (by omega) (by decide), fun y3 e3 y6 e6 => ?_⟩
      rw [n_cl (show k < 2 ^ 31 by omega)] at e3
      rw [nI_1] at e6
      subst e3; subst e6
      refine c_tied29 hn hc h0 h m (k + 1) _ (by omega) (fun j hj => inB_or.mpr (Or.inl (a1 j hj))) (fun j hj => ?_) (fun j i hj hj0 hb hl => ?_)
      · rcases inB_or.mp hj with q | q
        · exact a2 j q
        · exact Or.inr (inB_and.mp q).2
      · by_cases e : j = k
        · subst e
          exact inB_or.mpr (Or.inr (inB_and.mpr ⟨hb, hl⟩))
        · exact inB_or.mpr (Or.inl (a3 j i (by omega) hj0 hb hl))
    · rw [if_neg g]
      refine b_t rfl (fun y6 e6 => ?_)
      rw [nI_1] at e6
      subst e6
      refine c_tied29 hn hc h0 h m (k + 1) t (by omega) a1 a2 (fun j i hj hj0 hb hl => ?_)
      by_cases e : j = k
      · subst e
        exact absurd (a1 j hj0) g
      · exact a3 j i (by omega) hj0 hb hl
theorem c_tied10 {st : tSt} {n part : Nat} {left : Int32} {post : Int32 → tSt → Prop} (hn : n ≤ 12) (hc : st 27 0 = nI n) (hl : ∀ k, inB left k → k < n) (hp : part < n)
    (h : ∀ t : Int32, inB t part → (∀ k, inB t k → inB left k ∨ k = part) → (∀ j k, inB t j → brS st j k → inB left k → inB t k) → post t st) : ∀ (m z : Nat) (t t0 : Int32), z + m = 12 → inB t part → (∀ k, inB t k → inB left k ∨ k = part) → (t = t0 → ∀ j k, inB t j → brS st j k → inB left k → inB t k) → (¬ t = t0 → z + 1 ≤ nB t) → wp_Cast_tiedTo_10 post (m + 1) left t t0 (nI z) st
  | 0, z, t, t0, hz, a1, a2, a3, a4 => by
    have e : z = 12 := by omega
    subst e
    refine b_t (by decide) (h t a1 a2 (a3 ?_))
    refine Classical.byContradiction (fun q => ?_)
    have := a4 q
    have := nB_le12 t
    omega
  | m + 1, z, t, t0, hz, a1, a2, a3, a4 => by
    refine b_f (nI_ge (a := z) (b := 12) (by omega) (by decide)) ?_
    by_cases q : t = t0
    · exact b_t q (h t a1 a2 (a3 q))
    have tn : ∀ k, inB t k → k < n := fun k hk => by
      rcases a2 k hk with w | w
      · exact hl k w
      · omega
    refine b_f q ⟨n + 1, c_tied29 hn hc tn (fun t' b1 b2 b3 => ?_) n 0 t (by omega) (fun _ h => h) (fun _ h => Or.inl h) (fun j i hj => absurd hj (by omega))⟩
    intro y5 e5
    rw [nI_1] at e5
    subst e5
    refine c_tied10 hn hc hl hp h m (z + 1) t' t (by omega) (b1 part a1) (fun k hk => ?_) (fun e j k hj hb hlk => ?_) (fun hne => ?_)
    · rcases b2 k hk with w | w
      · exact a2 k w
      · exact Or.inl w
    · subst e
      exact b3 j k hj hb hlk
    · have := a4 q
      have := nB_lt b1 (fun k hk => by
        rcases b2 k hk with w | w
        · have := tn k w
          omega
        · have := hl k w
          omega) hne
      omega
theorem c_tiedTo {st : tSt} {n part : Nat} {left : Int32} {post : Int32 → tSt → Prop} (hn : n ≤ 12) (hc : st 27 0 = nI n) (hl : ∀ k, inB left k → k < n) (hp : part < n)
    (h : ∀ t : Int32, inB t part → (∀ k, inB t k → inB left k ∨ k = part) → (∀ j k, inB t j → brS st j k → inB left k → inB t k) → post t st) : wp_Cast_tiedTo (nI part) left st post := by
  intro y e
  have hbit : ∀ k, inB y k ↔ k = part := by
    intro k
    rw [e]
    constructor
    · intro hk
      have h32 := inB_32 hk
      unfold inB at hk
      rw [bt_shl (by omega) h32] at hk
      simpa using hk
    · intro hk
      unfold inB
      rw [bt_shl (by omega) (by omega)]
      simpa using hk
  refine ⟨13, c_tied10 hn hc hl hp h 12 0 y 0 rfl ((hbit part).mpr rfl) (fun k hk => Or.inr ((hbit k).mp hk)) (fun e0 => ?_) (fun _ => ?_)⟩
  · have : inB (0 : Int32) part := by rw [← e0]; exact (hbit part).mpr rfl
    unfold inB at this
    rw [b_0] at this
    cases this
  · exact cntb_pos (r := part) (by omega) ((hbit part).mpr rfl)
