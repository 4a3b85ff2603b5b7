/-! call -/
def inR (v : Int32) (k : Nat) : Prop := ¬ v < tab_LEAST k ∧ ¬ tab_MOST k < v
theorem inR_dec (v : Int32) (k : Nat) : inR v k ∨ ¬ inR v k := Classical.em _
theorem c_cb {st : tSt} {post : Int32 → tSt → Prop} {k35 : tSt → Prop} (A : ∀ j, j < 8 → inR (st 24 j) j) (h : k35 st) : ∀ m k : Nat, k + m = 8 → wp_Call_canBe_2 post k35 (m + 1) (nI k) st
  | 0, k, hk => by
    have e : k = 8 := by omega
    subst e
    exact b_t (by decide) h
  | m + 1, k, hk => by
    have hin : vp_in (nI k) 8 := vp_in_nI (by omega) (by decide)
    refine b_f (nI_ge (a := k) (b := 8) (by omega) (by decide)) ⟨hin, hin, hin, ?_⟩
    rw [n_cl (show k < 2 ^ 31 by omega)]
    refine c_w1 (A k (by omega)).1 (A k (by omega)).2 (b_f (by decide) (fun y e => ?_))
    rw [nI_1] at e
    subst e
    exact c_cb A h m (k + 1) (by omega)
theorem c_cb0 {st : tSt} {post : Int32 → tSt → Prop} {k35 : tSt → Prop} (h : post 0 st) : ∀ m k : Nat, k + m = 8 → (∃ j, k ≤ j ∧ j < 8 ∧ ¬ inR (st 24 j) j) → wp_Call_canBe_2 post k35 (m + 1) (nI k) st
  | 0, k, hk, ⟨j, h1, h2, _⟩ => by omega
  | m + 1, k, hk, ⟨j, h1, h2, h3⟩ => by
    have hin : vp_in (nI k) 8 := vp_in_nI (by omega) (by decide)
    refine b_f (nI_ge (a := k) (b := 8) (by omega) (by decide)) ⟨hin, hin, hin, ?_⟩
    rw [n_cl (show k < 2 ^ 31 by omega)]
    rcases w_dec (st 24 k) (tab_LEAST k) (tab_MOST k) with g | ⟨g1, g2⟩
    · exact c_w0 g (b_t rfl h)
    · refine c_w1 g1 g2 (b_f (by decide) (fun y e => ?_))
      rw [nI_1] at e
      subst e
      have hne : j ≠ k := fun e => h3 (by rw [e]; exact ⟨g1, g2⟩)
      exact c_cb0 h m (k + 1) (by omega) ⟨j, by omega, h2, h3⟩
theorem c_canBe1 {st : tSt} {post : Int32 → tSt → Prop} (A : ∀ j, j < 8 → inR (st 24 j) j) (hs : ¬ (96 : Int32) < st 24 1 + st 24 2) (h : post 1 st) : wp_Call_canBe st post := ⟨9, c_cb A (b_f hs h) 8 0 rfl⟩
theorem c_canBe0 {st : tSt} {post : Int32 → tSt → Prop} (A : ¬ ((∀ j, j < 8 → inR (st 24 j) j) ∧ ¬ (96 : Int32) < st 24 1 + st 24 2)) (h : post 0 st) : wp_Call_canBe st post := by
  by_cases g : ∀ j, j < 8 → inR (st 24 j) j
  · have hs : (96 : Int32) < st 24 1 + st 24 2 := Classical.byContradiction (fun n => A ⟨g, n⟩)
    exact ⟨9, c_cb g (b_t hs h) 8 0 rfl⟩
  · refine ⟨9, c_cb0 h 8 0 rfl ?_⟩
    refine Classical.byContradiction (fun n => g (fun j hj => ?_))
    rcases inR_dec (st 24 j) j with z | z
    · exact z
    · exact absurd ⟨j, Nat.zero_le j, hj, z⟩ n
-- the first number that is free
theorem first_free (b : Nat → Bool) : ∀ n, (∀ c, c < n → b c = true) ∨ ∃ c, c < n ∧ b c = false ∧ ∀ d, d < c → b d = true
  | 0 => Or.inl (fun c h => absurd h (by omega))
  | n + 1 => by
    rcases first_free b n with h | ⟨c, h1, h2, h3⟩
    · cases hb : b n with
      | true => exact Or.inl (fun c hc => by
          by_cases e : c = n
          · rw [e]; exact hb
          · exact h c (by omega))
      | false => exact Or.inr ⟨n, by omega, hb, h⟩
    · exact Or.inr ⟨c, by omega, h2, h3⟩
theorem c_free0 {st : tSt} {post : Int32 → tSt → Prop} (A : ∀ c, c < 6 → ¬ st 13 c = 0) (h : post (-1) st) : ∀ m k : Nat, k + m = 6 → wp_T_freeCall_2 post (m + 1) (nI k) st
  | 0, k, hk => by
    have e : k = 6 := by omega
    subst e
    exact b_t (by decide) h
  | m + 1, k, hk => by
    refine b_f (nI_ge (a := k) (b := 6) (by omega) (by decide)) ⟨vp_in_nI (by omega) (by decide), ?_⟩
    rw [n_cl (show k < 2 ^ 31 by omega)]
    refine b_f (A k (by omega)) (fun y e => ?_)
    rw [nI_1] at e
    subst e
    exact c_free0 A h m (k + 1) (by omega)
theorem c_free1 {st : tSt} {post : Int32 → tSt → Prop} {c : Nat} (hc : c < 6) (h0 : st 13 c = 0) (A : ∀ d, d < c → ¬ st 13 d = 0) (h : post (nI c) st) : ∀ m k : Nat, k + m = c → wp_T_freeCall_2 post (m + 1) (nI k) st
  | 0, k, hk => by
    have e : k = c := by omega
    subst e
    refine b_f (nI_ge (a := k) (b := 6) (by omega) (by decide)) ⟨vp_in_nI (by omega) (by decide), ?_⟩
    rw [n_cl (show k < 2 ^ 31 by omega)]
    exact b_t h0 h
  | m + 1, k, hk => by
    refine b_f (nI_ge (a := k) (b := 6) (by omega) (by decide)) ⟨vp_in_nI (by omega) (by decide), ?_⟩
    rw [n_cl (show k < 2 ^ 31 by omega)]
    refine b_f (A k (by omega)) (fun y e => ?_)
    rw [nI_1] at e
    subst e
    exact c_free1 hc h0 A h m (k + 1) (by omega)
theorem m_free0 {st : tSt} {post : Int32 → tSt → Prop} {k116 : Int32 → Int32 → Int32 → Int32 → Int32 → Int32 → Int32 → Int32 → Int32 → tSt → Prop} {x1 x2 x3 x4 x5 x6 x7 x8 : Int32} (A : ∀ c, c < 6 → ¬ st 17 (8 * c) = -1) (h : post (-1) st) : ∀ m k : Nat, k + m = 6 → wp_M_call_97 post k116 (m + 1) x1 x2 x3 x4 x5 x6 x7 x8 (nI k) st
  | 0, k, hk => by
    have e : k = 6 := by omega
    subst e
    exact b_t (by decide) h
  | m + 1, k, hk => by
    refine b_f (nI_ge (a := k) (b := 6) (by omega) (by decide)) (m_isC1 (by omega) (A k (by omega)) (b_f (by decide) (fun y e => ?_)))
    rw [nI_1] at e
    subst e
    exact m_free0 A h m (k + 1) (by omega)
theorem m_free1 {st : tSt} {post : Int32 → tSt → Prop} {k116 : Int32 → Int32 → Int32 → Int32 → Int32 → Int32 → Int32 → Int32 → Int32 → tSt → Prop} {x1 x2 x3 x4 x5 x6 x7 x8 : Int32} {c : Nat} (hc : c < 6) (h0 : st 17 (8 * c) = -1) (A : ∀ d, d < c → ¬ st 17 (8 * d) = -1) (h : k116 x1 x2 x3 x4 x5 x6 x7 x8 (nI c) st) : ∀ m k : Nat, k + m = c → wp_M_call_97 post k116 (m + 1) x1 x2 x3 x4 x5 x6 x7 x8 (nI k) st
  | 0, k, hk => by
    have e : k = c := by omega
    subst e
    exact b_f (nI_ge (a := k) (b := 6) (by omega) (by decide)) (m_isC0 (by omega) h0 (b_t rfl h))
  | m + 1, k, hk => by
    refine b_f (nI_ge (a := k) (b := 6) (by omega) (by decide)) (m_isC1 (by omega) (A k (by omega)) (b_f (by decide) (fun y e => ?_)))
    rw [nI_1] at e
    subst e
    exact m_free1 hc h0 A h m (k + 1) (by omega)
theorem n_m1 {x : Int32} (h1 : ¬ x < -1) (h2 : ¬ x = -1) : ¬ x < 0 := by
  intro h
  have g1 := Int32.not_lt.mp h1
  rw [Int32.le_iff_toInt_le] at g1
  rw [Int32.lt_iff_toInt_lt] at h
  have e1 : (-1 : Int32).toInt = -1 := by decide
  have e0 : (0 : Int32).toInt = 0 := by decide
  refine h2 (Int32.toInt_inj.mp ?_)
  omega
theorem n_m1' {x : Int32} (h : x < -1) : x < 0 ∧ ¬ x = -1 := by
  rw [Int32.lt_iff_toInt_lt] at h ⊢
  have e1 : (-1 : Int32).toInt = -1 := by decide
  have e0 : (0 : Int32).toInt = 0 := by decide
  refine ⟨by omega, fun e => ?_⟩
  rw [e] at h
  omega
/-- the eight numbers of a call, as a row -/
def row8 (x1 x2 x3 x4 x5 x6 x7 x8 : Int32) : Nat → Int32 := fun k => match k with
  | 0 => x1
  | 1 => x2
  | 2 => x3
  | 3 => x4
  | 4 => x5
  | 5 => x6
  | 6 => x7
  | _ => x8
def rowOK (X : Nat → Int32) : Prop := (∀ j, j < 8 → inR (X j) j) ∧ ¬ (96 : Int32) < X 1 + X 2
theorem m_call {x1 x2 x3 x4 x5 x6 x7 x8 : Int32} {st : tSt} {post : Int32 → tSt → Prop} (hbad : ¬ rowOK (row8 x1 x2 x3 x4 x5 x6 x7 x8) → post (-1) st) (hok : rowOK (row8 x1 x2 x3 x4 x5 x6 x7 x8) → ∃ q, wp_M_call_97 post (wp_M_call_116 post) q x1 x2 x3 x4 x5 x6 x7 x8 0 st) : wp_M_call x1 x2 x3 x4 x5 x6 x7 x8 st post := by
  rcases w_dec x1 0 3 with h | ⟨a1, b1⟩
  · exact m_w0 h (b_t rfl (hbad (fun g => by have := g.1 0 (by decide); rcases h with h | h; exact this.1 h; exact this.2 h)))
  refine m_w1 a1 b1 (b_f (by decide) ?_)
  rcases w_dec x2 0 95 with h | ⟨a2, b2⟩
  · exact m_w0 h (b_t rfl (hbad (fun g => by have := g.1 1 (by decide); rcases h with h | h; exact this.1 h; exact this.2 h)))
  refine m_w1 a2 b2 (b_f (by decide) ?_)
  rcases w_dec x3 1 24 with h | ⟨a3, b3⟩
  · exact m_w0 h (b_t rfl (hbad (fun g => by have := g.1 2 (by decide); rcases h with h | h; exact this.1 h; exact this.2 h)))
  refine m_w1 a3 b3 (b_f (by decide) ?_)
  by_cases hs : (96 : Int32) < x2 + x3
  · exact b_t hs (hbad (fun g => g.2 hs))
  refine b_f hs ?_
  rcases w_dec x4 0 9 with h | ⟨a4, b4⟩
  · exact m_w0 h (b_t rfl (hbad (fun g => by have := g.1 3 (by decide); rcases h with h | h; exact this.1 h; exact this.2 h)))
  refine m_w1 a4 b4 (b_f (by decide) ?_)
  rcases w_dec x5 0 5 with h | ⟨a5, b5⟩
  · exact m_w0 h (b_t rfl (hbad (fun g => by have := g.1 4 (by decide); rcases h with h | h; exact this.1 h; exact this.2 h)))
  refine m_w1 a5 b5 (b_f (by decide) ?_)
  rcases w_dec x6 0 4 with h | ⟨a6, b6⟩
  · exact m_w0 h ⟨Or.inl rfl, b_t rfl (hbad (fun g => by have := g.1 5 (by decide); rcases h with h | h; exact this.1 h; exact this.2 h))⟩
  refine m_w1 a6 b6 ⟨Or.inr rfl, b_f (by decide) ?_⟩
  have last : inR x7 6 → wp_M_call_80 post x1 x2 x3 x4 x5 x6 x7 x8 st := by
    intro i7
    rcases w_dec x8 0 9999 with h | ⟨a8, b8⟩
    · exact m_w0 h (b_t rfl (hbad (fun g => by have := g.1 7 (by decide); rcases h with h | h; exact this.1 h; exact this.2 h)))
    refine m_w1 a8 b8 (b_f (by decide) (hok ⟨fun j hj => ?_, hs⟩))
    match j, hj with
    | 0, _ => exact ⟨a1, b1⟩
    | 1, _ => exact ⟨a2, b2⟩
    | 2, _ => exact ⟨a3, b3⟩
    | 3, _ => exact ⟨a4, b4⟩
    | 4, _ => exact ⟨a5, b5⟩
    | 5, _ => exact ⟨a6, b6⟩
    | 6, _ => exact i7
    | 7, _ => exact ⟨a8, b8⟩
    | _ + 8, h => exact absurd h (by omega)
  by_cases h7 : x7 = -1
  · exact b_t h7 (last (by subst h7; exact ⟨by decide, by decide⟩))
  refine b_f h7 ?_
  rcases w_dec x7 0 4 with h | ⟨a7, b7⟩
  · refine m_w0 h ⟨Or.inl rfl, b_t rfl (hbad (fun g => ?_))⟩
    have := g.1 6 (by decide)
    rcases h with h | h
    · exact n_m1 this.1 h7 h
    · exact this.2 h
  · exact m_w1 a7 b7 ⟨Or.inr rfl, b_f (by decide) (last ⟨fun h => a7 (n_m1' h).1, b7⟩)⟩
theorem m_116 {x1 x2 x3 x4 x5 x6 x7 x8 : Int32} {st : tSt} {post : Int32 → tSt → Prop} {c : Nat} (hc : c < 6) (h : ∀ t' : tSt, (∀ j, t' 17 j = if 8 * c ≤ j ∧ j < 8 * c + 8 then row8 x1 x2 x3 x4 x5 x6 x7 x8 (j - 8 * c) else st 17 j) → (∀ k, k ≠ 17 → t' k = st k) → post (nI c) t') : wp_M_call_116 post x1 x2 x3 x4 x5 x6 x7 x8 (nI c) st := by
  have i0 : (8 : Int32) * nI c = nI (8 * c) := n_8 hc
  have ik : ∀ k : Nat, k < 8 → (8 : Int32) * nI c + nI k = nI (8 * c + k) := fun k hk => n_8k hc hk
  have v : ∀ k : Nat, k < 8 → vp_in (nI (8 * c + k)) 48 := fun k hk => vp_in_nI (by omega) (by decide)
  have cl : ∀ k : Nat, k < 8 → (nI (8 * c + k)).toNatClampNeg = 8 * c + k := fun k hk => nI_clamp (by omega)
  unfold wp_M_call_116
  rw [i0, show nI (8 * c) + (1 : Int32) = nI (8 * c + 1) from nI_add _ 1, show nI (8 * c) + (2 : Int32) = nI (8 * c + 2) from nI_add _ 2, show nI (8 * c) + (3 : Int32) = nI (8 * c + 3) from nI_add _ 3, show nI (8 * c) + (4 : Int32) = nI (8 * c + 4) from nI_add _ 4, show nI (8 * c) + (5 : Int32) = nI (8 * c + 5) from nI_add _ 5, show nI (8 * c) + (6 : Int32) = nI (8 * c + 6) from nI_add _ 6, show nI (8 * c) + (7 : Int32) = nI (8 * c + 7) from nI_add _ 7]
  rw [cl 1 (by decide), cl 2 (by decide), cl 3 (by decide), cl 4 (by decide), cl 5 (by decide), cl 6 (by decide), cl 7 (by decide), show (nI (8 * c)).toNatClampNeg = 8 * c from cl 0 (by decide)]
  refine ⟨v 0 (by decide), fun s1 e1 => ⟨v 1 (by decide), fun s2 e2 => ⟨v 2 (by decide), fun s3 e3 => ⟨v 3 (by decide), fun s4 e4 => ⟨v 4 (by decide), fun s5 e5 => ⟨v 5 (by decide), fun s6 e6 => ⟨v 6 (by decide), fun s7 e7 => ⟨v 7 (by decide), fun s8 e8 => ?_⟩⟩⟩⟩⟩⟩⟩⟩
  subst e8; subst e7; subst e6; subst e5; subst e4; subst e3; subst e2; subst e1
  refine h _ (fun j => ?_) (fun k hk => ?_)
  · by_cases hj : 8 * c ≤ j ∧ j < 8 * c + 8
    · rw [if_pos hj]
      obtain ⟨d, rfl⟩ : ∃ d, j = 8 * c + d := ⟨j - 8 * c, by omega⟩
      have hd : d < 8 := by omega
      rw [show 8 * c + d - 8 * c = d by omega]
      match d, hd with
      | 0, _ => simp [tUp_ap, row8]
      | 1, _ => simp [tUp_ap, row8]
      | 2, _ => simp [tUp_ap, row8]
      | 3, _ => simp [tUp_ap, row8]
      | 4, _ => simp [tUp_ap, row8]
      | 5, _ => simp [tUp_ap, row8]
      | 6, _ => simp [tUp_ap, row8]
      | 7, _ => simp [tUp_ap, row8]
      | _ + 8, h => exact absurd h (by omega)
    · rw [if_neg hj]
      have n0 : ¬ j = 8 * c := by omega
      have n1 : ¬ j = 8 * c + 1 := by omega
      have n2 : ¬ j = 8 * c + 2 := by omega
      have n3 : ¬ j = 8 * c + 3 := by omega
      have n4 : ¬ j = 8 * c + 4 := by omega
      have n5 : ¬ j = 8 * c + 5 := by omega
      have n6 : ¬ j = 8 * c + 6 := by omega
      have n7 : ¬ j = 8 * c + 7 := by omega
      simp [tUp_ap, n0, n1, n2, n3, n4, n5, n6, n7]
  · rw [tUp_ne _ _ _ hk, tUp_ne _ _ _ hk, tUp_ne _ _ _ hk, tUp_ne _ _ _ hk, tUp_ne _ _ _ hk, tUp_ne _ _ _ hk, tUp_ne _ _ _ hk, tUp_ne _ _ _ hk]
theorem row_callOK {X : Nat → Int32} (h : rowOK X) : rCallOK X := by
  obtain ⟨A, hs⟩ := h
  obtain ⟨o, -, o2, o3⟩ := n_btw (x := X 0) (a := 0) (b := 3) (by decide) (by decide) (A 0 (by decide)).1 (A 0 (by decide)).2
  obtain ⟨fr, -, f2, f3⟩ := n_btw (x := X 1) (a := 0) (b := 95) (by decide) (by decide) (A 1 (by decide)).1 (A 1 (by decide)).2
  obtain ⟨le, l1, l2, l3⟩ := n_btw (x := X 2) (a := 1) (b := 24) (by decide) (by decide) (A 2 (by decide)).1 (A 2 (by decide)).2
  obtain ⟨pl, -, p2, p3⟩ := n_btw (x := X 3) (a := 0) (b := 9) (by decide) (by decide) (A 3 (by decide)).1 (A 3 (by decide)).2
  obtain ⟨oc, -, c2, c3⟩ := n_btw (x := X 4) (a := 0) (b := 5) (by decide) (by decide) (A 4 (by decide)).1 (A 4 (by decide)).2
  obtain ⟨on, -, n2, n3⟩ := n_btw (x := X 5) (a := 0) (b := 4) (by decide) (by decide) (A 5 (by decide)).1 (A 5 (by decide)).2
  obtain ⟨fe, -, e2, e3⟩ := n_btw (x := X 7) (a := 0) (b := 9999) (by decide) (by decide) (A 7 (by decide)).1 (A 7 (by decide)).2
  have hsum : fr + le ≤ 96 := by
    rw [f3, l3, nI_add] at hs
    refine Classical.byContradiction (fun n => hs ?_)
    exact nI_lt (a := 96) (by omega) (by omega)
  refine ⟨o, fr, le, pl, oc, on, fe, o2, l1, l2, hsum, p2, c2, n2, e2, o3, f3, l3, p3, c3, n3, ?_, e3⟩
  by_cases h6 : X 6 = -1
  · exact Or.inl h6
  · obtain ⟨tw, -, t2, t3⟩ := n_btw (x := X 6) (a := 0) (b := 4) (by decide) (by decide) (n_m1 (A 6 (by decide)).1 h6) (A 6 (by decide)).2
    exact Or.inr ⟨tw, t2, t3⟩
