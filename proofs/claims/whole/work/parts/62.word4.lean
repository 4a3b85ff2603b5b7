theorem isDb_congr {B B' : Nat → Int32} {n : Nat} (h : ∀ j, j < n → B j = B' j) (i : Nat) : isDb B n i = isDb B' n i := by
  unfold isDb
  by_cases hi : i < n
  · rw [h i hi]
  · simp [hi]
theorem dct_congr {B B' : Nat → Int32} {n : Nat} (h : ∀ j, j < n → B j = B' j) (f : Nat) : dct B n f = dct B' n f := by
  unfold dct
  rw [isDb_congr h f, isDb_congr h (f + 1), isDb_congr h (f + 2), isDb_congr h (f + 3)]
theorem val_congr {B B' : Nat → Int32} {n f : Nat} (h : ∀ j, j < n → B j = B' j) : ∀ k, (∀ j, j < k → f + j < n) → val B f k = val B' f k
  | 0, _ => rfl
  | k + 1, hk => by
    show 10 * val B f k + dig B (f + k) = 10 * val B' f k + dig B' (f + k)
    rw [val_congr h k (fun j hj => hk j (by omega))]
    unfold dig
    rw [h (f + k) (hk k (by omega))]
theorem parse_congr {B B' : Nat → Int32} {n : Nat} (h : ∀ j, j < n → B j = B' j) : ∀ (m i : Nat) (c : Nat → Int32), i ≤ n → parse B n m i c = parse B' n m i c
  | 0, _, _, _ => rfl
  | m + 1, i, c, hi => by
    by_cases hin : n ≤ i
    · rw [parse, parse, if_pos (Or.inl hin), if_pos (Or.inl hin)]
    have e1 := h i (by omega)
    have e2 := dct_congr h (i + 1)
    have hdl := dct_lt (B := B') (n := n) (f := i + 1) (by omega)
    have e3 : val B (i + 1) (dct B' n (i + 1)) = val B' (i + 1) (dct B' n (i + 1)) := val_congr h _ (fun j hj => by omega)
    rw [parse, parse, e1, e2, e3, isDb_congr h]
    by_cases q3 : i + 1 + dct B' n (i + 1) = n
    · simp only [if_pos q3]
    · rw [h (i + 1 + dct B' n (i + 1)) (by omega)]
      simp only [if_neg q3]
      by_cases q4 : B' (i + 1 + dct B' n (i + 1)) = 59
      · simp only [if_pos q4]
        rw [parse_congr h m (i + 1 + dct B' n (i + 1) + 1) _ (by omega)]
      · simp only [if_neg q4]
def hiN (j : Nat) : Nat := match j with
  | 0 => 20
  | 1 => 100
  | _ => 9999
def okn (x : Int32) (j : Nat) : Prop := ∃ v : Nat, v ≤ hiN j ∧ x = nI v
theorem okn_of {v k : Nat} (hk : k < 4) (hv : v < 10000) (h : nI v ≤ tab_HIGHEST k) : okn (nI v) k := by
  refine ⟨v, ?_, rfl⟩
  rcases (by omega : k = 0 ∨ k = 1 ∨ k = 2 ∨ k = 3) with rfl | rfl | rfl | rfl
  · exact (nI_leI (a := v) (b := 20) (by omega) (by decide)).mp h
  · exact (nI_leI (a := v) (b := 100) (by omega) (by decide)).mp h
  · show v ≤ 9999; omega
  · show v ≤ 9999; omega
theorem parse_ok {B : Nat → Int32} {n : Nat} : ∀ (m i : Nat) (c : Nat → Int32), (∀ j, j < 4 → okn (c j) j) → (parse B n m i c).1 = 0 → i ≤ n → ∀ j, j < 4 → okn ((parse B n m i c).2 j) j
  | 0, _, c, hc, _, _ => hc
  | m + 1, i, c, hc, h0, hi => by
    rw [parse] at h0 ⊢
    by_cases q : n ≤ i ∨ kd (B i) = -1
    · rw [if_pos q]; exact hc
    rw [if_neg q] at h0 ⊢
    by_cases q0 : dct B n (i + 1) = 0
    · rw [if_pos q0]; exact hc
    rw [if_neg q0] at h0 ⊢
    by_cases q1 : isDb B n (i + 1 + dct B n (i + 1)) = true
    · rw [if_pos q1]; exact hc
    rw [if_neg q1] at h0 ⊢
    by_cases q2 : ¬ nI (val B (i + 1) (dct B n (i + 1))) ≤ tab_HIGHEST (kd (B i)).toNatClampNeg
    · rw [if_pos q2]; exact hc
    rw [if_neg q2] at h0 ⊢
    have q2' : nI (val B (i + 1) (dct B n (i + 1))) ≤ tab_HIGHEST (kd (B i)).toNatClampNeg := Classical.not_not.mp q2
    have hdl := dct_lt (B := B) (n := n) (f := i + 1) (by have : ¬ n ≤ i := fun z => q (Or.inl z); omega)
    have hu : ∀ j, j < 4 → okn (upd c (kd (B i)).toNatClampNeg (nI (val B (i + 1) (dct B n (i + 1)))) j) j := by
      intro j hj
      unfold upd
      by_cases z : j = (kd (B i)).toNatClampNeg
      · rw [if_pos z]
        rw [← z] at q2'
        exact okn_of hj (val_small (dct_le B n (i + 1)) (dct_in B n (i + 1))) q2'
      · rw [if_neg z]; exact hc j hj
    by_cases q3 : i + 1 + dct B n (i + 1) = n
    · rw [if_pos q3]; exact hu
    rw [if_neg q3] at h0 ⊢
    by_cases q4 : B (i + 1 + dct B n (i + 1)) = 59
    · rw [if_pos q4] at h0 ⊢
      exact parse_ok m _ _ hu h0 (by omega)
    · rw [if_neg q4]; exact hc
theorem okn_first : ∀ j, j < 4 → okn (tab_AT_FIRST j) j := by
  intro j hj
  rcases (by omega : j = 0 ∨ j = 1 ∨ j = 2 ∨ j = 3) with rfl | rfl | rfl | rfl
  · exact ⟨1, by decide, rfl⟩
  · exact ⟨10, by decide, rfl⟩
  · exact ⟨100, by decide, rfl⟩
  · exact ⟨50, by decide, rfl⟩
/-- the four numbers go over, if there is no fault -/
theorem m_word27 {st : tSt} {post : Int32 → tSt → Prop} (h : ∀ t' : tSt, (∀ j, j < 4 → t' 10 j = st 11 j) → (∀ k, k ≠ 10 → t' k = st k) → post 0 t') : ∃ q, wp_M_word_27 post q 0 0 st := by
  refine ⟨5, ?_⟩
  have step : ∀ (m k : Nat) (s : tSt), k + m = 4 → (∀ j, j < k → s 10 j = st 11 j) → (∀ k, k ≠ 10 → s k = st k) → wp_M_word_27 post (m + 1) 0 (nI k) s := by
    intro m
    induction m with
    | zero =>
      intro k s hk h1 h2
      have e : k = 4 := by omega
      subst e
      exact b_t (by decide) (h s h1 h2)
    | succ m ih =>
      intro k s hk h1 h2
      have hin : vp_in (nI k) 4 := vp_in_nI (by omega) (by decide)
      refine b_f (nI_ge (a := k) (b := 4) (by omega) (by decide)) (b_t rfl ⟨hin, hin, fun s1 e1 y e => ?_⟩)
      rw [nI_1] at e
      rw [n_cl (show k < 2 ^ 31 by omega)] at e1
      subst e
      refine ih (k + 1) s1 (by omega) (fun j hj => ?_) (fun j hj => by rw [e1, tUp_ne _ _ _ hj]; exact h2 j hj)
      rw [e1, tUp_self]
      unfold upd
      by_cases z : j = k
      · rw [if_pos z, z, h2 11 (by decide)]
      · rw [if_neg z]; exact h1 j (by omega)
  exact step 4 0 st rfl (fun j hj => absurd hj (by omega)) (fun _ _ => rfl)
theorem p_word (PO : tSt → Prop) : lwP_word (tRel PO) := by
  intro st sm x1 hR
  obtain ⟨hB, hpl⟩ := id hR
  obtain ⟨⟨L, l1, l2, l3, l4⟩, q2, ⟨P, q3⟩, q4, q5, ⟨T, D, q6, q7⟩, q8⟩ := id hB
  by_cases hneg : x1 < 0
  · exact b_t hneg (b_t hneg ⟨rfl, hR⟩)
  refine b_f hneg ?_
  show ((x1 ≤ st 5 0 → _) ∧ (¬ x1 ≤ st 5 0 → _))
  by_cases hle : x1 ≤ st 5 0
  case neg => exact b_f hle (b_f hneg (b_f (by rw [l3, ← l2]; exact hle) ⟨rfl, hR⟩))
  have hlem : x1 ≤ sm 0 0 := by rw [l3, ← l2]; exact hle
  obtain ⟨n, -, hn, rfl⟩ := n_btw (x := x1) (a := 0) (b := L) (by decide) (by omega) hneg (by rw [← l2]; exact Int32.not_lt.mpr hle)
  have cong : ∀ (m : Nat), parse (st 6) n m 0 tab_AT_FIRST = parse (fun j => sm 9 j &&& 255) n m 0 tab_AT_FIRST := fun m => parse_congr (fun j hj => l4 j (by omega)) m 0 _ (by omega)
  -- the reference's side, as one fact
  have mm : ∀ (r : Int32) (Q : Int32 → tSt → Prop), (parse (st 6) n (n + 1) 0 tab_AT_FIRST).1 = r → (∀ t' : tSt, t' 0 0 = 0 → (∀ k, k ≠ 0 → k ≠ 10 → k ≠ 11 → t' k = sm k) → (r = 0 → ∀ j, j < 4 → t' 10 j = (parse (st 6) n (n + 1) 0 tab_AT_FIRST).2 j) → (¬ r = 0 → t' 10 = sm 10) → Q r t') → wp_M_word (nI n) sm Q := by
    intro r Q hr hQ
    refine b_f hneg (b_t hlem (fun t1 f1 a1 g1 a2 g2 a3 g3 a4 g4 => ?_))
    have ea : ∀ k, k ≠ 0 → k ≠ 11 → a4 k = sm k := fun k h1 h2 => by rw [g4, g3, g2, g1, f1, tUp_ne _ _ _ h2, tUp_ne _ _ _ h2, tUp_ne _ _ _ h2, tUp_ne _ _ _ h2, tUp_ne _ _ _ h1]
    have e0 : a4 0 0 = 0 := by rw [g4, g3, g2, g1, f1]; rfl
    have ef : ∀ j, j < 4 → a4 11 j = tab_AT_FIRST j := by
      intro j hj
      subst g4; subst g3; subst g2; subst g1
      rcases (by omega : j = 0 ∨ j = 1 ∨ j = 2 ∨ j = 3) with rfl | rfl | rfl | rfl <;> rfl
    have e9 : a4 9 = sm 9 := ea 9 (by decide) (by decide)
    refine ⟨n + 2, m_readL (by omega) (n + 1) 0 0 a4 tab_AT_FIRST (by omega) (by omega) (by omega) ef (fun t' r' b1 b2 b3 => ?_)⟩
    rw [e9, ← cong (n + 1)] at b1 b3
    have er : r' = r := b1.symm.trans hr
    subst er
    by_cases hz : r' = 0
    · subst hz
      refine m_word27 (fun t'' c1 c2 => hQ t'' ?_ (fun k k1 k2 k3 => ?_) (fun _ j hj => ?_) (fun q => absurd rfl q))
      · rw [c2 0 (by decide), b2 0 (by decide)]; exact e0
      · rw [c2 k k2, b2 k k3]; exact ea k k1 k3
      · rw [c1 j hj]; exact b3 rfl j hj
    · refine ⟨1, b_f (by decide) (b_f hz (hQ t' ?_ (fun k k1 k2 k3 => ?_) (fun q => absurd q hz) (fun _ => ?_)))⟩
      · rw [b2 0 (by decide)]; exact e0
      · rw [b2 k k3]; exact ea k k1 k3
      · rw [b2 10 (by decide)]; exact ea 10 (by decide) (by decide)
  -- what is common behind it
  have fin : ∀ (s' : tSt) (t' : tSt), s' 5 0 = 0 → s' 4 0 = 0 → (∀ k, k ≠ 4 → k ≠ 5 → k ≠ 7 → k ≠ 8 → s' k = st k) → t' 0 0 = 0 → (∀ k, k ≠ 0 → k ≠ 10 → k ≠ 11 → t' k = sm k) → rWord s' t' → tRel PO s' t' := by
    intro s' t' h5 h4 hs h0 ht hw
    have S : ∀ k, k ≠ 4 → k ≠ 5 → k ≠ 7 → k ≠ 8 → s' k = st k := hs
    have M : ∀ k, k ≠ 0 → k ≠ 10 → k ≠ 11 → t' k = sm k := ht
    refine ⟨⟨⟨0, by decide, h5, h0, fun i hi => absurd hi (by omega)⟩, hw, ⟨P, q3.of (S _ (by decide) (by decide) (by decide) (by decide)) (S _ (by decide) (by decide) (by decide) (by decide)) (S _ (by decide) (by decide) (by decide) (by decide)) (S _ (by decide) (by decide) (by decide) (by decide)) (S _ (by decide) (by decide) (by decide) (by decide)) (M _ (by decide) (by decide) (by decide)) (M _ (by decide) (by decide) (by decide)) (M _ (by decide) (by decide) (by decide)) (M _ (by decide) (by decide) (by decide)) (M _ (by decide) (by decide) (by decide))⟩, q4.of (S _ (by decide) (by decide) (by decide) (by decide)) (M _ (by decide) (by decide) (by decide)), q5.of (S _ (by decide) (by decide) (by decide) (by decide)) (fun c hc => S _ (by omega) (by omega) (by omega) (by omega)) (M _ (by decide) (by decide) (by decide)), ⟨T, D, q6.of (S _ (by decide) (by decide) (by decide) (by decide)) (S _ (by decide) (by decide) (by decide) (by decide)) (S _ (by decide) (by decide) (by decide) (by decide)) (S _ (by decide) (by decide) (by decide) (by decide)) (M _ (by decide) (by decide) (by decide)) (M _ (by decide) (by decide) (by decide)) (M _ (by decide) (by decide) (by decide)), q7.of (S _ (by decide) (by decide) (by decide) (by decide)) (S _ (by decide) (by decide) (by decide) (by decide)) (M _ (by decide) (by decide) (by decide)) (M _ (by decide) (by decide) (by decide)) (M _ (by decide) (by decide) (by decide)) (M _ (by decide) (by decide) (by decide))⟩, by rw [S 3 (by decide) (by decide) (by decide) (by decide), M 4 (by decide) (by decide) (by decide)]; exact q8⟩, Or.inl h4⟩
  refine b_t hle (fun s1 e1 => ?_)
  have es : ∀ k, k ≠ 8 → s1 k = st k := fun k hk => by rw [e1]; exact tUpA_ne _ _ hk
  have ef : ∀ j, j < 4 → s1 8 j = tab_AT_FIRST j := by
    intro j hj
    rw [e1, tUpA_self]
    unfold va_cpy
    rw [if_pos ⟨Nat.zero_le j, by omega⟩, show 0 + (j - 0) = j by omega]
  have e6 : s1 6 = st 6 := es 6 (by decide)
  refine ⟨n + 2, c_readL l1 hn (n + 1) 0 0 s1 tab_AT_FIRST (by omega) (by omega) (by omega) (by rw [es 5 (by decide)]; exact l2) ef (fun s' c' a1 a2 a3 => ?_) (fun s' r a1 a2 a3 => ?_)⟩
  · rw [e6] at a1
    intro s2 f2 s3 f3 s4 f4
    refine mm 0 _ (by rw [a1]) (fun t' b1 b2 b3 b4 => ⟨rfl, fin s4 t' ?_ ?_ (fun k k1 k2 k3 k4 => ?_) b1 b2 ⟨fun j hj => ?_, ?_⟩⟩)
    · rw [f4, f3]; rfl
    · rw [f4]; rfl
    · rw [f4, f3, f2, tUp_ne _ _ _ k1, tUp_ne _ _ _ k2, tUpA_ne _ _ k3, a2 k k4, es k k4]
    all_goals
      have e7 : ∀ j, j < 4 → s4 7 j = c' j := by
        intro j hj
        rw [f4, f3, f2, tUp_ne _ _ _ (by decide), tUp_ne _ _ _ (by decide), tUpA_self]
        unfold va_cpy
        rw [if_pos ⟨Nat.zero_le j, by omega⟩, show 0 + (j - 0) = j by omega]
        exact a3 j hj
    · rw [e7 j hj, b3 rfl j hj, a1]
    · have ok := parse_ok (B := st 6) (n := n) (n + 1) 0 tab_AT_FIRST okn_first (by rw [a1]) (by omega)
      rw [a1] at ok
      obtain ⟨v0, u0, w0⟩ := ok 0 (by decide)
      obtain ⟨v1, u1, w1⟩ := ok 1 (by decide)
      obtain ⟨v2, u2, w2⟩ := ok 2 (by decide)
      obtain ⟨v3, u3, w3⟩ := ok 3 (by decide)
      exact ⟨v0, v1, v2, v3, u0, u1, u2, u3, by rw [e7 0 (by decide)]; exact w0, by rw [e7 1 (by decide)]; exact w1, by rw [e7 2 (by decide)]; exact w2, by rw [e7 3 (by decide)]; exact w3⟩
  · rw [e6] at a1
    intro s3 f3 s4 f4
    refine mm r _ a1 (fun t' b1 b2 b3 b4 => ⟨rfl, fin s4 t' ?_ ?_ (fun k k1 k2 k3 k4 => ?_) b1 b2 (q2.of ?_ (b4 a2))⟩)
    · rw [f4, f3]; rfl
    · rw [f4]; rfl
    · rw [f4, f3, tUp_ne _ _ _ k1, tUp_ne _ _ _ k2, a3 k k4, es k k4]
    · rw [f4, f3, tUp_ne _ _ _ (by decide), tUp_ne _ _ _ (by decide), a3 7 (by decide), es 7 (by decide)]
