theorem m_at1 {st : tSt} {n k : Nat} {post : Int32 → tSt → Prop} (hn : n ≤ 40) (hk : k < n) (h : post (st 9 k &&& 255) st) : wp_M_at (nI k) (nI n) st post := by
  refine b_f (nI_ge hk (by omega)) ⟨vp_in_nI (by omega) (by decide), ?_⟩
  rw [n_cl (show k < 2 ^ 31 by omega)]
  exact h
theorem m_at0 {st : tSt} {n k : Nat} {post : Int32 → tSt → Prop} (hk1 : k ≤ 50) (hk : n ≤ k) (h : post 0 st) : wp_M_at (nI k) (nI n) st post := b_t (nI_le hk (by omega)) h
theorem m_letter {st : tSt} {b : Int32} {post : Int32 → tSt → Prop} (h : post (kd b) st) : wp_M_letter b st post := by
  unfold kd at h
  by_cases h0 : b = 119
  · rw [if_pos h0] at h; exact b_t h0 h
  rw [if_neg h0] at h
  refine b_f h0 ?_
  by_cases h1 : b = 102
  · rw [if_pos h1] at h; exact b_t h1 h
  rw [if_neg h1] at h
  refine b_f h1 ?_
  by_cases h2 : b = 112
  · rw [if_pos h2] at h; exact b_t h2 h
  rw [if_neg h2] at h
  refine b_f h2 ?_
  by_cases h3 : b = 103
  · rw [if_pos h3] at h; exact b_t h3 h
  rw [if_neg h3] at h
  exact b_f h3 h
theorem m_dig {st : tSt} {n k : Nat} {post : Int32 → tSt → Prop} (hn : n ≤ 40) (hk : k ≤ 50) (h : post (if isDb (fun j => st 9 j &&& 255) n k = true then 1 else 0) st) : wp_M_at (nI k) (nI n) st (fun r st1 => wp_M_lies r 48 57 st1 post) := by
  by_cases hin : k < n
  · refine m_at1 hn hin ?_
    rcases w_dec (st 9 k &&& 255) 48 57 with g | ⟨g1, g2⟩
    · have e : isDb (fun j => st 9 j &&& 255) n k = false := by
        unfold isDb
        rcases g with g | g <;> simp [g]
      rw [e] at h
      exact m_w0 g h
    · have e : isDb (fun j => st 9 j &&& 255) n k = true := by
        unfold isDb
        simp only [Bool.and_eq_true, decide_eq_true_eq, Bool.not_eq_true', decide_eq_false_iff_not]
        exact ⟨hin, g1, g2⟩
      rw [e] at h
      exact m_w1 g1 g2 h
  · have e : isDb (fun j => st 9 j &&& 255) n k = false := by
      unfold isDb
      simp [hin]
    rw [e] at h
    exact m_at0 hk (by omega) (m_w0 (Or.inl (by decide)) h)
/-- the digits: to their end, or to the fifth -/
theorem m_69 {st : tSt} {n f : Nat} {x3 x4 : Int32} {post : Int32 → tSt → Prop} {k122 : Int32 → Int32 → Int32 → Int32 → Int32 → Int32 → tSt → Prop} (hn : n ≤ 40) (hf : f ≤ 41)
    (h5 : isDb (fun j => st 9 j &&& 255) n (f + dct (fun j => st 9 j &&& 255) n f) = true → post (nI (300 + (f + dct (fun j => st 9 j &&& 255) n f))) st)
    (h : ¬ isDb (fun j => st 9 j &&& 255) n (f + dct (fun j => st 9 j &&& 255) n f) = true → k122 (nI n) (nI (f + dct (fun j => st 9 j &&& 255) n f)) x3 x4 (nI f) (nI (val (fun j => st 9 j &&& 255) f (dct (fun j => st 9 j &&& 255) n f))) st) :
    ∀ m k : Nat, k + m = dct (fun j => st 9 j &&& 255) n f → wp_M_reads_69 post k122 (m + 1) (nI n) (nI (f + k)) x3 x4 (nI f) (nI (val (fun j => st 9 j &&& 255) f k)) st
  | 0, k, hk => by
    have e : k = dct (fun j => st 9 j &&& 255) n f := by omega
    have h4 : nI f + 4 = nI (f + 4) := nI_add f 4
    have hle := dct_le (fun j => st 9 j &&& 255) n f
    rw [e]
    rw [wp_M_reads_69]
    refine m_dig hn (by omega) ?_
    by_cases g : isDb (fun j => st 9 j &&& 255) n (f + dct (fun j => st 9 j &&& 255) n f) = true
    · rw [if_pos g]
      have d4 : dct (fun j => st 9 j &&& 255) n f = 4 := by
        rcases dct_end (fun j => st 9 j &&& 255) n f with q | q
        · exact q
        · exact absurd g q
      refine b_f (by decide) (b_t (by rw [h4, d4]) ?_)
      rw [show (300 : Int32) + nI (f + dct (fun j => st 9 j &&& 255) n f) = nI (300 + (f + dct (fun j => st 9 j &&& 255) n f)) from nI_add 300 _]
      exact h5 g
    · rw [if_neg g]
      exact b_t rfl (h g)
  | m + 1, k, hk => by
    have h4 : nI f + 4 = nI (f + 4) := nI_add f 4
    have hle := dct_le (fun j => st 9 j &&& 255) n f
    have hdi := dct_in (fun j => st 9 j &&& 255) n f
    rw [wp_M_reads_69]
    refine m_dig hn (by omega) ?_
    rw [if_pos (hdi k (by omega))]
    refine b_f (by decide) (b_f (by rw [h4]; exact fun e => by have := (nI_eq (a := f + k) (b := f + 4) (by omega) (by omega)).mp e; omega) (m_at1 hn (isDb_lt (hdi k (by omega))) (fun y6 e6 y2 e2 => ?_)))
    rw [nI_1] at e2
    have := (n_step (B := fun j => st 9 j &&& 255) (n := n) (f := f) (k := k) (by omega) (fun j hj => hdi j (by omega))).2
    rw [this] at e6
    subst e6; subst e2
    exact m_69 hn hf h5 h m (k + 1) (by omega)
theorem m_canBe {st : tSt} {k v : Nat} {post : Int32 → tSt → Prop} (hk : k < 4) (hv : v < 10000) (h : post (if nI v ≤ tab_HIGHEST k then 1 else 0) st) : wp_M_canBe (nI k) (nI v) st post := by
  rcases (by omega : k = 0 ∨ k = 1 ∨ k = 2 ∨ k = 3) with rfl | rfl | rfl | rfl
  · refine b_t rfl ?_
    by_cases q : nI v ≤ tab_HIGHEST 0
    · rw [if_pos q] at h; exact b_f (Int32.not_lt.mpr q) h
    · rw [if_neg q] at h; exact b_t (Int32.not_le.mp q) h
  · refine b_f (by decide) (b_t rfl ?_)
    by_cases q : nI v ≤ tab_HIGHEST 1
    · rw [if_pos q] at h; exact b_f (Int32.not_lt.mpr q) h
    · rw [if_neg q] at h; exact b_t (Int32.not_le.mp q) h
  · rw [if_pos (show nI v ≤ tab_HIGHEST 2 from (nI_le (b := 9999) (by omega) (by decide) : nI v ≤ nI 9999))] at h
    exact b_f (by decide) (b_f (by decide) h)
  · rw [if_pos (show nI v ≤ tab_HIGHEST 3 from (nI_le (b := 9999) (by omega) (by decide) : nI v ≤ nI 9999))] at h
    exact b_f (by decide) (b_f (by decide) h)
theorem m_readL {n : Nat} (hn : n ≤ 40) {post : Int32 → tSt → Prop} : ∀ (m i z : Nat) (st : tSt) (c : Nat → Int32), i ≤ n → z ≤ i → n + 1 ≤ i + m → (∀ j, j < 4 → st 11 j = c j) →
    (∀ (t' : tSt) (r : Int32), (parse (fun j => st 9 j &&& 255) n m i c).1 = r → (∀ k, k ≠ 11 → t' k = st k) → (r = 0 → ∀ j, j < 4 → t' 11 j = (parse (fun j => st 9 j &&& 255) n m i c).2 j) → post r t') → wp_M_reads_11 post (m + 1) (nI n) (nI i) (nI z) st
  | 0, i, z, st, c, h1, _, h2, _, _ => by omega
  | m + 1, i, z, st, c, hi, hz, hm, hc, k1 => by
    refine b_f (nI_nlt (by omega) (by omega)) ?_
    have bad : ∀ r : Int32, (parse (fun j => st 9 j &&& 255) n (m + 1) i c).1 = r → ¬ r = 0 → post r st := fun r h1 h2 => k1 st r h1 (fun _ _ => rfl) (fun q => absurd q h2)
    by_cases hin : n ≤ i
    · refine m_at0 (by omega) hin (m_letter (b_t (by decide) ?_))
      rw [show (100 : Int32) + nI i = nI (100 + i) from nI_add 100 i]
      refine bad _ ?_ (n_ne0 (by omega) (by omega))
      rw [parse, if_pos (Or.inl hin)]
    refine m_at1 hn (by omega) (m_letter ?_)
    rcases kd_cases (st 9 i &&& 255) with g | ⟨k, k4, gk, -, -⟩
    · refine b_t g ?_
      rw [show (100 : Int32) + nI i = nI (100 + i) from nI_add 100 i]
      refine bad _ ?_ (n_ne0 (by omega) (by omega))
      rw [parse, if_pos (Or.inr g)]
    have gne : ¬ kd (st 9 i &&& 255) = -1 := by rw [gk]; exact n_m1_ne (by omega)
    have hnone : ¬ (n ≤ i ∨ kd ((fun j => st 9 j &&& 255) i) = -1) := fun q => by rcases q with q | q; exact hin q; exact gne q
    refine b_f gne (fun y5 e5 => ?_)
    rw [nI_1] at e5
    subst e5
    have hd4 := dct_le (fun j => st 9 j &&& 255) n (i + 1)
    have hdl := dct_lt (B := fun j => st 9 j &&& 255) (n := n) (f := i + 1) (by omega)
    have hdi := dct_in (fun j => st 9 j &&& 255) n (i + 1)
    have hde := dct_end (fun j => st 9 j &&& 255) n (i + 1)
    have hvs := val_small hd4 hdi
    refine m_dig hn (by omega) ?_
    by_cases q0 : dct (fun j => st 9 j &&& 255) n (i + 1) = 0
    · have : ¬ isDb (fun j => st 9 j &&& 255) n (i + 1) = true := by
        rcases hde with q | q
        · omega
        · rw [q0] at q; exact q
      rw [if_neg this]
      refine b_t rfl ?_
      rw [show (200 : Int32) + nI (i + 1) = nI (200 + (i + 1)) from nI_add 200 _]
      refine bad _ ?_ (n_ne0 (by omega) (by omega))
      rw [parse, if_neg hnone, if_pos q0]
    rw [if_pos (hdi 0 (by omega))]
    refine b_f (by decide) ⟨dct (fun j => st 9 j &&& 255) n (i + 1) + 1, m_69 hn (by omega) (fun q1 => ?_) (fun q1 => ?_) (dct (fun j => st 9 j &&& 255) n (i + 1)) 0 (by omega)⟩
    · refine bad _ ?_ (n_ne0 (by omega) (by omega))
      rw [parse, if_neg hnone, if_neg q0, if_pos q1]
    have kcl : (kd (st 9 i &&& 255)).toNatClampNeg = k := by rw [gk]; exact n_cl (by omega)
    unfold wp_M_reads_122
    rw [gk]
    refine m_canBe k4 hvs ?_
    by_cases q2 : nI (val (fun j => st 9 j &&& 255) (i + 1) (dct (fun j => st 9 j &&& 255) n (i + 1))) ≤ tab_HIGHEST k
    case neg =>
      rw [if_neg q2]
      refine b_t rfl ?_
      rw [show (400 : Int32) + nI (i + 1) = nI (400 + (i + 1)) from nI_add 400 _]
      refine bad _ ?_ (n_ne0 (by omega) (by omega))
      rw [parse, if_neg hnone, if_neg q0, if_neg q1, if_pos (by show ¬ _ ≤ tab_HIGHEST (kd (st 9 i &&& 255)).toNatClampNeg; rw [kcl]; exact q2)]
    rw [if_pos q2]
    have q2' : ¬ ¬ nI (val (fun j => st 9 j &&& 255) (i + 1) (dct (fun j => st 9 j &&& 255) n (i + 1))) ≤ tab_HIGHEST (kd ((fun j => st 9 j &&& 255) i)).toNatClampNeg := fun z => z (by show _ ≤ tab_HIGHEST (kd (st 9 i &&& 255)).toNatClampNeg; rw [kcl]; exact q2)
    refine b_f (by decide) ⟨vp_in_nI (by omega) (by decide), fun s3 e3 => ?_⟩
    rw [n_cl (show k < 2 ^ 31 by omega)] at e3
    have es : ∀ j, j ≠ 11 → s3 j = st j := fun j hj => by rw [e3]; exact tUp_ne _ _ _ hj
    have cupd : ∀ j, j < 4 → s3 11 j = upd c (kd ((fun j => st 9 j &&& 255) i)).toNatClampNeg (nI (val (fun j => st 9 j &&& 255) (i + 1) (dct (fun j => st 9 j &&& 255) n (i + 1)))) j := by
      intro j hj
      show s3 11 j = upd c (kd (st 9 i &&& 255)).toNatClampNeg _ j
      rw [e3, tUp_self, kcl]
      unfold upd
      by_cases w : j = k
      · rw [if_pos w, if_pos w]
      · rw [if_neg w, if_neg w]; exact hc j hj
    by_cases q3 : i + 1 + dct (fun j => st 9 j &&& 255) n (i + 1) = n
    · refine b_t (by rw [q3]) (k1 s3 0 ?_ es (fun _ => ?_))
      · rw [parse, if_neg hnone, if_neg q0, if_neg q1, if_neg q2', if_pos q3]
      · rw [parse, if_neg hnone, if_neg q0, if_neg q1, if_neg q2', if_pos q3]
        exact cupd
    have e9 : s3 9 = st 9 := es 9 (by decide)
    refine b_f (fun e => q3 ((nI_eq (by omega) (by omega)).mp e)) (m_at1 hn (by omega) ?_)
    rw [e9]
    by_cases q4 : st 9 (i + 1 + dct (fun j => st 9 j &&& 255) n (i + 1)) &&& 255 = 59
    case neg =>
      refine b_f q4 ?_
      rw [show (500 : Int32) + nI (i + 1 + dct (fun j => st 9 j &&& 255) n (i + 1)) = nI (500 + (i + 1 + dct (fun j => st 9 j &&& 255) n (i + 1))) from nI_add 500 _]
      refine k1 s3 _ ?_ es (fun q => absurd q (n_ne0 (by omega) (by omega)))
      rw [parse, if_neg hnone, if_neg q0, if_neg q1, if_neg q2', if_neg q3, if_neg q4]
    refine b_t q4 (fun y2 e2 y3 e4 => ?_)
    rw [nI_1] at e2 e4
    have hp : parse (fun j => st 9 j &&& 255) n (m + 1) i c = parse (fun j => st 9 j &&& 255) n m (i + 1 + dct (fun j => st 9 j &&& 255) n (i + 1) + 1) (upd c (kd ((fun j => st 9 j &&& 255) i)).toNatClampNeg (nI (val (fun j => st 9 j &&& 255) (i + 1) (dct (fun j => st 9 j &&& 255) n (i + 1))))) := by
      rw [parse, if_neg hnone, if_neg q0, if_neg q1, if_neg q2', if_neg q3, if_pos q4]
    subst e2; subst e4
    refine m_readL hn m _ (z + 1) s3 (upd c (kd ((fun j => st 9 j &&& 255) i)).toNatClampNeg (nI (val (fun j => st 9 j &&& 255) (i + 1) (dct (fun j => st 9 j &&& 255) n (i + 1))))) (by omega) (by omega) (by omega) cupd (fun t' r a1 a2 a3 => ?_)
    rw [e9] at a1 a3
    refine k1 t' r ?_ (fun j hj => by rw [a2 j hj, es j hj]) (fun hr => ?_)
    · rw [hp]; exact a1
    · rw [hp]; exact a3 hr
