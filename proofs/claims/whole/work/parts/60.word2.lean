theorem c_fault {st : tSt} {L n f K : Nat} {fl : Int32} {post : Int32 → tSt → Prop} (hl : st 5 0 = nI L) (hL : L ≤ 40) (hn : n ≤ L) (hf : f ≤ 41) (hK : K ≤ 4) (hle : f + K ≤ n ∨ K = 0) (h : post (if K = 0 then nI (200 + f) else if isDb (st 6) n (f + K) = true then nI (300 + (f + K)) else if ¬ fl = 0 then nI (400 + f) else if f + K = n then 0 else if st 6 (f + K) = 59 then 0 else nI (500 + (f + K))) st) : wp_TownWord_faultOfNumber (nI f) (nI (f + K)) (nI n) fl st post := by
  by_cases h0 : K = 0
  · rw [if_pos h0] at h
    refine b_t (by rw [h0]; rfl) ?_
    rw [show (200 : Int32) + nI f = nI (200 + f) from nI_add 200 f]
    exact h
  rw [if_neg h0] at h
  have hle' : f + K ≤ n := by rcases hle with q | q; exact q; exact absurd q h0
  refine b_f (fun e => h0 (by have := (nI_eq (a := f + K) (b := f) (by omega) (by omega)).mp e; omega)) (c_digit hl hL hn (by omega) ?_)
  by_cases h1 : isDb (st 6) n (f + K) = true
  · rw [if_pos h1] at h
    rw [if_pos h1]
    refine b_f (by decide) ?_
    rw [show (300 : Int32) + nI (f + K) = nI (300 + (f + K)) from nI_add 300 _]
    exact h
  rw [if_neg h1] at h
  rw [if_neg h1]
  refine b_t rfl ?_
  by_cases h2 : fl = 0
  · rw [if_neg (fun q => q h2)] at h
    refine b_t h2 ?_
    by_cases h3 : f + K = n
    · rw [if_pos h3] at h
      exact b_t (by rw [h3]; exact Int32.le_refl _) h
    · rw [if_neg h3] at h
      refine b_f (nI_ge (by omega) (by omega)) (c_byte hl hL (by omega) ?_)
      by_cases h4 : st 6 (f + K) = 59
      · rw [if_pos h4] at h
        exact b_t h4 h
      · rw [if_neg h4] at h
        refine b_f h4 ?_
        rw [show (500 : Int32) + nI (f + K) = nI (500 + (f + K)) from nI_add 500 _]
        exact h
  · rw [if_pos h2] at h
    refine b_f h2 ?_
    rw [show (400 : Int32) + nI f = nI (400 + f) from nI_add 400 f]
    exact h
theorem n_ne0 {a : Nat} (h0 : 0 < a) (h : a < 2 ^ 31) : ¬ nI a = 0 := nI_ne0 h0 h
theorem c_readL {L n : Nat} (hL : L ≤ 40) (hn : n ≤ L) {post : Int32 → tSt → Prop} {k115 : tSt → Prop} : ∀ (m i t : Nat) (st : tSt) (c : Nat → Int32), t ≤ i → i ≤ n → n + 1 ≤ i + m → st 5 0 = nI L → (∀ j, j < 4 → st 8 j = c j) →
    (∀ (s' : tSt) (c' : Nat → Int32), parse (st 6) n m i c = (0, c') → (∀ k, k ≠ 8 → s' k = st k) → (∀ j, j < 4 → s' 8 j = c' j) → k115 s') →
    (∀ (s' : tSt) (r : Int32), (parse (st 6) n m i c).1 = r → ¬ r = 0 → (∀ k, k ≠ 8 → s' k = st k) → post r s') → wp_TownWord_read_18 post k115 (m + 1) (nI n) (nI i) (nI t) st
  | 0, i, t, st, c, _, h1, h2, _, _, _, _ => by omega
  | m + 1, i, t, st, c, ht, hi, hm, hl, hc, k0, k1 => by
    refine b_f (nI_nlt (by omega) (by omega)) ?_
    refine b_f (nI_nlt (by omega) (by omega)) ?_
    by_cases hin : n ≤ i
    · refine c_kind0 (by omega) hin (by omega) (b_t rfl ?_)
      rw [show (100 : Int32) + nI i = nI (100 + i) from nI_add 100 i]
      refine k1 st _ ?_ (n_ne0 (by omega) (by omega)) (fun _ _ => rfl)
      rw [parse, if_pos (Or.inl hin)]
    refine ⟨5, c_kindL hl hL hn (by omega) 4 0 rfl (fun j hj => absurd hj (by omega)) ?_⟩
    rcases kd_cases (st 6 i) with g | ⟨k, k4, gk, -, -⟩
    · refine b_t g ?_
      rw [show (100 : Int32) + nI i = nI (100 + i) from nI_add 100 i]
      refine k1 st _ ?_ (n_ne0 (by omega) (by omega)) (fun _ _ => rfl)
      rw [parse, if_pos (Or.inr g)]
    have gne : ¬ kd (st 6 i) = -1 := by rw [gk]; exact n_m1_ne (by omega)
    have hnone : ¬ (n ≤ i ∨ kd (st 6 i) = -1) := fun q => by rcases q with q | q; exact hin q; exact gne q
    refine b_f gne (fun y5 e5 => ?_)
    rw [nI_1] at e5
    subst e5
    have hd4 := dct_le (st 6) n (i + 1)
    have hdl := dct_lt (B := st 6) (n := n) (f := i + 1) (by omega)
    have hdi := dct_in (st 6) n (i + 1)
    refine ⟨dct (st 6) n (i + 1) + 1, c_endL hl hL hn (by omega) ?_ (dct (st 6) n (i + 1)) 0 (by omega)⟩
    refine ⟨dct (st 6) n (i + 1) + 1, c_numL hl hL hn hd4 hdi (by omega) ?_ (dct (st 6) n (i + 1)) 0 (by omega)⟩
    have kcl : (kd (st 6 i)).toNatClampNeg = k := by rw [gk]; exact n_cl (by omega)
    refine ⟨by rw [gk]; exact vp_in_nI (by omega) (by decide), ?_⟩
    have go : ∀ fl : Int32, (fl = 0 ↔ nI (val (st 6) (i + 1) (dct (st 6) n (i + 1))) ≤ tab_HIGHEST (kd (st 6 i)).toNatClampNeg) → wp_TownWord_read_94 post (wp_TownWord_read_18 post k115 (m + 1)) k115 (nI n) (nI t) (kd (st 6 i)) (nI (i + 1 + dct (st 6) n (i + 1))) (nI (val (st 6) (i + 1) (dct (st 6) n (i + 1)))) (nI (i + 1)) (nI (i + 1 + dct (st 6) n (i + 1))) (nI n) fl st := by
      intro fl hfl
      refine c_fault hl hL hn (by omega) hd4 (Or.inl hdl) ?_
      by_cases q0 : dct (st 6) n (i + 1) = 0
      · rw [if_pos q0]
        refine b_f (n_ne0 (by omega) (by omega)) (k1 st _ ?_ (n_ne0 (by omega) (by omega)) (fun _ _ => rfl))
        rw [parse, if_neg hnone, if_pos q0]
      rw [if_neg q0]
      by_cases q1 : isDb (st 6) n (i + 1 + dct (st 6) n (i + 1)) = true
      · rw [if_pos q1]
        refine b_f (n_ne0 (by omega) (by omega)) (k1 st _ ?_ (n_ne0 (by omega) (by omega)) (fun _ _ => rfl))
        rw [parse, if_neg hnone, if_neg q0, if_pos q1]
      rw [if_neg q1]
      by_cases q2 : fl = 0
      case neg =>
        rw [if_pos q2]
        refine b_f (n_ne0 (by omega) (by omega)) (k1 st _ ?_ (n_ne0 (by omega) (by omega)) (fun _ _ => rfl))
        rw [parse, if_neg hnone, if_neg q0, if_neg q1, if_pos (fun z => q2 (hfl.mpr z))]
      rw [if_neg (fun z => z q2)]
      have q2' : ¬ ¬ nI (val (st 6) (i + 1) (dct (st 6) n (i + 1))) ≤ tab_HIGHEST (kd (st 6 i)).toNatClampNeg := fun z => z (hfl.mp q2)
      have cupd : ∀ j, j < 4 → tUp st 8 (kd (st 6 i)).toNatClampNeg (nI (val (st 6) (i + 1) (dct (st 6) n (i + 1)))) 8 j = upd c (kd (st 6 i)).toNatClampNeg (nI (val (st 6) (i + 1) (dct (st 6) n (i + 1)))) j := by
        intro j hj
        rw [tUp_self]
        unfold upd
        by_cases z : j = (kd (st 6 i)).toNatClampNeg
        · rw [if_pos z, if_pos z]
        · rw [if_neg z, if_neg z]; exact hc j hj
      by_cases q3 : i + 1 + dct (st 6) n (i + 1) = n
      · rw [if_pos q3]
        refine b_t rfl ⟨by rw [gk]; exact vp_in_nI (by omega) (by decide), fun s3 e3 y4 e4 y5 e5 => ?_⟩
        rw [nI_1] at e4 e5
        subst e4; subst e5; subst e3
        refine b_f (nI_nlt (by omega) (by omega)) (b_t (nI_lt (by omega) (by omega)) (k0 _ _ ?_ (fun k hk => tUp_ne _ _ _ hk) cupd))
        rw [parse, if_neg hnone, if_neg q0, if_neg q1, if_neg q2', if_pos q3]
      rw [if_neg q3]
      by_cases q4 : st 6 (i + 1 + dct (st 6) n (i + 1)) = 59
      case neg =>
        rw [if_neg q4]
        refine b_f (n_ne0 (by omega) (by omega)) (k1 st _ ?_ (n_ne0 (by omega) (by omega)) (fun _ _ => rfl))
        rw [parse, if_neg hnone, if_neg q0, if_neg q1, if_neg q2', if_neg q3, if_neg q4]
      rw [if_pos q4]
      refine b_t rfl ⟨by rw [gk]; exact vp_in_nI (by omega) (by decide), fun s3 e3 y4 e4 y5 e5 => ?_⟩
      rw [nI_1] at e4 e5
      have es : ∀ k, k ≠ 8 → s3 k = st k := fun k hk => by rw [e3]; exact tUp_ne _ _ _ hk
      have e6 : s3 6 = st 6 := es 6 (by decide)
      have hp : parse (st 6) n (m + 1) i c = parse (st 6) n m (i + 1 + dct (st 6) n (i + 1) + 1) (upd c (kd (st 6 i)).toNatClampNeg (nI (val (st 6) (i + 1) (dct (st 6) n (i + 1))))) := by
        rw [parse, if_neg hnone, if_neg q0, if_neg q1, if_neg q2', if_neg q3, if_pos q4]
      subst e4; subst e5
      refine c_readL hL hn m (i + 1 + dct (st 6) n (i + 1) + 1) (t + 1) s3 (upd c (kd (st 6 i)).toNatClampNeg (nI (val (st 6) (i + 1) (dct (st 6) n (i + 1))))) (by omega) (by omega) (by omega) (by rw [es 5 (by decide)]; exact hl) (by rw [e3]; exact cupd) (fun s' c' a1 a2 a3 => ?_) (fun s' r a1 a2 a3 => ?_)
      · refine k0 s' c' ?_ (fun k hk => by rw [a2 k hk, es k hk]) a3
        rw [e6] at a1; rw [hp]; exact a1
      · refine k1 s' r ?_ a2 (fun k hk => by rw [a3 k hk, es k hk])
        rw [e6] at a1; rw [hp]; exact a1
    by_cases q : nI (val (st 6) (i + 1) (dct (st 6) n (i + 1))) ≤ tab_HIGHEST (kd (st 6 i)).toNatClampNeg
    · exact b_t q (go 0 ⟨fun _ => q, fun _ => rfl⟩)
    · exact b_f q (go 1 ⟨fun z => absurd z (by decide), fun z => absurd z q⟩)
