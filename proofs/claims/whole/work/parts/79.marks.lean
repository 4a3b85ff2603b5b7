/-! the class's parts: marks -/
def pOK (st : tSt) (p x : Nat) : Prop := st 11 p = 0 ∧ bt (st 10 p) x = true
theorem c_canPlay {st : tSt} {p x : Nat} {post : Int32 → tSt → Prop} (hx : x < 32) (h1 : pOK st p x → post 1 st) (h0 : ¬ pOK st p x → post 0 st) : wp_Piper_canPlay p (nI x) st post := by
  by_cases g : st 11 p = 0
  · refine b_t g (c_has hx ?_)
    by_cases g2 : bt (st 10 p) x = true
    · rw [if_pos g2]
      exact b_f (by decide) (h1 ⟨g, g2⟩)
    · rw [if_neg g2]
      exact b_t rfl (h0 (fun q => g2 q.2))
  · exact b_f g (h0 (fun q => g q.1))
theorem c_takL {st0 : tSt} {n x : Nat} {post : tSt → Prop} (hn : n < 32) (hx : x < 32) (hc : st0 27 0 = nI n) (h : ∀ st' : tSt, (∀ κ, κ ≠ 31 → st' κ = st0 κ) → (∀ p, p < 6 → ∀ k, k < 32 → (inB (st' 31 p) k ↔ (inB (st0 31 p) k ∨ (k = n ∧ pOK st0 p x)))) → post st') : ∀ (m q : Nat) (st : tSt), q + m = 6 → (∀ κ, κ ≠ 31 → st κ = st0 κ) → (∀ p, p < q → ∀ k, k < 32 → (inB (st 31 p) k ↔ (inB (st0 31 p) k ∨ (k = n ∧ pOK st0 p x)))) → (∀ p, q ≤ p → st 31 p = st0 31 p) → wp_Cast_markTakers_2 post (m + 1) (nI x) (nI q) st
  | 0, q, st, hq, a1, a2, a3 => by
    have e : q = 6 := by omega
    subst e
    exact b_t (by decide) (h st a1 a2)
  | m + 1, q, st, hq, a1, a2, a3 => by
    have hin : vp_in (nI q) 6 := vp_in_nI (by omega) (by decide)
    have epo : pOK st q x ↔ pOK st0 q x := by unfold pOK; rw [a1 11 (by decide), a1 10 (by decide)]
    refine b_f (nI_ge (a := q) (b := 6) (by omega) (by decide)) ⟨hin, ?_⟩
    rw [n_cl (show q < 2 ^ 31 by omega)]
    refine c_canPlay hx (fun g => ?_) (fun g => ?_)
    · refine b_f (by decide) ⟨hin, hin, fun s3 e3 y e => ?_⟩
      rw [a1 27 (by decide), hc] at e3
      rw [nI_1] at e
      subst e
      have f31 : ∀ p, s3 31 p = if p = q then st 31 q ||| ((1 : Int32) <<< (nI n &&& 31)) else st 31 p := fun p => by
        rw [e3]
        by_cases z : p = q <;> simp [tUp_ap, z]
      refine c_takL hn hx hc h m (q + 1) s3 (by omega) (fun κ hκ => by rw [e3, tUp_ne _ _ _ hκ]; exact a1 κ hκ) (fun p hp k hk => ?_) (fun p hp => by rw [f31, if_neg (by omega)]; exact a3 p (by omega))
      rw [f31]
      by_cases z : p = q
      · rw [if_pos z, inB_or, z, a3 q (Nat.le_refl q)]
        have : inB ((1 : Int32) <<< (nI n &&& 31)) k ↔ k = n := by
          unfold inB
          rw [bt_shl hn hk, decide_eq_true_eq]
        rw [this]
        exact ⟨fun w => w.elim Or.inl (fun w => Or.inr ⟨w, epo.mp g⟩), fun w => w.elim Or.inl (fun w => Or.inr w.1)⟩
      · rw [if_neg z]
        exact a2 p (by omega) k hk
    · refine b_t rfl (fun y e => ?_)
      rw [nI_1] at e
      subst e
      refine c_takL hn hx hc h m (q + 1) st (by omega) a1 (fun p hp k hk => ?_) (fun p hp => a3 p (by omega))
      by_cases z : p = q
      · rw [z, a3 q (Nat.le_refl q)]
        exact ⟨Or.inl, fun w => w.elim id (fun w => absurd (epo.mpr w.2) g)⟩
      · exact a2 p (by omega) k hk
theorem c_markTakers {st : tSt} {n x : Nat} {post : tSt → Prop} (hn : n < 32) (hx : x < 32) (hc : st 27 0 = nI n) (h : ∀ st' : tSt, (∀ κ, κ ≠ 31 → st' κ = st κ) → (∀ p, p < 6 → ∀ k, k < 32 → (inB (st' 31 p) k ↔ (inB (st 31 p) k ∨ (k = n ∧ pOK st p x)))) → post st') : wp_Cast_markTakers (nI x) st post := ⟨7, c_takL hn hx hc h 6 0 st rfl (fun _ _ => rfl) (fun p hp => absurd hp (by omega)) (fun _ _ => rfl)⟩
/-- the bars of a new part n, of the call c, beside n parts of the calls co -/
theorem c_barL {st0 : tSt} {n c w : Nat} {co : Nat → Nat} {post : tSt → Prop} (hn : n < 12) (hc : c < 6) (hw : w ≤ 20) (hco : ∀ j, j < n → co j < 6) (h33 : ∀ j, j < n → st0 33 j = nI (co j)) (hok : rCallOK (st0 (14 + c))) (hok2 : ∀ j, j < n → rCallOK (st0 (14 + co j)))
    (h : ∀ st' : tSt, (∀ κ, κ ≠ 32 → st' κ = st0 κ) → (∀ j, j < n → ∀ k, k < 32 → (inB (st' 32 j) k ↔ if k = n then clB w (st0 (14 + c)) (st0 (14 + co j)) = true else inB (st0 32 j) k)) → (∀ k, k < 32 → (inB (st' 32 n) k ↔ (inB (st0 32 n) k ∨ (k < n ∧ clB w (st0 (14 + c)) (st0 (14 + co k)) = true)))) → post st') :
    ∀ (m o : Nat) (st : tSt), o + m = n → (∀ κ, κ ≠ 32 → st κ = st0 κ) → (∀ j, j < o → ∀ k, k < 32 → (inB (st 32 j) k ↔ if k = n then clB w (st0 (14 + c)) (st0 (14 + co j)) = true else inB (st0 32 j) k)) → (∀ j, o ≤ j → j < n → st 32 j = st0 32 j) → (∀ k, k < 32 → (inB (st 32 n) k ↔ (inB (st0 32 n) k ∨ (k < o ∧ clB w (st0 (14 + c)) (st0 (14 + co k)) = true)))) → wp_Cast_markBars_28 post (m + 1) (nI c) (nI w) (nI n) (nI o) st
  | 0, o, st, ho, a1, a2, a3, a4 => by
    have e : o = n := by omega
    subst e
    exact b_t (Int32.le_refl _) (h st a1 a2 a4)
  | m + 1, o, st, ho, a1, a2, a3, a4 => by
    have hio : vp_in (nI o) 12 := vp_in_nI (by omega) (by decide)
    have hin : vp_in (nI n) 12 := vp_in_nI (by omega) (by decide)
    have hic : vp_in (nI c) 6 := vp_in_nI (by omega) (by decide)
    refine b_f (nI_ge (by omega) (by omega)) ⟨hio, fun y6 e6 => ⟨hio, hio, fun s1 e1 => ?_⟩⟩
    rw [n_cl (show o < 2 ^ 31 by omega)] at e1 e6
    have s1o : ∀ κ, κ ≠ 32 → s1 κ = st0 κ := fun κ hκ => by rw [e1, tUp_ne _ _ _ hκ]; exact a1 κ hκ
    rw [a1 33 (by decide), h33 o (by omega)] at e6
    subst e6
    have hcoo := hco o (by omega)
    refine c_w1 (c_in5 hcoo).1 (c_in5 hcoo).2 (b_f (by decide) ⟨hic, vp_in_nI (by omega) (by decide), ?_⟩)
    rw [n_cl (show c < 2 ^ 31 by omega), n_cl (show co o < 2 ^ 31 by omega)]
    have f32 : ∀ j, s1 32 j = if j = o then st 32 o &&& (((1 : Int32) <<< (nI n &&& 31)) ^^^ -1) else st 32 j := fun j => by
      rw [e1]
      by_cases z : j = o <;> simp [tUp_ap, z]
    have del : ∀ (x : Int32) (k : Nat), k < 32 → (inB (x &&& (((1 : Int32) <<< (nI n &&& 31)) ^^^ -1)) k ↔ (inB x k ∧ k ≠ n)) := by
      intro x k hk
      unfold inB
      rw [bt_del (by omega) hk, Bool.and_eq_true, Bool.not_eq_true', decide_eq_false_iff_not]
    have one : ∀ (i k : Nat), i < 32 → k < 32 → (inB ((1 : Int32) <<< (nI i &&& 31)) k ↔ k = i) := by
      intro i k hi hk
      unfold inB
      rw [bt_shl hi hk, decide_eq_true_eq]
    have ec : s1 (14 + c) = st0 (14 + c) := s1o _ (by omega)
    have ed : s1 (14 + co o) = st0 (14 + co o) := s1o _ (by omega)
    refine c_clash hw (by rw [ec]; exact hok) (by rw [ed]; exact hok2 o (by omega)) ?_
    rw [ec, ed]
    by_cases g : clB w (st0 (14 + c)) (st0 (14 + co o)) = true
    · rw [if_pos g]
      refine b_f (by decide) ⟨hio, hio, fun s4 e4 => ⟨hin, hin, fun s5 e5 y e => ?_⟩⟩
      rw [n_cl (show o < 2 ^ 31 by omega)] at e4
      rw [n_cl (show n < 2 ^ 31 by omega)] at e5
      rw [nI_1] at e
      subst e
      have g32 : ∀ j, s5 32 j = if j = n then st 32 n ||| ((1 : Int32) <<< (nI o &&& 31)) else if j = o then (st 32 o &&& (((1 : Int32) <<< (nI n &&& 31)) ^^^ -1)) ||| ((1 : Int32) <<< (nI n &&& 31)) else st 32 j := fun j => by
        have hno : ¬ n = o := by omega
        have hon : ¬ o = n := by omega
        rw [e5, e4]
        by_cases z : j = n
        · subst z
          simp [tUp_ap, hno, f32]
        · by_cases z2 : j = o
          · subst z2
            simp [tUp_ap, z, f32]
          · simp [tUp_ap, z, z2, f32]
      refine c_barL hn hc hw hco h33 hok hok2 h m (o + 1) s5 (by omega) (fun κ hκ => by rw [e5, e4, tUp_ne _ _ _ hκ, tUp_ne _ _ _ hκ]; exact s1o κ hκ) (fun j hj k hk => ?_) (fun j h1 h2 => by rw [g32, if_neg (by omega), if_neg (by omega)]; exact a3 j (by omega) h2) (fun k hk => ?_)
      · rw [g32, if_neg (by omega)]
        by_cases z : j = o
        · rw [if_pos z, z, inB_or, del _ k hk, one n k (by omega) hk, a3 o (Nat.le_refl o) (by omega)]
          by_cases q : k = n
          · rw [if_pos q]
            exact ⟨fun _ => g, fun _ => Or.inr q⟩
          · rw [if_neg q]
            exact ⟨fun v => v.elim (fun v => v.1) (fun v => absurd v q), fun v => Or.inl ⟨v, q⟩⟩
        · rw [if_neg z]
          exact a2 j (by omega) k hk
      · rw [g32, if_pos rfl, inB_or, one o k (by omega) hk, a4 k hk]
        constructor
        · rintro ((v | ⟨v, v2⟩) | v)
          · exact Or.inl v
          · exact Or.inr ⟨by omega, v2⟩
          · exact Or.inr ⟨by omega, by rw [v]; exact g⟩
        · rintro (v | ⟨v, v2⟩)
          · exact Or.inl (Or.inl v)
          · by_cases q : k = o
            · exact Or.inr q
            · exact Or.inl (Or.inr ⟨by omega, v2⟩)
    · rw [if_neg g]
      refine b_t rfl (fun y e => ?_)
      rw [nI_1] at e
      subst e
      refine c_barL hn hc hw hco h33 hok hok2 h m (o + 1) s1 (by omega) s1o (fun j hj k hk => ?_) (fun j h1 h2 => by rw [f32, if_neg (by omega)]; exact a3 j (by omega) h2) (fun k hk => ?_)
      · rw [f32]
        by_cases z : j = o
        · rw [if_pos z, z, del _ k hk, a3 o (Nat.le_refl o) (by omega)]
          by_cases q : k = n
          · rw [if_pos q]
            exact ⟨fun v => absurd q v.2, fun v => absurd v g⟩
          · rw [if_neg q]
            exact ⟨fun v => v.1, fun v => ⟨v, q⟩⟩
        · rw [if_neg z]
          exact a2 j (by omega) k hk
      · rw [f32, if_neg (by omega), a4 k hk]
        constructor
        · rintro (v | ⟨v, v2⟩)
          · exact Or.inl v
          · exact Or.inr ⟨by omega, v2⟩
        · rintro (v | ⟨v, v2⟩)
          · exact Or.inl v
          · by_cases q : k = o
            · rw [q] at v2; exact absurd v2 g
            · exact Or.inr ⟨by omega, v2⟩
