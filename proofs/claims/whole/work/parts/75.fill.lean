/-! the class: a filling of some parts -/
def Fill (op br : Nat → Nat → Prop) (L : Nat → Prop) (g : Nat → Nat) : Prop := (∀ k, L k → g k < 6 ∧ op (g k) k) ∧ ∀ j k, L j → L k → j ≠ k → br j k → g j ≠ g k
theorem Fill_give {op br : Nat → Nat → Prop} {L : Nat → Prop} {g : Nat → Nat} {r p : Nat} (hp : p < 6) (ho : op p r) (hsym : ∀ j k, L j → L k → br j k → br k j) (hr : L r) (h : Fill (fun q k => op q k ∧ (q = p → ¬ br r k)) br (fun k => L k ∧ k ≠ r) g) : Fill op br L (fun k => if k = r then p else g k) := by
  refine ⟨fun k hk => ?_, fun j k hj hk hjk hb => ?_⟩
  · by_cases e : k = r
    · simp only [if_pos e]
      subst e
      exact ⟨hp, ho⟩
    · simp only [if_neg e]
      have := h.1 k ⟨hk, e⟩
      exact ⟨this.1, this.2.1⟩
  · by_cases ej : j = r
    · by_cases ek : k = r
      · exact absurd (ej.trans ek.symm) hjk
      · simp only [if_pos ej, if_neg ek]
        intro e
        exact (h.1 k ⟨hk, ek⟩).2.2 e.symm (by rw [← ej]; exact hb)
    · by_cases ek : k = r
      · simp only [if_neg ej, if_pos ek]
        intro e
        exact (h.1 j ⟨hj, ej⟩).2.2 e (by rw [← ek]; exact hsym j k hj hk hb)
      · simp only [if_neg ej, if_neg ek]
        exact h.2 j k ⟨hj, ej⟩ ⟨hk, ek⟩ hjk hb
theorem Fill_take {op br : Nat → Nat → Prop} {L : Nat → Prop} {g : Nat → Nat} {r p : Nat} (hr : L r) (h : Fill op br L g) (hg : g r = p) : Fill (fun q k => op q k ∧ (q = p → ¬ br r k)) br (fun k => L k ∧ k ≠ r) g := by
  refine ⟨fun k hk => ⟨(h.1 k hk.1).1, (h.1 k hk.1).2, fun e hb => ?_⟩, fun j k hj hk hjk hb => h.2 j k hj.1 hk.1 hjk hb⟩
  exact h.2 r k hr hk.1 (Ne.symm hk.2) hb (by rw [hg, e])
theorem Fill_swap {op br : Nat → Nat → Prop} {L : Nat → Prop} {g : Nat → Nat} {r p q : Nat} (hq : q < 6) (hp : p < 6) (he : ∀ k, L k → (op q k ↔ op p k)) (hr : L r) (h : Fill op br L g) (hg : g r = p) : ∃ g', Fill op br L g' ∧ g' r = q := by
  refine ⟨fun k => if g k = p then q else if g k = q then p else g k, ⟨fun k hk => ?_, fun j k hj hk hjk hb => ?_⟩, ?_⟩
  · have := h.1 k hk
    by_cases e1 : g k = p
    · simp only [if_pos e1]
      exact ⟨hq, (he k hk).mpr (by rw [← e1]; exact this.2)⟩
    · by_cases e2 : g k = q
      · simp only [if_neg e1, if_pos e2]
        exact ⟨hp, (he k hk).mp (by rw [← e2]; exact this.2)⟩
      · simp only [if_neg e1, if_neg e2]
        exact this
  · have hne := h.2 j k hj hk hjk hb
    by_cases a1 : g j = p
    · by_cases b1 : g k = p
      · exact absurd (a1.trans b1.symm) hne
      · by_cases b2 : g k = q
        · simp only [if_pos a1, if_neg b1, if_pos b2]
          intro e
          exact b1 (b2.trans e)
        · simp only [if_pos a1, if_neg b1, if_neg b2]
          intro e
          exact b2 e.symm
    · by_cases a2 : g j = q
      · by_cases b1 : g k = p
        · simp only [if_neg a1, if_pos a2, if_pos b1]
          intro e
          exact a1 (a2.trans e.symm)
        · by_cases b2 : g k = q
          · exact absurd (a2.trans b2.symm) hne
          · simp only [if_neg a1, if_pos a2, if_neg b1, if_neg b2]
            intro e
            exact b1 e.symm
      · by_cases b1 : g k = p
        · simp only [if_neg a1, if_neg a2, if_pos b1]
          exact a2
        · by_cases b2 : g k = q
          · simp only [if_neg a1, if_neg a2, if_neg b1, if_pos b2]
            exact a1
          · simp only [if_neg a1, if_neg a2, if_neg b1, if_neg b2]
            exact hne
  · simp only [if_pos hg]
theorem cntb_pos {b : Nat → Bool} : ∀ {n r : Nat}, r < n → b r = true → 1 ≤ cntb b n
  | 0, r, h, _ => by omega
  | n + 1, r, h, hb => by
    unfold cntb
    by_cases e : r = n
    · subst e
      rw [if_pos hb]
      omega
    · have := cntb_pos (b := b) (n := n) (r := r) (by omega) hb
      omega
theorem cntb_del {b c : Nat → Bool} {r : Nat} (hb : b r = true) (hc : c r = false) : ∀ {n : Nat}, r < n → (∀ k, k < n → k ≠ r → c k = b k) → cntb c n + 1 = cntb b n
  | 0, h, _ => by omega
  | n + 1, h, hk => by
    unfold cntb
    by_cases e : r = n
    · subst e
      rw [if_pos hb, hc, cntb_congr (b := c) (c := b) r (fun i hi => hk i (by omega) (by omega))]
      simp
    · have ih := cntb_del hb hc (n := n) (by omega) (fun k h1 h2 => hk k (by omega) h2)
      rw [hk n (by omega) (Ne.symm e)]
      omega
/-! the helpers -/
theorem and1 (y : Int32) : ∃ e : Nat, e ≤ 1 ∧ y &&& 1 = nI e := by
  by_cases h : bt y 0 = true
  · exact ⟨1, by decide, (hb_1 y).mpr h⟩
  · refine ⟨0, by decide, b_ext (fun i hi => ?_)⟩
    rw [b_and, bt_1 i hi]
    show _ = bt 0 i
    rw [b_0]
    by_cases h0 : i = 0
    · subst h0; simp at h; simp [h]
    · simp [h0]
theorem c_takersL {st : tSt} {x : Int32} {post : Int32 → tSt → Prop} (h : ∀ c : Nat, c ≤ 6 → post (nI c) st) : ∀ m k a : Nat, k + m = 6 → a ≤ k → wp_Cast_takersOf_4 post (m + 1) x (nI a) (nI k) st
  | 0, k, a, hk, ha => by
    have e : k = 6 := by omega
    subst e
    exact b_t (by decide) (h a ha)
  | m + 1, k, a, hk, ha => by
    refine b_f (nI_ge (a := k) (b := 6) (by omega) (by decide)) ⟨vp_in_nI (by omega) (by decide), fun y1 e1 y2 e2 => ?_⟩
    obtain ⟨d, hd, ed⟩ := and1 (st 31 (nI k).toNatClampNeg >>> (x &&& 31))
    rw [ed, nI_add] at e1
    rw [nI_1] at e2
    subst e1; subst e2
    exact c_takersL h m (k + 1) (a + d) (by omega) (by omega)
theorem c_hardL {st : tSt} {left : Int32} {n : Nat} {post : Int32 → tSt → Prop} (hn : n ≤ 12) (hc : st 27 0 = nI n) (h : ∀ r, r < n → bt left r = true → post (nI r) st) (hex : ∃ r, r < n ∧ bt left r = true) : ∀ (m k : Nat) (x2 x3 x4 : Int32), k + m = n → ((x3 = 7 ∧ ∀ j, j < k → ¬ bt left j = true) ∨ ∃ r, r < n ∧ x2 = nI r ∧ bt left r = true) → wp_Cast_hardestOf_11 post (m + 1) left x2 x3 x4 (nI k) st
  | 0, k, x2, x3, x4, hk, hi => by
    have e : k = n := by omega
    subst e
    refine b_t (by rw [hc]; exact Int32.le_refl _) ?_
    rcases hi with ⟨-, q⟩ | ⟨r, r1, r2, r3⟩
    · obtain ⟨r, r1, r2⟩ := hex
      exact absurd r2 (q r r1)
    · rw [r2]; exact h r r1 r3
  | m + 1, k, x2, x3, x4, hk, hi => by
    refine b_f (by rw [hc]; exact nI_ge (by omega) (by omega)) (c_has (by omega) ?_)
    have next : ∀ (a2 a3 a4 : Int32), ((a3 = 7 ∧ ∀ j, j < k + 1 → ¬ bt left j = true) ∨ ∃ r, r < n ∧ a2 = nI r ∧ bt left r = true) → ∀ y : Int32, y = nI k + 1 → wp_Cast_hardestOf_11 post (m + 1) left a2 a3 a4 y st := by
      intro a2 a3 a4 q y e
      rw [nI_1] at e
      subst e
      exact c_hardL hn hc h hex m (k + 1) a2 a3 a4 (by omega) q
    by_cases g : bt left k = true
    · rw [if_pos g]
      refine b_f (by decide) ⟨7, c_takersL (fun c hc6 => ⟨vp_in_nI (by omega) (by decide), fun y1 _ y2 _ y3 _ y4 _ y5 _ => ?_⟩) 6 0 0 rfl (Nat.le_refl 0)⟩
      have pick : ∀ a3 a4 : Int32, wp_Cast_hardestOf_70 post (wp_Cast_hardestOf_11 post (m + 1)) left (nI k) a3 a4 st := fun a3 a4 => next (nI k) a3 a4 (Or.inr ⟨k, by omega, rfl, g⟩)
      by_cases q1 : nI c < x3
      · exact b_t q1 (pick _ _)
      have keep : wp_Cast_hardestOf_80 post (wp_Cast_hardestOf_11 post (m + 1)) left x2 x3 x4 (nI k) st := by
        refine next x2 x3 x4 ?_
        rcases hi with ⟨q, -⟩ | q
        · exact absurd (by rw [q]; exact nI_lt (b := 7) (by omega) (by decide)) q1
        · exact Or.inr q
      refine b_f q1 ?_
      by_cases q2 : nI c = x3
      · refine b_t q2 ?_
        by_cases q3 : (y5 &&& 63) ≤ x4
        · exact b_t q3 keep
        · exact b_f q3 (pick _ _)
      · exact b_f q2 keep
    · rw [if_neg g]
      refine b_t rfl (next x2 x3 x4 ?_)
      rcases hi with ⟨q1, q2⟩ | q
      · refine Or.inl ⟨q1, fun j hj => ?_⟩
        by_cases e : j = k
        · rw [e]; exact g
        · exact q2 j (by omega)
      · exact Or.inr q
theorem c_worthL {st : tSt} {left : Int32} {p r : Nat} {post : Int32 → tSt → Prop} (hp : p < 6) (hr : r < 12) (h1 : (∀ q, q < p → ¬ (st 31 q &&& left) = (st 31 p &&& left)) → bt (st 31 p) r = true → post 1 st) (h0 : ((∃ q, q < p ∧ (st 31 q &&& left) = (st 31 p &&& left)) ∨ ¬ bt (st 31 p) r = true) → post 0 st) : ∀ m k : Nat, k + m = p → (∀ q, q < k → ¬ (st 31 q &&& left) = (st 31 p &&& left)) → wp_Cast_isWorthTrying_3 post (wp_Cast_isWorthTrying_37 post) (m + 1) (nI p) (nI r) left (nI k) st
  | 0, k, hk, hno => by
    have e : k = p := by omega
    subst e
    refine b_t (Int32.le_refl _) ⟨vp_in_nI (by omega) (by decide), ?_⟩
    rw [n_cl (show k < 2 ^ 31 by omega)]
    refine c_has (by omega) ?_
    by_cases g : bt (st 31 k) r = true
    · rw [if_pos g]; exact ⟨Or.inr rfl, h1 hno g⟩
    · rw [if_neg g]; exact ⟨Or.inl rfl, h0 (Or.inr g)⟩
  | m + 1, k, hk, hno => by
    refine b_f (nI_ge (by omega) (by omega)) ⟨vp_in_nI (by omega) (by decide), vp_in_nI (by omega) (by decide), ?_⟩
    rw [n_cl (show k < 2 ^ 31 by omega), n_cl (show p < 2 ^ 31 by omega)]
    by_cases g : (st 31 k &&& left) = (st 31 p &&& left)
    · exact b_t g (h0 (Or.inl ⟨k, by omega, g⟩))
    · refine b_f g (fun y e => ?_)
      rw [nI_1] at e
      subst e
      refine c_worthL hp hr h1 h0 m (k + 1) (by omega) (fun q hq => ?_)
      by_cases z : q = k
      · rw [z]; exact g
      · exact hno q (by omega)
