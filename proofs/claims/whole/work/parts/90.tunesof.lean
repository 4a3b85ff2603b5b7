/-! tunes: the reference -/
theorem upd_ap (f : Nat → Int32) (j : Nat) (x : Int32) (i : Nat) : upd f j x i = if i = j then x else f i := by
  unfold upd
  by_cases h : i = j <;> simp [h]
def OI (T K N : Nat) (v u d : Nat → Int32) : Prop := N ≤ K ∧ (∀ i, i < T → (v i = -1 ∧ d i = -1 ∧ u i = 0) ∨ ∃ a h : Nat, a < K ∧ 1 ≤ h ∧ h ≤ N ∧ v i = nI a ∧ d i = nI (a / 6) ∧ u i = nI h) ∧ ∀ i j, i < T → j < T → (v i < v j ↔ u i < u j)
theorem OI_up {T K N K' : Nat} {v u d : Nat → Int32} (h : OI T K N v u d) (hK : K ≤ K') : OI T K' N v u d := by
  obtain ⟨h1, h2, h3⟩ := h
  refine ⟨by omega, fun i hi => ?_, h3⟩
  rcases h2 i hi with z | ⟨a, b, z1, z⟩
  · exact Or.inl z
  · exact Or.inr ⟨a, b, by omega, z⟩
theorem n_m1_lt {n : Nat} (h : n < 2 ^ 31) : (-1 : Int32) < nI n := by
  rw [Int32.lt_iff_toInt_lt, nI_toInt h]
  have : (-1 : Int32).toInt = -1 := by decide
  omega
theorem OI_step {T K N t : Nat} {v u d : Nat → Int32} (h : OI T K N v u d) (hK : K < 100000) (ht : t < T) : OI T (K + 1) (N + 1) (upd v t (nI K)) (upd u t (nI (N + 1))) (upd d t (nI (K / 6))) := by
  obtain ⟨h1, h2, h3⟩ := h
  have lo : ∀ i, i < T → v i < nI K ∧ u i < nI (N + 1) := fun i hi => by
    rcases h2 i hi with ⟨z1, -, z3⟩ | ⟨a, b, z1, z2, z3, z4, -, z6⟩
    · rw [z1, z3]
      exact ⟨n_m1_lt (by omega), nI_lt (a := 0) (by omega) (by omega)⟩
    · rw [z4, z6]
      exact ⟨nI_lt z1 (by omega), nI_lt (by omega) (by omega)⟩
  refine ⟨by omega, fun i hi => ?_, fun i j hi hj => ?_⟩
  · rw [upd_ap, upd_ap, upd_ap]
    by_cases z : i = t
    · rw [if_pos z, if_pos z, if_pos z]
      exact Or.inr ⟨K, N + 1, by omega, by omega, by omega, rfl, rfl, rfl⟩
    · rw [if_neg z, if_neg z, if_neg z]
      rcases h2 i hi with w | ⟨a, b, z1, z2, z3, w⟩
      · exact Or.inl w
      · exact Or.inr ⟨a, b, by omega, z2, by omega, w⟩
  · rw [upd_ap, upd_ap, upd_ap, upd_ap]
    by_cases z : i = t
    · rw [if_pos z, if_pos z]
      by_cases w : j = t
      · rw [if_pos w, if_pos w]
        exact ⟨fun e => (Int32.lt_irrefl e).elim, fun e => (Int32.lt_irrefl e).elim⟩
      · rw [if_neg w, if_neg w]
        have := lo j hj
        exact ⟨fun e => absurd e (Int32.lt_asymm this.1), fun e => absurd e (Int32.lt_asymm this.2)⟩
    · rw [if_neg z, if_neg z]
      by_cases w : j = t
      · rw [if_pos w, if_pos w]
        have := lo i hi
        exact ⟨fun _ => this.2, fun _ => this.1⟩
      · rw [if_neg w, if_neg w]
        exact h3 i j hi hj
theorem OI_pick {fit : Nat → Bool} {T K N : Nat} {v u d : Nat → Int32} (h : OI T K N v u d) : pick fit u T = pick fit v T := pick_congr T (fun _ _ => rfl) (fun i j hi hj => (h.2.2 i j hi hj).symm)
theorem tfin_snoc {fit : Nat → Nat → Bool} {D6 c : Nat} : ∀ (l : List Nat) (k : Nat) (v : Nat → Int32), tfin fit D6 (l ++ [c]) k v = appO (tfin fit D6 l k v) (pick (fit c) (tfin fit D6 l k v) 10) (nI (D6 + (k + l.length)))
  | [], k, v => rfl
  | a :: l, k, v => by
    show tfin fit D6 (l ++ [c]) (k + 1) _ = _
    rw [tfin_snoc l (k + 1)]
    show _ = appO (tfin fit D6 l (k + 1) _) (pick (fit c) (tfin fit D6 l (k + 1) _) 10) (nI (D6 + (k + (l.length + 1))))
    rw [show k + 1 + l.length = k + (l.length + 1) by omega]
theorem tch_at {fit : Nat → Nat → Bool} {D6 c : Nat} {r : List Nat} : ∀ (l : List Nat) (k : Nat) (v : Nat → Int32), ¬ c ∈ l → tch fit D6 (l ++ c :: r) k v c = pick (fit c) (tfin fit D6 l k v) 10
  | [], k, v, _ => by
    show (if c = c then _ else _) = _
    rw [if_pos rfl]
    rfl
  | a :: l, k, v, h => by
    have h1 : ¬ c = a := fun e => h (by rw [e]; exact List.mem_cons_self)
    show (if c = a then _ else tch fit D6 (l ++ c :: r) (k + 1) _ c) = _
    rw [if_neg h1, tch_at l (k + 1) _ (fun w => h (List.mem_cons_of_mem a w))]
    rfl
theorem pick_lt {fit : Nat → Bool} {v : Nat → Int32} {T : Nat} (hT : T ≤ 10) (h : ∀ i, T ≤ i → i < 10 → ¬ fit i = true) : pick fit v 10 = pick fit v T := by
  have := pick_T (fit := fit) (v := v) (T := T) (10 - T) (fun i h1 h2 => h i h1 (by omega))
  rw [show T + (10 - T) = 10 by omega] at this
  exact this
theorem fit_no {s t : tSt} {T : Nat} (h : rTunes s t T) (c : Nat) : ∀ i, T ≤ i → i < 10 → ¬ fitS s c i = true := fun i h1 h2 => by
  unfold fitS
  rw [(h.2.2.2.2 i h1 h2).1, b_0, Bool.false_and]
  decide
/-- the month -/
theorem m_mon {t : tSt} {Dd : Nat} {post : Int32 → tSt → Prop} (h1 : t 1 0 = nI Dd) (hD : Dd ≤ 9999) (h : post (nI (Dd / 30 % 12)) t) : wp_M_month t post := by
  unfold wp_M_month
  rw [h1, show (nI Dd / (30 : Int32)) = nI (Dd / 30) from pk_div (a := Dd) (d := 30) (by omega) (by decide) (by decide), show nI (Dd / 30) - nI (Dd / 30) / (12 : Int32) * (12 : Int32) = nI (Dd / 30 % 12) from pk_rem (a := Dd / 30) (d := 12) (by omega) (by decide) (by decide)]
  exact h
theorem c_mon {s : tSt} {Dd : Nat} {post : Int32 → tSt → Prop} (h1 : s 2 0 = nI Dd) (hD : Dd ≤ 9999) (h : post (nI (Dd / 30 % 12)) s) : wp_T_monthOfToday s post := by
  unfold wp_T_monthOfToday
  rw [h1, show (nI Dd / (30 : Int32)) = nI (Dd / 30) from pk_div (a := Dd) (d := 30) (by omega) (by decide) (by decide), show nI (Dd / 30) - nI (Dd / 30) / (12 : Int32) * (12 : Int32) = nI (Dd / 30 % 12) from pk_rem (a := Dd / 30) (d := 12) (by omega) (by decide) (by decide)]
  exact h
/-- one call's tune -/
theorem m_tu79 {st : tSt} {T Dd c : Nat} {fit : Nat → Bool} {x1 x2 x3 : Int32} {post : tSt → Prop} {k176 : Int32 → Int32 → Int32 → Int32 → tSt → Prop} (hT : T ≤ 10) (h3 : st 3 0 = nI T) (h1 : st 1 0 = nI Dd) (hD : Dd ≤ 9999) (hc : c < 6) {oc : Nat} (hoc : oc < 32) (h17 : st 17 (8 * c + 4) = nI oc) (hf : ∀ i, i < T → fit i = (bt (st 18 i) oc && bt (st 19 i) (Dd / 30 % 12)))
    (hK : ∀ s' : tSt, (∀ κ, κ ≠ 27 → s' κ = st κ) → s' 27 = upd (st 27) c (oI (pick fit (st 28) T)) → k176 x1 x2 x3 (nI c) s') : ∀ (m k : Nat) (s : tSt), k + m = T → (∀ κ, κ ≠ 27 → s κ = st κ) → s 27 = upd (st 27) c (oI (pick fit (st 28) k)) → wp_M_tunesOf_79 post k176 (m + 1) x1 x2 x3 (nI c) (nI k) s
  | 0, k, s, hk, hs, h27 => by
    have e : k = T := by omega
    subst e
    exact b_t (by rw [hs 3 (by decide), h3]; exact Int32.le_refl _) (hK s hs h27)
  | m + 1, k, s, hk, hs, h27 => by
    have ih := m_tu79 (post := post) hT h3 h1 hD hc hoc h17 hf hK m (k + 1)
    have hin : vp_in (nI k) 10 := vp_in_nI (by omega) (by decide)
    have hinc : vp_in (nI c) 6 := vp_in_nI hc (by decide)
    have ek := n_cl (show k < 2 ^ 31 by omega)
    have ec := n_cl (show c < 2 ^ 31 by omega)
    have mo12 : Dd / 30 % 12 < 12 := Nat.mod_lt _ (by decide)
    have s27 : s 27 c = oI (pick fit (st 28) k) := by rw [h27, upd_ap, if_pos rfl]
    have skip : ¬ fit k = true → wp_M_tunesOf_170 post (wp_M_tunesOf_79 post k176 (m + 1)) k176 x1 x2 x3 (nI c) (nI k) s := by
      intro z y e
      rw [nI_1] at e
      subst e
      exact ih s (by omega) hs (by rw [pick_skip z]; exact h27)
    have same : oI (pick fit (st 28) (k + 1)) = oI (pick fit (st 28) k) → wp_M_tunesOf_170 post (wp_M_tunesOf_79 post k176 (m + 1)) k176 x1 x2 x3 (nI c) (nI k) s := by
      intro z y e
      rw [nI_1] at e
      subst e
      exact ih s (by omega) hs (by rw [z]; exact h27)
    have take : pick fit (st 28) (k + 1) = some k → wp_M_tunesOf_161 post (wp_M_tunesOf_79 post k176 (m + 1)) k176 x1 x2 x3 (nI c) (nI k) s := by
      intro z
      refine ⟨hinc, fun s1 e1 y e => ?_⟩
      rw [ec] at e1
      rw [nI_1] at e
      subst e
      refine ih s1 (by omega) (fun κ hκ => by rw [e1, tUp_ne _ _ _ hκ]; exact hs κ hκ) ?_
      rw [z, e1, tUp_self, h27]
      funext i
      rw [upd_ap, upd_ap, upd_ap]
      by_cases w : i = c
      · rw [if_pos w, if_pos w]; rfl
      · rw [if_neg w, if_neg w, if_neg w]
    refine b_f (by rw [hs 3 (by decide), h3]; exact nI_ge (by omega) (by omega)) ⟨hin, ?_⟩
    refine m_of (k := 4) hc (by decide) ?_
    rw [hs 17 (by decide), h17, ek, hs 18 (by decide)]
    refine m_has hoc ?_
    by_cases g : bt (st 18 k) oc = true
    · rw [if_pos g]
      refine b_f (by decide) ⟨hin, m_mon (by rw [hs 1 (by decide)]; exact h1) hD (m_has (by omega) ?_)⟩
      rw [hs 19 (by decide)]
      by_cases g2 : bt (st 19 k) (Dd / 30 % 12) = true
      · rw [if_pos g2]
        have hfk : fit k = true := by rw [hf k (by omega), g, g2]; rfl
        refine b_f (by decide) ⟨hinc, ?_⟩
        rw [ec, s27]
        cases hp : pick fit (st 28) k with
        | none => exact b_t rfl (take (by rw [pick_none hp, if_pos hfk]))
        | some b =>
          have hb := (pick_some k hp).1
          have eb : (oI (some b)).toNatClampNeg = b := n_cl (show b < 2 ^ 31 by omega)
          refine b_f (n_m1_ne (show b < 2 ^ 31 by omega)) ⟨hin, hinc, vp_in_nI (by omega) (by decide), ?_⟩
          rw [eb, hs 28 (by decide)]
          by_cases z : st 28 b ≤ st 28 k
          · refine b_t z (same ?_)
            rw [pick_step hp, if_neg (fun w => Int32.not_lt.mpr z w.2), hp]
          · refine b_f z (take ?_)
            rw [pick_step hp, if_pos ⟨hfk, Int32.not_le.mp z⟩]
      · rw [if_neg g2]
        refine b_t rfl (skip ?_)
        rw [hf k (by omega), g, Bool.true_and]
        exact g2
    · rw [if_neg g]
      refine b_t rfl (skip ?_)
      rw [hf k (by omega)]
      intro w
      exact g (Bool.and_eq_true_iff.mp w).1
