/-! the end of a day: tunes, calls, pensions; the class -/
def mnV (pen f : Int32) : Int32 := if pen < f then pen else f
def pyF (how : Nat → Int32) (pen F : Int32) : Nat → Int32
  | 0 => F
  | k + 1 => if how k = 2 then pyF how pen F k - mnV pen (pyF how pen F k) else pyF how pen F k
def pyW (how : Nat → Int32) (pen F : Int32) (W : Nat → Int32) (k p : Nat) : Int32 := if p < k ∧ how p = 2 then W p + mnV pen (pyF how pen F p) else W p
theorem pyW_0 {how : Nat → Int32} {pen F : Int32} {W : Nat → Int32} {p : Nat} : pyW how pen F W 0 p = W p := by
  unfold pyW
  rw [if_neg (by omega)]
theorem pyW_k {how : Nat → Int32} {pen F : Int32} {W : Nat → Int32} {k p : Nat} (h : k ≤ p) : pyW how pen F W k p = W p := by
  unfold pyW
  rw [if_neg (by omega)]
theorem pyW_step {how : Nat → Int32} {pen F : Int32} {W : Nat → Int32} {k p : Nat} : pyW how pen F W (k + 1) p = if p = k ∧ how k = 2 then W k + mnV pen (pyF how pen F k) else pyW how pen F W k p := by
  unfold pyW
  by_cases z : p = k
  · subst z
    by_cases w : how p = 2
    · rw [if_pos ⟨by omega, w⟩, if_pos ⟨rfl, w⟩]
    · rw [if_neg (fun q => w q.2), if_neg (fun q => w q.2), if_neg (fun q => w q.2)]
  · rw [if_neg (fun q : p = k ∧ how k = 2 => z q.1)]
    by_cases w : p < k ∧ how p = 2
    · rw [if_pos w, if_pos ⟨by omega, w.2⟩]
    · rw [if_neg w, if_neg (fun q => w ⟨by omega, q.2⟩)]
theorem c_pay2 {s0 : tSt} {P : Nat} {post : tSt → Prop} (hP : P ≤ 6) (h0 : s0 0 0 = nI P) (hQ : ∀ st : tSt, (∀ κ, κ ≠ 3 → κ ≠ 12 → st κ = s0 κ) → st 3 0 = pyF (s0 11) (s0 7 2) (s0 3 0) P → (∀ p, st 12 p = pyW (s0 11) (s0 7 2) (s0 3 0) (s0 12) P p) → post st) : ∀ (m k : Nat) (st : tSt), k + m = P → (∀ κ, κ ≠ 3 → κ ≠ 12 → st κ = s0 κ) → st 3 0 = pyF (s0 11) (s0 7 2) (s0 3 0) k → (∀ p, st 12 p = pyW (s0 11) (s0 7 2) (s0 3 0) (s0 12) k p) → wp_T_payTheOld_2 post (m + 1) (nI k) st
  | 0, k, st, hk, a1, a2, a3 => by
    have e : k = P := by omega
    subst e
    exact b_t (by rw [a1 0 (by decide) (by decide), h0]; exact Int32.le_refl _) (hQ st a1 a2 a3)
  | m + 1, k, st, hk, a1, a2, a3 => by
    have ih := c_pay2 hP h0 hQ m (k + 1)
    have hin : vp_in (nI k) 6 := vp_in_nI (by omega) (by decide)
    refine b_f (by rw [a1 0 (by decide) (by decide), h0]; exact nI_ge (by omega) (by omega)) ⟨hin, ?_⟩
    rw [n_cl (show k < 2 ^ 31 by omega), a1 11 (by decide) (by decide)]
    have eF : pyF (s0 11) (s0 7 2) (s0 3 0) (k + 1) = if s0 11 k = 2 then pyF (s0 11) (s0 7 2) (s0 3 0) k - mnV (s0 7 2) (pyF (s0 11) (s0 7 2) (s0 3 0) k) else pyF (s0 11) (s0 7 2) (s0 3 0) k := rfl
    by_cases z : s0 11 k = 2
    · refine b_t z (c_num (k := 2) (by decide) (fun y2 e2 => ⟨hin, fun s4 e4 s5 e5 y e => ?_⟩))
      rw [a1 7 (by decide) (by decide), a2] at e2
      have e2' : y2 = mnV (s0 7 2) (pyF (s0 11) (s0 7 2) (s0 3 0) k) := e2
      subst e2'
      rw [nI_1] at e
      subst e
      have s43 : s4 3 0 = st 3 0 := by rw [e4, tUp_ne _ _ _ (by decide)]
      rw [s43, a2] at e5
      have s512 : s5 12 = upd (st 12) k (st 12 k + mnV (s0 7 2) (pyF (s0 11) (s0 7 2) (s0 3 0) k)) := by rw [e5, tUp_ne _ _ _ (by decide), e4, tUp_self]
      refine ih s5 (by omega) (fun κ k1 k2 => by rw [e5, tUp_ne _ _ _ k1, e4, tUp_ne _ _ _ k2]; exact a1 κ k1 k2) ?_ (fun p => ?_)
      · rw [e5, tUp_self, upd_ap, if_pos rfl, eF, if_pos z]
      · rw [s512, upd_ap, pyW_step]
        by_cases w : p = k
        · rw [if_pos w, if_pos ⟨w, z⟩, a3 k, pyW_k (Nat.le_refl k)]
        · rw [if_neg w, if_neg (fun q => w q.1)]
          exact a3 p
    · refine b_f z (fun y e => ?_)
      rw [nI_1] at e
      subst e
      refine ih st (by omega) a1 (by rw [eF, if_neg z]; exact a2) (fun p => ?_)
      rw [pyW_step, if_neg (fun q => z q.2)]
      exact a3 p
theorem c_hear {s0 : tSt} {post : tSt → Prop} (hQ : ∀ st : tSt, (∀ κ, κ ≠ 22 → st κ = s0 κ) → (∀ t, t < 10 → st 22 t = s0 30 t) → post st) : ∀ (m k : Nat) (st : tSt), k + m = 10 → (∀ κ, κ ≠ 22 → st κ = s0 κ) → (∀ t, t < k → st 22 t = s0 30 t) → wp_Plan_hearTunes_2 post (m + 1) (nI k) st
  | 0, k, st, hk, a1, a2 => by
    have e : k = 10 := by omega
    subst e
    exact b_t (by decide) (hQ st a1 a2)
  | m + 1, k, st, hk, a1, a2 => by
    have hin : vp_in (nI k) 10 := vp_in_nI (by omega) (by decide)
    refine b_f (nI_ge (a := k) (b := 10) (by omega) (by decide)) ⟨hin, hin, fun s1 e1 y e => ?_⟩
    rw [n_cl (show k < 2 ^ 31 by omega), a1 30 (by decide)] at e1
    rw [nI_1] at e
    subst e
    refine c_hear hQ m (k + 1) s1 (by omega) (fun κ hκ => by rw [e1, tUp_ne _ _ _ hκ]; exact a1 κ hκ) (fun t ht => ?_)
    rw [e1, tUp_self, upd_ap]
    by_cases z : t = k
    · rw [if_pos z, z]
    · rw [if_neg z]; exact a2 t (by omega)
theorem c_go75 {s0 : tSt} {post : Int32 → tSt → Prop} {k96 : tSt → Prop} (hQ : ∀ st : tSt, (∀ κ, κ ≠ 13 → st κ = s0 κ) → (∀ c, c < 6 → st 13 c = 0) → k96 st) : ∀ (m k : Nat) (st : tSt), k + m = 6 → (∀ κ, κ ≠ 13 → st κ = s0 κ) → (∀ c, c < k → st 13 c = 0) → wp_T_day_75 post k96 (m + 1) (nI k) st
  | 0, k, st, hk, a1, a2 => by
    have e : k = 6 := by omega
    subst e
    exact b_t (by decide) (hQ st a1 a2)
  | m + 1, k, st, hk, a1, a2 => by
    have hin : vp_in (nI k) 6 := vp_in_nI (by omega) (by decide)
    refine b_f (nI_ge (a := k) (b := 6) (by omega) (by decide)) ⟨hin, fun s1 e1 y e => ?_⟩
    rw [n_cl (show k < 2 ^ 31 by omega)] at e1
    rw [nI_1] at e
    subst e
    refine c_go75 hQ m (k + 1) s1 (by omega) (fun κ hκ => by rw [e1, tUp_ne _ _ _ hκ]; exact a1 κ hκ) (fun c hc => ?_)
    rw [e1, tUp_self, upd_ap]
    by_cases z : c = k
    · rw [if_pos z]
    · rw [if_neg z]; exact a2 c (by omega)
def yrK (Dd P : Nat) : Nat := if (Dd + 1) % 360 = 0 then P else 0
theorem yr_rem {Dd : Nat} (h : Dd < 9999) : nI (Dd + 1) - nI (Dd + 1) / (360 : Int32) * (360 : Int32) = nI ((Dd + 1) % 360) := pk_rem (a := Dd + 1) (d := 360) (by omega) (by decide) (by decide)
theorem yr_0 {Dd : Nat} (h : Dd < 9999) : (nI (Dd + 1) - nI (Dd + 1) / (360 : Int32) * (360 : Int32) = 0) ↔ (Dd + 1) % 360 = 0 := by
  rw [yr_rem h]
  have : (Dd + 1) % 360 < 360 := Nat.mod_lt _ (by decide)
  exact nI_eq (b := 0) (by omega) (by decide)
theorem c_dayE {D : Dt} {s0 t : tSt} {P Dd : Nat} {res : List Nat} {g : Nat → Nat} {post : Int32 → tSt → Prop} (hM : MD D t P) (hp : PCk D s0 res g) (h0 : s0 0 0 = nI P) (hr : rkOK (s0 9) P) (h13 : ∀ c, c < 6 → s0 13 c = 0 ∨ s0 13 c = 1) (h2 : s0 2 0 = nI Dd) (hD : Dd < 9999)
    (hQ : ∀ (st : tSt) (F : Int32) (W : Nat → Int32), F = s0 3 0 + zN (dfu res (fuS s0) (twS s0) (s0 11) (s0 7 3) P) 6 → (∀ p, p < P → W p = s0 12 p + zN (dwg res (shS D s0 res g) (twS s0) (s0 11) (s0 7 3) p) 6) → (∀ p, P ≤ p → W p = s0 12 p) → (∀ κ, κ ≠ 2 → κ ≠ 3 → κ ≠ 4 → κ ≠ 12 → κ ≠ 13 → κ ≠ 22 → st κ = s0 κ) → st 2 0 = nI (Dd + 1) → st 4 0 = 0 → (∀ c, c < 6 → st 13 c = 0) → (∀ t, t < 10 → st 22 t = s0 30 t) → st 3 0 = pyF (s0 11) (s0 7 2) F (yrK Dd P) → (∀ p, st 12 p = pyW (s0 11) (s0 7 2) F W (yrK Dd P) p) → post (nI (Dd + 1)) st) : ∃ q, wp_T_day_19 post (wp_T_day_65 post) q 0 s0 := by
  refine ⟨7, c_day19 hM hp h0 hr h13 (fun s1 a1 a2 a3 a4 => ⟨11, c_hear (s0 := s1) (fun s2 b1 b2 => ⟨7, c_go75 (s0 := s2) (fun s3 c1 c2 s4 e4 s5 e5 => ?_) 6 0 s2 rfl (fun _ _ => rfl) (fun c hc => absurd hc (by omega))⟩) 10 0 s1 rfl (fun _ _ => rfl) (fun c hc => absurd hc (by omega))⟩) 6 0 s0 rfl (fun _ _ _ => rfl) (by show _ = s0 3 0 + 0; rw [Int32.add_zero]) (fun p _ => by show _ = s0 12 p + 0; rw [Int32.add_zero]) (fun _ _ => rfl)⟩
  have k3 : ∀ κ, κ ≠ 13 → κ ≠ 22 → s3 κ = s1 κ := fun κ k1 k2 => (c1 κ k1).trans (b1 κ k2)
  have s42 : s4 2 0 = nI Dd := by rw [e4, tUp_ne _ _ _ (by decide), k3 2 (by decide) (by decide), a1 2 (by decide) (by decide)]; exact h2
  rw [s42, nI_1] at e5
  have s5o : ∀ κ, κ ≠ 2 → κ ≠ 4 → s5 κ = s3 κ := fun κ k1 k2 => by rw [e5, tUp_ne _ _ _ k1, e4, tUp_ne _ _ _ k2]
  have s52 : s5 2 0 = nI (Dd + 1) := by rw [e5, tUp_self, upd_ap, if_pos rfl]
  have s54 : s5 4 0 = 0 := by rw [e5, tUp_ne _ _ _ (by decide), e4, tUp_self, upd_ap, if_pos rfl]
  have s5r : ∀ κ, κ ≠ 2 → κ ≠ 4 → κ ≠ 13 → κ ≠ 22 → s5 κ = s1 κ := fun κ k1 k2 k4 k5 => (s5o κ k1 k2).trans (k3 κ k4 k5)
  have base : ∀ κ, κ ≠ 2 → κ ≠ 3 → κ ≠ 4 → κ ≠ 12 → κ ≠ 13 → κ ≠ 22 → s5 κ = s0 κ := fun κ k1 k2 k4 k5 k6 k7 => (s5r κ k1 k4 k6 k7).trans (a1 κ k2 k5)
  have s53 : s5 3 0 = s0 3 0 + zN (dfu res (fuS s0) (twS s0) (s0 11) (s0 7 3) P) 6 := by rw [s5r 3 (by decide) (by decide) (by decide) (by decide)]; exact a2
  have s512 : s5 12 = s1 12 := s5r 12 (by decide) (by decide) (by decide) (by decide)
  have s513 : ∀ c, c < 6 → s5 13 c = 0 := fun c hc => by rw [s5o 13 (by decide) (by decide)]; exact c2 c hc
  have s522 : ∀ t, t < 10 → s5 22 t = s0 30 t := fun t ht => by rw [s5o 22 (by decide) (by decide), c1 22 (by decide), b2 t ht, a1 30 (by decide) (by decide)]
  by_cases z : (Dd + 1) % 360 = 0
  · have eK : yrK Dd P = P := if_pos z
    refine b_t (by rw [s52]; exact (yr_0 hD).mpr z) ⟨P + 1, c_pay2 (s0 := s5) hM.2.2.2.1 (by rw [base 0 (by decide) (by decide) (by decide) (by decide) (by decide) (by decide)]; exact h0) (fun s6 d1 d2 d3 => ?_) P 0 s5 (by omega) (fun _ _ _ => rfl) rfl (fun p => pyW_0.symm)⟩
    rw [base 11 (by decide) (by decide) (by decide) (by decide) (by decide) (by decide), base 7 (by decide) (by decide) (by decide) (by decide) (by decide) (by decide)] at d2
    rw [base 11 (by decide) (by decide) (by decide) (by decide) (by decide) (by decide), base 7 (by decide) (by decide) (by decide) (by decide) (by decide) (by decide)] at d3
    rw [d1 2 (by decide) (by decide), s52]
    refine hQ s6 (s5 3 0) (s5 12) s53 (by rw [s512]; exact a3) (by rw [s512]; exact a4) (fun κ k1 k2 k4 k5 k6 k7 => (d1 κ k2 k5).trans (base κ k1 k2 k4 k5 k6 k7)) (by rw [d1 2 (by decide) (by decide)]; exact s52) (by rw [d1 4 (by decide) (by decide)]; exact s54) (by rw [d1 13 (by decide) (by decide)]; exact s513) (by rw [d1 22 (by decide) (by decide)]; exact s522) (by rw [eK]; exact d2) (by rw [eK]; exact d3)
  · have eK : yrK Dd P = 0 := if_neg z
    refine b_f (by rw [s52]; exact fun w => z ((yr_0 hD).mp w)) ?_
    rw [s52]
    exact hQ s5 (s5 3 0) (s5 12) s53 (by rw [s512]; exact a3) (by rw [s512]; exact a4) base s52 s54 s513 s522 (by rw [eK]; rfl) (fun p => by rw [eK, pyW_0])
