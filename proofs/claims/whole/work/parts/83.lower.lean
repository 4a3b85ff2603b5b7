/-! from any row to the least one -/
theorem c_give {d n dep r p : Nat} {left : Int32} {st : tSt} {post : Int32 → tSt → Prop} (hn : n ≤ 12) (hc : st 27 0 = nI n) (hsub : ∀ k, inB left k → k < n) (hbr : brOK st n) (hr : inB left r) (hdep : dep < 12) (hd : nB (left &&& (((1 : Int32) <<< (nI r &&& 31)) ^^^ -1)) < d) (hdd : dep + 1 + nB (left &&& (((1 : Int32) <<< (nI r &&& 31)) ^^^ -1)) ≤ 12) (hp : p < 6) (hop : opS st p r)
    (hY : ∀ (st' : tSt) (g : Nat → Nat), Fill (opS st) (brS st) (inB left) g → g r = p → (∀ k, inB left k → st' 34 k = nI (g k)) → (∀ k, ¬ inB left k → st' 34 k = st 34 k) → (∀ κ, κ ≠ 34 → st' κ = st κ) → post 1 st')
    (hN : (¬ ∃ g, Fill (opS st) (brS st) (inB left) g ∧ g r = p) → post 0 st) : wp_Cast_canGive_b (wp_Cast_canFill d) (nI r) (nI p) left (nI dep) st post := by
    have hrn := hsub r hr
    have hin6 : vp_in (nI p) 6 := vp_in_nI (by omega) (by decide)
    have hin12 : vp_in (nI r) 12 := vp_in_nI (by omega) (by decide)
    refine b_t (nI_lt (b := 12) hdep (by decide)) ⟨hin6, fun y5 e5 => ⟨hin12, hin6, fun st2 e2 => ?_⟩⟩
    rw [n_cl (show p < 2 ^ 31 by omega)] at e5 e2
    rw [n_cl (show r < 2 ^ 31 by omega)] at e2
    subst e5
    have s2o : ∀ κ, κ ≠ 31 → st2 κ = st κ := fun κ h => by rw [e2]; exact tUp_ne _ _ _ h
    have s2q : ∀ q, st2 31 q = if q = p then st 31 p &&& (st 32 r ^^^ -1) else st 31 q := fun q => by
      rw [e2]
      by_cases z : q = p <;> simp [tUp_ap, z]
    have ebr : ∀ j k, (brS st2 j k ↔ brS st j k) := fun j k => by unfold brS; rw [s2o 32 (by decide)]
    have eop : ∀ q k, k < 32 → (opS st2 q k ↔ (opS st q k ∧ (q = p → ¬ brS st r k))) := by
      intro q k hk
      unfold opS brS
      rw [s2q]
      by_cases z : q = p
      · rw [if_pos z, b_and, bt_not hk, z]
        rw [Bool.and_eq_true, Bool.not_eq_true']
        constructor
        · intro ⟨a, b⟩
          exact ⟨a, fun _ h => by rw [b] at h; cases h⟩
        · intro ⟨a, b⟩
          refine ⟨a, ?_⟩
          cases hc : bt (st 32 r) k with
          | true => exact absurd hc (b rfl)
          | false => rfl
      · rw [if_neg z]
        exact ⟨fun a => ⟨a, fun h => absurd h z⟩, fun a => a.1⟩
    have einb : ∀ k, k < 32 → (inB (left &&& (((1 : Int32) <<< (nI r &&& 31)) ^^^ -1)) k ↔ (inB left k ∧ k ≠ r)) := by
      intro k hk
      unfold inB
      rw [bt_del (by omega) hk]
      rw [Bool.and_eq_true, Bool.not_eq_true', decide_eq_false_iff_not]
    have toF : ∀ g, Fill (opS st2) (brS st2) (inB (left &&& (((1 : Int32) <<< (nI r &&& 31)) ^^^ -1))) g ↔ Fill (fun q k => opS st q k ∧ (q = p → ¬ brS st r k)) (brS st) (fun k => inB left k ∧ k ≠ r) g := by
      intro g
      constructor
      · intro h
        exact Fill_congr (fun k hk => (einb k (inB_32 hk.1)).mpr hk) (fun q k hk ho => (eop q k (inB_32 hk.1)).mp ho) (fun j k _ _ hb => (ebr j k).mpr hb) h
      · intro h
        exact Fill_congr (fun k hk => (einb k (inB_32 hk)).mp hk) (fun q k hk ho => (eop q k (inB_32 hk)).mpr ho) (fun j k _ _ hb => (ebr j k).mp hb) h
    rw [show nI dep + 1 = nI (dep + 1) from nI_1 dep]
    refine c_canFill hn d (dep + 1) _ st2 _ (by rw [s2o 27 (by decide)]; exact hc) (fun k hk => hsub k ((einb k (inB_32 hk)).mp hk).1) ?_ hd hdd (fun st' g hg a1 a2 a3 => ?_) (fun hno => ?_)
    · unfold brOK brS at hbr ⊢
      rw [s2o 32 (by decide)]
      exact hbr
    · refine ⟨hin6, fun st5 e5 => b_f (by decide) ⟨hin12, fun st6 e6 => ⟨Or.inr rfl, ?_⟩⟩⟩
      rw [n_cl (show p < 2 ^ 31 by omega)] at e5
      rw [n_cl (show r < 2 ^ 31 by omega)] at e6
      have hF := Fill_give (by omega) hop (fun j k hj hk hb => hbr.2 j k (hsub j hj) (hsub k hk) hb) hr ((toF g).mp hg)
      have e34 : ∀ k, st6 34 k = if k = r then nI p else st' 34 k := fun k => by
        rw [e6, e5]
        by_cases z : k = r <;> simp [tUp_ap, z]
      refine hY st6 _ hF (by simp) (fun k hk => ?_) (fun k hk => ?_) (fun κ hκ => ?_)
      · rw [e34]
        by_cases z : k = r
        · rw [if_pos z, if_pos z]
        · rw [if_neg z, if_neg z]
          exact a1 k ((einb k (inB_32 hk)).mpr ⟨hk, z⟩)
      · have z : k ≠ r := fun z => hk (by rw [z]; exact hr)
        rw [e34, if_neg z, a2 k (fun q => hk ((einb k (inB_32 q)).mp q).1), s2o 34 (by decide)]
      · rw [e6, e5, tUp_ne _ _ _ hκ]
        by_cases z : κ = 31
        · subst z
          funext q
          rw [tUp_self]
          unfold upd
          by_cases w : q = p
          · rw [if_pos w, w]
          · rw [if_neg w, a3 31 (by decide), s2q, if_neg w]
        · rw [tUp_ne _ _ _ z, a3 κ hκ, s2o κ z]
    · refine ⟨hin6, fun st5 e5 => b_t rfl ⟨Or.inl rfl, ?_⟩⟩
      rw [n_cl (show p < 2 ^ 31 by omega)] at e5
      have es : st5 = st := by
        funext κ q
        rw [e5]
        by_cases z : κ = 31
        · subst z
          rw [tUp_self]
          unfold upd
          by_cases w : q = p
          · rw [if_pos w, w]
          · rw [if_neg w, s2q, if_neg w]
        · rw [tUp_ne _ _ _ z, s2o κ z]
      subst es
      exact hN (fun ⟨g, hg, hgr⟩ => hno ⟨g, (toF g).mpr (Fill_take hr hg hgr)⟩)
theorem CI_cl {D : Dt} {st : tSt} {ps : List (Nat × Nat)} {j k : Nat} (hD : dt st = D) (h : CIl D st ps) (hj : j < ps.length) (hk : k < ps.length) : vCl D ps j k ↔ brS st j k := by
  obtain ⟨a1, a2, a3, a4, a5⟩ := h
  subst hD
  rw [a5 j k hj hk]
  unfold vCl fBr
  have e1 : dF (dt st) (pAt ps j).1 = st (14 + (pAt ps j).1) := fc_at (a3 j hj).1
  have e2 : dF (dt st) (pAt ps k).1 = st (14 + (pAt ps k).1) := fc_at (a3 k hk).1
  rw [e1, e2]
theorem CI_ok {D : Dt} {st : tSt} {ps : List (Nat × Nat)} {k p : Nat} (hD : dt st = D) (h : CIl D st ps) (hk : k < ps.length) (hp : p < 6) : vOk D ps k p ↔ opS st p k := by
  have := h.2.2.2.1 p hp k
  subst hD
  unfold opS
  unfold inB fOp pOK at this
  unfold vOk
  rw [this]
  exact ⟨fun v => ⟨hk, v⟩, fun v => v.2⟩
theorem vCl_sym {D : Dt} {ps : List (Nat × Nat)} {i j : Nat} (h : vCl D ps i j) : vCl D ps j i := by
  unfold vCl at h ⊢
  rw [clB_comm]
  exact h
def LI (D : Dt) (st0 : tSt) (ps : List (Nat × Nat)) (k : Nat) (st : tSt) (g : Nat → Nat) : Prop :=
  (∀ κ, κ ≠ 31 → κ ≠ 34 → st κ = st0 κ) ∧ Vd ps.length 6 (vOk D ps) (vCl D ps) g ∧ (∀ j, j < ps.length → st 34 j = nI (g j)) ∧ (∀ g', Vd ps.length 6 (vOk D ps) (vCl D ps) g' → ∀ i, i < k → (∀ j, j < i → g' j = g j) → g i ≤ g' i) ∧ ∀ p, p < 6 → ∀ j, k ≤ j → j < ps.length → (opS st p j ↔ (vOk D ps j p ∧ ∀ i, i < k → g i = p → ¬ vCl D ps i j))
/-- a row that agrees with g before k fills what is tied to k -/
theorem LI_in {D : Dt} {st0 st : tSt} {ps : List (Nat × Nat)} {k : Nat} {g g' : Nat → Nat} {t : Int32} (hD : dt st0 = D) (hCI : CIl D st0 ps) (h : LI D st0 ps k st g) (ht : ∀ j, inB t j → k ≤ j ∧ j < ps.length) (hg' : Vd ps.length 6 (vOk D ps) (vCl D ps) g') (ha : ∀ j, j < k → g' j = g j) : Fill (opS st) (brS st) (inB t) g' := by
  obtain ⟨b1, b2, b3, b4, b5⟩ := h
  have ebr : ∀ i j, brS st i j ↔ brS st0 i j := fun i j => by unfold brS; rw [b1 32 (by decide) (by decide)]
  refine ⟨fun j hj => ?_, fun i j hi hj hij hb => ?_⟩
  · have hj' := ht j hj
    have v := hg'.1 j hj'.2
    refine ⟨v.1, (b5 _ v.1 j hj'.1 hj'.2).mpr ⟨v.2, fun i hi e hc => ?_⟩⟩
    exact hg'.2 i j (by omega) hj'.2 hc (by rw [ha i hi]; exact e)
  · have hi' := ht i hi
    have hj' := ht j hj
    have hc := (CI_cl hD hCI hi'.2 hj'.2).mpr ((ebr i j).mp hb)
    by_cases z : i < j
    · exact hg'.2 i j z hj'.2 hc
    · exact fun e => hg'.2 j i (by omega) hi'.2 (vCl_sym hc) e.symm
/-- what fills the tied parts, beside the row as it is, is a row -/
theorem LI_out {D : Dt} {st0 st : tSt} {ps : List (Nat × Nat)} {k : Nat} {g h : Nat → Nat} {t : Int32} (hD : dt st0 = D) (hCI : CIl D st0 ps) (hI : LI D st0 ps k st g) (ht : ∀ j, inB t j → k ≤ j ∧ j < ps.length) (hcl : ∀ i j, inB t i → brS st i j → k ≤ j → j < ps.length → inB t j) (hF : Fill (opS st) (brS st) (inB t) h) : Vd ps.length 6 (vOk D ps) (vCl D ps) (fun j => if bt t j = true then h j else g j) := by
  obtain ⟨b1, b2, b3, b4, b5⟩ := hI
  have ebr : ∀ i j, brS st i j ↔ brS st0 i j := fun i j => by unfold brS; rw [b1 32 (by decide) (by decide)]
  refine ⟨fun j hj => ?_, fun i j hij hj hc => ?_⟩
  · by_cases z : bt t j = true
    · simp only [if_pos z]
      have v := hF.1 j z
      exact ⟨v.1, ((b5 _ v.1 j (ht j z).1 hj).mp v.2).1⟩
    · simp only [if_neg z]
      exact b2.1 j hj
  · have hb : brS st i j := (ebr i j).mpr ((CI_cl hD hCI (by omega) hj).mp hc)
    have hb' : brS st j i := (ebr j i).mpr ((CI_cl hD hCI hj (by omega)).mp (vCl_sym hc))
    by_cases zi : bt t i = true
    · have zj : bt t j = true := hcl i j zi hb (by have := (ht i zi).1; omega) hj
      simp only [if_pos zi, if_pos zj]
      exact hF.2 i j zi zj (by omega) hb
    · by_cases zj : bt t j = true
      · simp only [if_neg zi, if_pos zj]
        have hik : i < k := Nat.lt_of_not_le (fun q => zi (hcl j i zj hb' q (by omega)))
        have v := hF.1 j zj
        exact fun e => ((b5 _ v.1 j (ht j zj).1 hj).mp v.2).2 i hik e hc
      · simp only [if_neg zi, if_neg zj]
        exact b2.2 i j hij hj hc
theorem nB_ge {x : Int32} {k : Nat} (h : ∀ j, inB x j → k ≤ j) (hk : k ≤ 12) : nB x + k ≤ 12 := by
  have : ∀ m, cntb (fun j => bt x j) (k + m) ≤ m := by
    intro m
    induction m with
    | zero =>
      have : ∀ q, q ≤ k → cntb (fun j => bt x j) q = 0 := by
        intro q
        induction q with
        | zero => intro _; rfl
        | succ q ih =>
          intro hq
          unfold cntb
          rw [if_neg (fun z => by have := h q z; omega), ih (by omega)]
      rw [Nat.add_zero, this k (Nat.le_refl k)]
      exact Nat.le_refl 0
    | succ m ih =>
      show cntb (fun j => bt x j) (k + m + 1) ≤ m + 1
      unfold cntb
      by_cases z : bt x (k + m) = true
      · rw [if_pos z]; omega
      · rw [if_neg z]; omega
  have h2 := this (12 - k)
  rw [show k + (12 - k) = 12 by omega] at h2
  unfold nB
  omega
theorem c_low {D : Dt} {st0 : tSt} {ps : List (Nat × Nat)} {post : tSt → Prop} (hD : dt st0 = D) (hCI : CIl D st0 ps) (hQ : ∀ (st' : tSt) (g : Nat → Nat), (∀ κ, κ ≠ 31 → κ ≠ 34 → st' κ = st0 κ) → Lst ps.length 6 (vOk D ps) (vCl D ps) g → (∀ j, j < ps.length → st' 34 j = nI (g j)) → post st') : ∀ (m k : Nat) (left : Int32) (st : tSt) (g : Nat → Nat), k + m = ps.length → (∀ j, inB left j ↔ (k ≤ j ∧ j < ps.length)) → LI D st0 ps k st g → wp_Cast_lowerAll_7 post (m + 1) left (nI k) st
  | 0, k, left, st, g, hk, hl, hI => by
    have n12 := hCI.1
    have e27 : st 27 0 = nI ps.length := by rw [hI.1 27 (by decide) (by decide)]; exact hCI.2.1
    have e : k = ps.length := by omega
    subst e
    refine b_t (by rw [e27]; exact Int32.le_refl _) (hQ st g hI.1 ⟨hI.2.1, hI.2.2.2.1⟩ hI.2.2.1)
  | m + 1, k, left, st, g, hk, hl, hI => by
    have n12 := hCI.1
    have e27 : st 27 0 = nI ps.length := by rw [hI.1 27 (by decide) (by decide)]; exact hCI.2.1
    have hbr : brOK st ps.length := by
      have := CI_brOK hCI
      unfold brOK brS at this ⊢
      rw [hI.1 32 (by decide) (by decide)]
      exact this
    have hin12 : vp_in (nI k) 12 := vp_in_nI (by omega) (by decide)
    refine b_f (by rw [e27]; exact nI_ge (by omega) (by omega)) (c_tiedTo n12 e27 (fun j hj => ((hl j).mp hj).2) (by omega) (fun t t1 t2 t3 => ⟨hin12, fun y4 e4 => ?_⟩))
    rw [n_cl (show k < 2 ^ 31 by omega), hI.2.2.1 k (by omega)] at e4
    subst e4
    have ht : ∀ j, inB t j → k ≤ j ∧ j < ps.length := fun j hj => (t2 j hj).elim (fun v => (hl j).mp v) (fun v => by omega)
    have hcl : ∀ i j, inB t i → brS st i j → k ≤ j → j < ps.length → inB t j := fun i j hi hb h1 h2 => t3 i j hi hb ((hl j).mpr ⟨h1, h2⟩)
    have gk6 : g k < 6 := (hI.2.1.1 k (by omega)).1
    -- on with the next part
    have next : ∀ (s1 : tSt) (G : Nat → Nat), (∀ κ, κ ≠ 34 → s1 κ = st κ) → Vd ps.length 6 (vOk D ps) (vCl D ps) G → (∀ j, j < k → G j = g j) → (∀ j, j < ps.length → s1 34 j = nI (G j)) → (∀ q, q < G k → ¬ ∃ h, Fill (opS st) (brS st) (inB t) h ∧ h k = q) → wp_Cast_lowerAll_91 post (wp_Cast_lowerAll_7 post (m + 1)) left (nI k) s1 := by
      intro s1 G so hG hag h34 hno
      have gk : s1 34 k = nI (G k) := h34 k (by omega)
      have Gk6 : G k < 6 := (hG.1 k (by omega)).1
      have ek := n_cl (show k < 2 ^ 31 by omega)
      have eG := n_cl (show G k < 2 ^ 31 by omega)
      have hin6 : vp_in (nI (G k)) 6 := vp_in_nI (by omega) (by decide)
      unfold wp_Cast_lowerAll_91
      rw [ek, gk]
      refine ⟨hin12, hin12, c_w1 (c_in5 Gk6).1 (c_in5 Gk6).2 (b_f (by decide) ⟨hin6, hin6, fun s2 e2 y1 e1 y2 e3 => ?_⟩)⟩
      rw [eG] at e2
      rw [nI_1] at e3
      subst e3
      have s2o : ∀ κ, κ ≠ 31 → s2 κ = s1 κ := fun κ hκ => by rw [e2]; exact tUp_ne _ _ _ hκ
      have s2q : ∀ q, s2 31 q = if q = G k then st 31 (G k) &&& (st 32 k ^^^ -1) else st 31 q := fun q => by
        rw [e2, so 32 (by decide), so 31 (by decide)]
        by_cases z : q = G k
        · simp [tUp_ap, z]
        · simp [tUp_ap, z, so 31 (by decide)]
      refine c_low hD hCI hQ m (k + 1) y1 s2 G (by omega) (fun j => ?_) ⟨fun κ k1 k2 => by rw [s2o κ k1, so κ k2]; exact hI.1 κ k1 k2, hG, fun j hj => by rw [s2o 34 (by decide)]; exact h34 j hj, fun g' hg' i hi ha => ?_, fun p hp j hj hjn => ?_⟩
      · rw [e1]
        by_cases h32 : j < 32
        · unfold inB
          rw [bt_del (by omega) h32, Bool.and_eq_true, Bool.not_eq_true', decide_eq_false_iff_not]
          have := hl j
          unfold inB at this
          rw [this]
          omega
        · exact ⟨fun v => absurd (inB_32 v) h32, fun v => by omega⟩
      · by_cases z : i < k
        · have := hI.2.2.2.1 g' hg' i z (fun j hj => by rw [ha j hj]; exact hag j (by omega))
          rw [hag i z]
          exact this
        · have e : i = k := by omega
          subst e
          refine Nat.not_lt.mp (fun q => hno (g' i) q ⟨g', LI_in hD hCI hI ht hg' (fun j hj => by rw [ha j hj]; exact hag j hj), rfl⟩)
      · have b5 := hI.2.2.2.2 p hp j (by omega) hjn
        have base : opS s2 p j ↔ (opS st p j ∧ (p = G k → ¬ brS st k j)) := by
          unfold opS brS
          rw [s2q]
          by_cases z : p = G k
          · rw [if_pos z, b_and, bt_not (by omega), z, Bool.and_eq_true, Bool.not_eq_true']
            constructor
            · intro ⟨a, b⟩
              exact ⟨a, fun _ h => by rw [b] at h; cases h⟩
            · intro ⟨a, b⟩
              refine ⟨a, ?_⟩
              cases hc : bt (st 32 k) j with
              | true => exact absurd hc (b rfl)
              | false => rfl
          · rw [if_neg z]
            exact ⟨fun a => ⟨a, fun h => absurd h z⟩, fun a => a.1⟩
        rw [base, b5]
        have ecl : vCl D ps k j ↔ brS st k j := by
          rw [CI_cl hD hCI (by omega) hjn]
          unfold brS
          rw [hI.1 32 (by decide) (by decide)]
        constructor
        · rintro ⟨⟨v1, v2⟩, v3⟩
          refine ⟨v1, fun i hi e hc => ?_⟩
          by_cases z : i < k
          · exact v2 i z (by rw [← hag i z]; exact e) hc
          · have ei : i = k := by omega
            subst ei
            exact v3 e.symm (ecl.mp hc)
        · rintro ⟨v1, v2⟩
          exact ⟨⟨v1, fun i hi e hc => v2 i (by omega) (by rw [hag i hi]; exact e) hc⟩, fun e hb => v2 k (by omega) e.symm (ecl.mpr hb)⟩
    have stay : (∀ q, q < g k → ¬ ∃ h, Fill (opS st) (brS st) (inB t) h ∧ h k = q) → wp_Cast_lowerAll_91 post (wp_Cast_lowerAll_7 post (m + 1)) left (nI k) st := fun hno => next st g (fun _ _ => rfl) hI.2.1 (fun _ _ => rfl) hI.2.2.1 hno
    have hdel : ∀ j, inB (t &&& (((1 : Int32) <<< (nI k &&& 31)) ^^^ -1)) j → k + 1 ≤ j := fun j hj => by
      have h32 := inB_32 hj
      unfold inB at hj
      rw [bt_del (by omega) h32, Bool.and_eq_true, Bool.not_eq_true', decide_eq_false_iff_not] at hj
      have := (ht j hj.1).1
      have := hj.2
      omega
    have hnB := nB_ge hdel (by omega)
    -- the pipers before the known one
    have loop : ∀ m2 p : Nat, p + m2 = g k → (∀ q, q < p → ¬ ∃ h, Fill (opS st) (brS st) (inB t) h ∧ h k = q) → wp_Cast_lowerAll_36 post (wp_Cast_lowerAll_91 post (wp_Cast_lowerAll_7 post (m + 1))) (m2 + 2) left (nI k) t (nI (g k)) 0 (nI p) st := by
      intro m2
      induction m2 with
      | zero =>
        intro p hp hno
        have e : p = g k := by omega
        subst e
        exact b_f (nI_ge (a := g k) (b := 6) (by omega) (by decide)) (b_t (Int32.le_refl _) (stay hno))
      | succ m2 ih =>
        intro p hp hno
        have on : (¬ ∃ h, Fill (opS st) (brS st) (inB t) h ∧ h k = p) → ∀ y : Int32, y = nI p + 1 → wp_Cast_lowerAll_36 post (wp_Cast_lowerAll_91 post (wp_Cast_lowerAll_7 post (m + 1))) (m2 + 2) left (nI k) t (nI (g k)) 0 y st := by
          intro hn y e
          rw [nI_1] at e
          subst e
          refine ih (p + 1) (by omega) (fun q hq => ?_)
          by_cases z : q = p
          · rw [z]; exact hn
          · exact hno q (by omega)
        refine b_f (nI_ge (a := p) (b := 6) (by omega) (by decide)) (b_f (nI_ge (by omega) (by omega)) (b_t rfl ⟨p + 1, c_worthL (by omega) (by omega) (fun _ hop => ?_) (fun hnot => ?_) p 0 (by omega) (fun q h => absurd h (by omega))⟩))
        · refine b_f (by decide) ?_
          refine c_give (dep := k) n12 e27 (fun j hj => (ht j hj).2) hbr t1 (by omega) (by omega) (by omega) (by omega) hop (fun s1 h hF hk1 c1 c2 c3 => ?_) (fun hn => b_t rfl (on hn))
          refine b_f (by decide) (fun y e => ?_)
          have fin : wp_Cast_lowerAll_91 post (wp_Cast_lowerAll_7 post (m + 1)) left (nI k) s1 := by
            refine next s1 (fun j => if bt t j = true then h j else g j) c3 (LI_out hD hCI hI ht hcl hF) (fun j hj => if_neg (fun z => by have := (ht j z).1; omega)) (fun j hj => ?_) (fun q hq => hno q ?_)
            · by_cases z : bt t j = true
              · simp only [if_pos z]; exact c1 j z
              · simp only [if_neg z]
                rw [c2 j z]
                exact hI.2.2.1 j hj
            · have z : bt t k = true := t1
              simp only [if_pos z] at hq
              omega
          by_cases z6 : (6 : Int32) ≤ y
          · exact b_t z6 fin
          · refine b_f z6 ?_
            by_cases z : nI (g k) ≤ y
            · exact b_t z fin
            · exact b_f z (b_f (by decide) fin)
        · refine b_t rfl (on (fun ⟨h, hF, hk1⟩ => ?_))
          rcases hnot with ⟨q, q1, q2⟩ | q
          · refine hno q q1 (Fill_swap (by omega) (by omega) (fun j hj => ?_) t1 hF hk1)
            have := congrArg (fun z => bt z j) q2
            simp only [b_and] at this
            have hj' : bt t j = true := hj
            rw [hj', Bool.and_true, Bool.and_true] at this
            unfold opS
            rw [this]
          · have := (hF.1 k t1).2
            rw [hk1] at this
            exact q this
    exact ⟨g k + 2, loop (g k) 0 (by omega) (fun q h => absurd h (by omega))⟩
theorem c_lowerAll {D : Dt} {st : tSt} {ps : List (Nat × Nat)} {g0 : Nat → Nat} {post : tSt → Prop} (hD : dt st = D) (hCI : CIl D st ps) (hg : Vd ps.length 6 (vOk D ps) (vCl D ps) g0) (h34 : ∀ k, k < ps.length → st 34 k = nI (g0 k)) (hQ : ∀ (st' : tSt) (g : Nat → Nat), (∀ κ, κ ≠ 31 → κ ≠ 34 → st' κ = st κ) → Lst ps.length 6 (vOk D ps) (vCl D ps) g → (∀ j, j < ps.length → st' 34 j = nI (g j)) → post st') : wp_Cast_lowerAll st post := by
  show ∃ q7, wp_Cast_lowerAll_7 post q7 (((1 : Int32) <<< ((st 27 0) &&& 31)) - 1) 0 st
  have e27 : st 27 0 = nI ps.length := hCI.2.1
  rw [e27]
  refine ⟨ps.length + 1, c_low hD hCI hQ ps.length 0 _ st g0 (by omega) (fun j => ?_) ⟨fun _ _ _ => rfl, hg, h34, fun _ _ i hi => absurd hi (by omega), fun p hp j _ hj => ?_⟩⟩
  · rw [inB_all hCI.1]
    exact ⟨fun v => ⟨by omega, v⟩, fun v => v.2⟩
  · rw [← CI_ok hD hCI hj hp]
    exact ⟨fun v => ⟨v, fun i hi => absurd hi (by omega)⟩, fun v => v.1⟩
