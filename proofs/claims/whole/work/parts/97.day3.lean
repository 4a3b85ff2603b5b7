/-! a day: the reference -/
theorem m_fines2 {st0 : tSt} {P : Nat} {post : tSt → Prop} (hP : P ≤ 6) (h0 : st0 2 0 = nI P) (hQ : ∀ st : tSt, (∀ κ, κ ≠ 4 → κ ≠ 15 → st κ = st0 κ) → st 4 0 = st0 4 0 + zN (fun p => if st0 14 p = 0 then st0 10 3 else 0) P → (∀ p, p < P → st 15 p = st0 15 p + (if st0 14 p = 0 then -(st0 10 3) else 0)) → (∀ p, P ≤ p → st 15 p = st0 15 p) → post st) : ∀ (m k : Nat) (st : tSt), k + m = P → (∀ κ, κ ≠ 4 → κ ≠ 15 → st κ = st0 κ) → st 4 0 = st0 4 0 + zN (fun p => if st0 14 p = 0 then st0 10 3 else 0) k → (∀ p, p < k → st 15 p = st0 15 p + (if st0 14 p = 0 then -(st0 10 3) else 0)) → (∀ p, k ≤ p → st 15 p = st0 15 p) → wp_M_fines_2 post (m + 1) (nI k) st
  | 0, k, st, hk, a1, a2, a3, a4 => by
    have e : k = P := by omega
    subst e
    exact b_t (by rw [a1 2 (by decide) (by decide), h0]; exact Int32.le_refl _) (hQ st a1 a2 a3 a4)
  | m + 1, k, st, hk, a1, a2, a3, a4 => by
    have ih := m_fines2 hP h0 hQ m (k + 1)
    have hin : vp_in (nI k) 6 := vp_in_nI (by omega) (by decide)
    refine b_f (by rw [a1 2 (by decide) (by decide), h0]; exact nI_ge (by omega) (by omega)) ⟨hin, ?_⟩
    rw [n_cl (show k < 2 ^ 31 by omega), a1 14 (by decide) (by decide), a4 k (Nat.le_refl k), a1 10 (by decide) (by decide)]
    by_cases z : st0 14 k = 0
    · refine b_t z ⟨hin, hin, fun s1 e1 s2 e2 y e => ?_⟩
      rw [nI_1] at e
      subst e
      have s14 : s1 4 0 = st 4 0 := by rw [e1, tUp_ne _ _ _ (by decide)]
      have s110 : s1 10 3 = st0 10 3 := by rw [e1, tUp_ne _ _ _ (by decide), a1 10 (by decide) (by decide)]
      rw [s14, a2, s110] at e2
      have s2o : s2 15 = upd (st 15) k (st0 15 k - st0 10 3) := by rw [e2, tUp_ne _ _ _ (by decide), e1, tUp_self]
      refine ih s2 (by omega) (fun κ k1 k2 => by rw [e2, tUp_ne _ _ _ k1, e1, tUp_ne _ _ _ k2]; exact a1 κ k1 k2) ?_ (fun p hp => ?_) (fun p hp => ?_)
      · rw [e2, tUp_self, upd_ap, if_pos rfl]
        show _ = st0 4 0 + (zN (fun p => if st0 14 p = 0 then st0 10 3 else 0) k + (if st0 14 k = 0 then st0 10 3 else 0))
        rw [if_pos z, Int32.add_assoc]
      · rw [s2o, upd_ap]
        by_cases w : p = k
        · rw [if_pos w, w, if_pos z, Int32.sub_eq_add_neg]
        · rw [if_neg w]; exact a3 p (by omega)
      · rw [s2o, upd_ap, if_neg (by omega)]; exact a4 p (by omega)
    · refine b_f z (fun y e => ?_)
      rw [nI_1] at e
      subst e
      refine ih st (by omega) a1 ?_ (fun p hp => ?_) (fun p hp => a4 p (by omega))
      · rw [a2]
        show _ = st0 4 0 + (zN (fun p => if st0 14 p = 0 then st0 10 3 else 0) k + (if st0 14 k = 0 then st0 10 3 else 0))
        rw [if_neg z, Int32.add_zero]
      · by_cases w : p = k
        · rw [w, if_neg z, Int32.add_zero]; exact a4 k (Nat.le_refl k)
        · exact a3 p (by omega)
theorem m_fines {st0 : tSt} {P : Nat} {post : tSt → Prop} (hP : P ≤ 6) (h0 : st0 2 0 = nI P) (hQ : ∀ st : tSt, (∀ κ, κ ≠ 4 → κ ≠ 15 → st κ = st0 κ) → st 4 0 = st0 4 0 + zN (fun p => if st0 14 p = 0 then st0 10 3 else 0) P → (∀ p, p < P → st 15 p = st0 15 p + (if st0 14 p = 0 then -(st0 10 3) else 0)) → (∀ p, P ≤ p → st 15 p = st0 15 p) → post st) : wp_M_fines st0 post :=
  ⟨P + 1, m_fines2 hP h0 hQ P 0 st0 (by omega) (fun _ _ _ => rfl) (by show _ = st0 4 0 + 0; rw [Int32.add_zero]) (fun p hp => absurd hp (by omega)) (fun _ _ => rfl)⟩
def shM (D : Dt) (t : tSt) (res : List Nat) (g : Nat → Nat) (c p : Nat) : Int32 := shV (t 17 (8 * c + 7)) (t 10 1) (t 12) (wl g c (pts (dF D) res) 0 0) (wl g c (pts (dF D) res) 1 0) p
def fuM (t : tSt) (c : Nat) : Int32 := t 17 (8 * c + 7) * t 10 1 / 100
def twM (t : tSt) (c : Nat) : Bool := decide (t 17 (8 * c + 0) = 0)
theorem m_d60 {D : Dt} {st0 : tSt} {P : Nat} {res : List Nat} {g : Nat → Nat} {c : Nat} {x1 : Int32} {post : Int32 → tSt → Prop} {k89 : Int32 → Int32 → tSt → Prop} (hM : MD D st0 P) (hp : MWk D st0 res g) (hr : rkOK (st0 12) P) (hc6 : c < 6) (hc : c ∈ res) (hK : ∀ st : tSt, (∀ κ, κ ≠ 15 → st κ = st0 κ) → (∀ p, p < P → st 15 p = st0 15 p + shM D st0 res g c p) → (∀ p, P ≤ p → st 15 p = st0 15 p) → k89 x1 (nI c) st) : ∀ (m k : Nat) (st : tSt), k + m = P → (∀ κ, κ ≠ 15 → st κ = st0 κ) → (∀ p, p < k → st 15 p = st0 15 p + shM D st0 res g c p) → (∀ p, k ≤ p → st 15 p = st0 15 p) → wp_M_day_60 post k89 (m + 1) x1 (nI c) (nI k) st
  | 0, k, st, hk, a1, a2, a3 => by
    have e : k = P := by omega
    subst e
    exact b_t (by rw [a1 2 (by decide), hM.2.2.2.2.1]; exact Int32.le_refl _) (hK st a1 a2 a3)
  | m + 1, k, st, hk, a1, a2, a3 => by
    have hP6 := hM.2.2.2.1
    have hM' : MD D st P := MD_of hM (a1 17 (by decide)) (a1 10 (by decide)) (a1 16 (by decide)) (a1 2 (by decide)) (a1 13 (by decide)) (a1 14 (by decide))
    have hp' : MWk D st res g := MWk_same hp (a1 6 (by decide)) (a1 7 (by decide)) (a1 8 (by decide)) (a1 22 (by decide)) (a1 23 (by decide)) (a1 24 (by decide)) (a1 25 (by decide))
    have hin : vp_in (nI k) 6 := vp_in_nI (by omega) (by decide)
    refine b_f (by rw [a1 2 (by decide), hM.2.2.2.2.1]; exact nI_ge (by omega) (by omega)) ⟨hin, m_share hM' hp' (by rw [a1 12 (by decide)]; exact hr) hc6 hc (by omega) ⟨hin, fun s3 e3 y e => ?_⟩⟩
    rw [a1 17 (by decide), a1 10 (by decide), a1 12 (by decide), n_cl (show k < 2 ^ 31 by omega), a3 k (Nat.le_refl k)] at e3
    rw [nI_1] at e
    subst e
    refine m_d60 hM hp hr hc6 hc hK m (k + 1) s3 (by omega) (fun κ hκ => by rw [e3, tUp_ne _ _ _ hκ]; exact a1 κ hκ) (fun p hp => ?_) (fun p hp => ?_)
    · rw [e3, tUp_self, upd_ap]
      by_cases z : p = k
      · rw [if_pos z, z]; rfl
      · rw [if_neg z]; exact a2 p (by omega)
    · rw [e3, tUp_self, upd_ap, if_neg (by omega)]
      exact a3 p (by omega)
def vSame (t t' : tSt) : Prop := ∀ κ, κ ≠ 4 → κ ≠ 5 → κ ≠ 15 → κ ≠ 20 → κ ≠ 21 → t' κ = t κ
def mT (s : tSt) (T Dd : Nat) (res : List Nat) (v0 : Nat → Int32) (pre : List Nat) (st : tSt) : Prop := ∃ N : Nat, st 5 0 = nI N ∧ OI T (6 * Dd + (accOf res pre).length) N (tfin (fitS s) (6 * Dd) (accOf res pre) 0 v0) (st 21) (st 20)
theorem m_day18 {D : Dt} {s t1 : tSt} {P T Dd : Nat} {res : List Nat} {g : Nat → Nat} {v0 : Nat → Int32} {post : Int32 → tSt → Prop} {k164 : tSt → Prop} (hM : MD D t1 P) (hm : MWk D t1 res g) (h6 : res.length ≤ 6) (hr : rkOK (t1 12) P) (hC : TC D s t1 T Dd res) (h27 : ∀ c, c ∈ row D → t1 27 c = if c ∈ res then oI (tch (fitS s) (6 * Dd) res 0 v0 c) else -1)
    (hK : ∀ st : tSt, vSame t1 st → st 4 0 = t1 4 0 + zL (dfu res (fuM t1) (twM t1) (t1 14) (t1 10 3) P) (row D) → (∀ p, p < P → st 15 p = t1 15 p + zL (dwg res (shM D t1 res g) (twM t1) (t1 14) (t1 10 3) p) (row D)) → (∀ p, P ≤ p → st 15 p = t1 15 p) → mT s T Dd res v0 (row D) st → k164 st) :
    ∀ (rem pre : List Nat) (st : tSt), row D = pre ++ rem → vSame t1 st → st 4 0 = t1 4 0 + zL (dfu res (fuM t1) (twM t1) (t1 14) (t1 10 3) P) pre → (∀ p, p < P → st 15 p = t1 15 p + zL (dwg res (shM D t1 res g) (twM t1) (t1 14) (t1 10 3) p) pre) → (∀ p, P ≤ p → st 15 p = t1 15 p) → mT s T Dd res v0 pre st → wp_M_day_18 post k164 (rem.length + 1) (nI pre.length) st
  | [], pre, st, hr', a1, a2, a3, a4, a5 => by
    have e : row D = pre := by rw [hr', List.append_nil]
    refine b_t (by rw [a1 6 (by decide) (by decide) (by decide) (by decide) (by decide), hm.2.1, e]; exact Int32.le_refl _) ?_
    rw [e] at hK
    exact hK st a1 a2 a3 a4 a5
  | c :: rem, pre, st, hr', a1, a2, a3, a4, a5 => by
    obtain ⟨c1, c2, c3, c4, c5, c6, c7⟩ := id hC
    have q := fun κ (z : κ ≠ 4 ∧ κ ≠ 5 ∧ κ ≠ 15 ∧ κ ≠ 20 ∧ κ ≠ 21) => a1 κ z.1 z.2.1 z.2.2.1 z.2.2.2.1 z.2.2.2.2
    have hl : pre.length + (rem.length + 1) = (row D).length := by rw [hr', List.length_append, List.length_cons]
    have hl6 := row_len D
    have hcR : c ∈ row D := by rw [hr']; simp
    have hc := (row_mem hcR).1
    have hn := row_nodup D
    rw [hr'] at hn
    have hcp : ¬ c ∈ pre := fun z => (List.pairwise_append.mp hn).2.2 c z c List.mem_cons_self rfl
    have ec := n_cl (show c < 2 ^ 31 by omega)
    have hinc : vp_in (nI c) 6 := vp_in_nI hc (by decide)
    have hr2 : row D = (pre ++ [c]) ++ rem := by rw [hr']; simp
    have e22 : st 22 pre.length = nI c := by rw [q 22 (by decide), hm.2.2.1 pre.length (by omega), hr', lAt_end]
    have hM' : MD D st P := MD_of hM (q 17 (by decide)) (q 10 (by decide)) (q 16 (by decide)) (q 2 (by decide)) (q 13 (by decide)) (q 14 (by decide))
    have hm' : MWk D st res g := MWk_same hm (q 6 (by decide)) (q 7 (by decide)) (q 8 (by decide)) (q 22 (by decide)) (q 23 (by decide)) (q 24 (by decide)) (q 25 (by decide))
    -- after fund and wages
    have nxt : ∀ (s1 : tSt) (f : Int32) (w : Nat → Int32), (∀ κ, κ ≠ 4 → κ ≠ 15 → s1 κ = st κ) → s1 4 0 = st 4 0 + f → (∀ p, p < P → s1 15 p = st 15 p + w p) → (∀ p, P ≤ p → s1 15 p = st 15 p) → f = dfu res (fuM t1) (twM t1) (t1 14) (t1 10 3) P c → (∀ p, p < P → w p = dwg res (shM D t1 res g) (twM t1) (t1 14) (t1 10 3) p c) → wp_M_day_105 post (wp_M_day_18 post k164 (rem.length + 1)) k164 (nI pre.length) (nI c) s1 := by
      intro s1 f w b1 b2 b3 b4 b5 b6
      have w4 : s1 4 0 = t1 4 0 + zL (dfu res (fuM t1) (twM t1) (t1 14) (t1 10 3) P) (pre ++ [c]) := by rw [b2, a2, b5, zL_snoc, Int32.add_assoc]
      have w15 : ∀ p, p < P → s1 15 p = t1 15 p + zL (dwg res (shM D t1 res g) (twM t1) (t1 14) (t1 10 3) p) (pre ++ [c]) := fun p hp => by rw [b3 p hp, a3 p hp, b6 p hp, zL_snoc, Int32.add_assoc]
      have w15' : ∀ p, P ≤ p → s1 15 p = t1 15 p := fun p hp => (b4 p hp).trans (a4 p hp)
      have s1v : vSame t1 s1 := fun κ k1 k2 k3 k4 k5 => (b1 κ k1 k3).trans (a1 κ k1 k2 k3 k4 k5)
      have step : ∀ s2 : tSt, (∀ κ, κ ≠ 5 → κ ≠ 20 → κ ≠ 21 → s2 κ = s1 κ) → mT s T Dd res v0 (pre ++ [c]) s2 → wp_M_day_158 post (wp_M_day_18 post k164 (rem.length + 1)) k164 (nI pre.length) s2 := by
        intro s2 d1 d2 y e
        rw [nI_1] at e
        subst e
        have := m_day18 (post := post) hM hm h6 hr hC h27 hK rem (pre ++ [c]) s2 hr2 (fun κ k1 k2 k3 k4 k5 => (d1 κ k2 k4 k5).trans (s1v κ k1 k2 k3 k4 k5)) (by rw [d1 4 (by decide) (by decide) (by decide)]; exact w4) (by rw [d1 15 (by decide) (by decide) (by decide)]; exact w15) (by rw [d1 15 (by decide) (by decide) (by decide)]; exact w15') d2
        rw [List.length_append] at this
        exact this
      obtain ⟨N, n1, n2⟩ := a5
      rw [← b1 5 (by decide) (by decide)] at n1
      rw [← b1 21 (by decide) (by decide), ← b1 20 (by decide) (by decide)] at n2
      refine ⟨hinc, ?_⟩
      rw [ec, s1v 27 (by decide) (by decide) (by decide) (by decide) (by decide), h27 c hcR]
      by_cases z : c ∈ res
      · rw [if_pos z]
        have spl := acc_split (by rw [← hr']; exact c7) z
        have ech : tch (fitS s) (6 * Dd) res 0 v0 c = pick (fitS s c) (tfin (fitS s) (6 * Dd) (accOf res pre) 0 v0) 10 := by
          have := tch_at (fit := fitS s) (D6 := 6 * Dd) (c := c) (r := accOf res rem) (accOf res pre) 0 v0 (acc_nin hcp)
          rw [← spl] at this
          exact this
        have al : (accOf res pre).length < 6 := by
          have := congrArg List.length spl
          rw [List.length_append, List.length_cons] at this
          omega
        have fin := tfin_snoc (fit := fitS s) (D6 := 6 * Dd) (c := c) (accOf res pre) 0 v0
        rw [← acc_in z, Nat.zero_add] at fin
        have ln : (accOf res (pre ++ [c])).length = (accOf res pre).length + 1 := by rw [acc_in z, List.length_append]; rfl
        rw [ech]
        cases hp : pick (fitS s c) (tfin (fitS s) (6 * Dd) (accOf res pre) 0 v0) 10 with
        | none =>
          rw [hp] at fin
          refine b_t rfl (step s1 (fun _ _ _ _ => rfl) ⟨N, n1, ?_⟩)
          rw [fin, ln]
          exact OI_up n2 (by omega)
        | some tu =>
          have hpT := hp
          rw [pick_lt c1 (c6 c)] at hpT
          have ht := (pick_some T hpT).1
          rw [hp] at fin
          have et : (oI (some tu)).toNatClampNeg = tu := n_cl (show tu < 2 ^ 31 by omega)
          have s127 : s1 27 c = oI (some tu) := by rw [s1v 27 (by decide) (by decide) (by decide) (by decide) (by decide), h27 c hcR, if_pos z, ech, hp]
          have int : vp_in (oI (some tu)) 10 := vp_in_nI (by omega) (by decide)
          refine b_f (n_m1_ne (show tu < 2 ^ 31 by omega)) (fun s2 e2 => ?_)
          have s227 : s2 27 c = oI (some tu) := by rw [e2, tUp_ne _ _ _ (by decide)]; exact s127
          rw [n1, nI_1] at e2
          have s25 : s2 5 0 = nI (N + 1) := by rw [e2, tUp_self, upd_ap, if_pos rfl]
          refine ⟨hinc, by rw [s227]; exact int, fun s3 e3 => ?_⟩
          rw [s227, et, s25] at e3
          have s327 : s3 27 c = oI (some tu) := by rw [e3, tUp_ne _ _ _ (by decide)]; exact s227
          have s31 : s3 1 0 = nI Dd := by rw [e3, tUp_ne _ _ _ (by decide), e2, tUp_ne _ _ _ (by decide), s1v 1 (by decide) (by decide) (by decide) (by decide) (by decide)]; exact c3
          refine ⟨hinc, by rw [s327]; exact int, fun s4 e4 => ?_⟩
          rw [s327, et, s31] at e4
          refine step s4 (fun κ k1 k2 k3 => by rw [e4, tUp_ne _ _ _ k2, e3, tUp_ne _ _ _ k3, e2, tUp_ne _ _ _ k1]) ⟨N + 1, by rw [e4, tUp_ne _ _ _ (by decide), e3, tUp_ne _ _ _ (by decide)]; exact s25, ?_⟩
          have this := OI_step n2 (by omega) ht
          rw [show (6 * Dd + (accOf res pre).length) / 6 = Dd by omega] at this
          have g21 : s4 21 = upd (s1 21) tu (nI (N + 1)) := by rw [e4, tUp_ne _ _ _ (by decide), e3, tUp_self, e2, tUp_ne _ _ _ (by decide)]
          have g20 : s4 20 = upd (s1 20) tu (nI Dd) := by rw [e4, tUp_self, e3, tUp_ne _ _ _ (by decide), e2, tUp_ne _ _ _ (by decide)]
          rw [fin, ln, g21, g20]
          exact this
      · rw [if_neg z]
        refine b_t rfl (step s1 (fun _ _ _ _ => rfl) ⟨N, n1, ?_⟩)
        rw [acc_out z]
        exact n2
    refine b_f (by rw [q 6 (by decide), hm.2.1]; exact nI_ge (by omega) (by omega)) ⟨vp_in_nI (by omega) (by decide), fun y2 e2 => ?_⟩
    rw [n_cl (show pre.length < 2 ^ 31 by omega), e22] at e2
    subst e2
    refine m_has (by omega) ?_
    by_cases z : c ∈ res
    · rw [if_pos (show bt (st 7 0) c = true from (hm'.2.2.2.1 c (by omega)).mpr z)]
      refine b_f (by decide) (m_fund hc (fun s9 e9 => ?_))
      have s9o : ∀ κ, κ ≠ 4 → s9 κ = st κ := fun κ hκ => by rw [e9, tUp_ne _ _ _ hκ]
      have hM9 : MD D s9 P := MD_of hM' (s9o 17 (by decide)) (s9o 10 (by decide)) (s9o 16 (by decide)) (s9o 2 (by decide)) (s9o 13 (by decide)) (s9o 14 (by decide))
      have hm9 : MWk D s9 res g := MWk_same hm' (s9o 6 (by decide)) (s9o 7 (by decide)) (s9o 8 (by decide)) (s9o 22 (by decide)) (s9o 23 (by decide)) (s9o 24 (by decide)) (s9o 25 (by decide))
      refine ⟨P + 1, m_d60 hM9 hm9 (by rw [s9o 12 (by decide), q 12 (by decide)]; exact hr) hc z (fun s1 b1 b2 b3 => ?_) P 0 s9 (by omega) (fun _ _ => rfl) (fun p hp => absurd hp (by omega)) (fun _ _ => rfl)⟩
      refine nxt s1 (fuM st c) (fun p => shM D s9 res g c p) (fun κ k1 k2 => (b1 κ k2).trans (s9o κ k1)) ?_ (fun p hp => ?_) (fun p hp => ?_) ?_ (fun p hp => ?_)
      · rw [b1 4 (by decide), e9, tUp_self, upd_ap, if_pos rfl]
        rfl
      · rw [b2 p hp, s9o 15 (by decide)]
      · rw [b3 p hp, s9o 15 (by decide)]
      · unfold dfu fuM
        rw [if_pos z, q 17 (by decide), q 10 (by decide)]
      · unfold dwg shM
        rw [if_pos z, s9o 17 (by decide), s9o 10 (by decide), s9o 12 (by decide), q 17 (by decide), q 10 (by decide), q 12 (by decide)]
    · rw [if_neg (show ¬ bt (st 7 0) c = true from fun w => z ((hm'.2.2.2.1 c (by omega)).mp w))]
      refine b_t rfl (m_of (k := 0) hc (by decide) ?_)
      rw [q 17 (by decide)]
      by_cases w : t1 17 (8 * c + 0) = 0
      · have e : twM t1 c = true := decide_eq_true w
        refine b_t w (m_fines hM.2.2.2.1 (by rw [q 2 (by decide)]; exact hM.2.2.2.2.1) (fun s1 b1 b2 b3 b4 => nxt s1 _ _ b1 b2 b3 b4 ?_ (fun p hp => ?_)))
        · unfold dfu
          rw [if_neg z, if_pos e, q 14 (by decide), q 10 (by decide)]
        · unfold dwg
          rw [if_neg z, q 14 (by decide), q 10 (by decide)]
          by_cases y : t1 14 p = 0
          · rw [if_pos y, if_pos ⟨e, y⟩]
          · rw [if_neg y, if_neg (fun w => y w.2)]
      · have e : ¬ twM t1 c = true := fun h => w (of_decide_eq_true h)
        refine b_f w (nxt st 0 (fun _ => 0) (fun _ _ _ => rfl) (Int32.add_zero _).symm (fun p _ => (Int32.add_zero _).symm) (fun _ _ => rfl) ?_ (fun p hp => ?_))
        · unfold dfu
          rw [if_neg z, if_neg e]
        · unfold dwg
          rw [if_neg z, if_neg (fun w => e w.1)]
theorem m_go166 {s0 : tSt} {post : Int32 → tSt → Prop} {k188 : tSt → Prop} (hQ : ∀ st : tSt, (∀ κ, κ ≠ 17 → st κ = s0 κ) → (∀ c, c < 6 → st 17 (8 * c) = -1) → k188 st) : ∀ (m k : Nat) (st : tSt), k + m = 6 → (∀ κ, κ ≠ 17 → st κ = s0 κ) → (∀ c, c < k → st 17 (8 * c) = -1) → wp_M_day_166 post k188 (m + 1) (nI k) st
  | 0, k, st, hk, a1, a2 => by
    have e : k = 6 := by omega
    subst e
    exact b_t (by decide) (hQ st a1 a2)
  | m + 1, k, st, hk, a1, a2 => by
    refine b_f (nI_ge (a := k) (b := 6) (by omega) (by decide)) ?_
    rw [n_8 (show k < 6 by omega), n_cl (show 8 * k < 2 ^ 31 by omega)]
    refine ⟨vp_in_nI (by omega) (by decide), fun s1 e1 y e => ?_⟩
    rw [nI_1] at e
    subst e
    refine m_go166 hQ m (k + 1) s1 (by omega) (fun κ hκ => by rw [e1, tUp_ne _ _ _ hκ]; exact a1 κ hκ) (fun c hc => ?_)
    rw [e1, tUp_self, upd_ap]
    by_cases z : c = k
    · rw [if_pos (by rw [z])]
    · rw [if_neg (by omega)]; exact a2 c (by omega)
theorem m_pay200 {s0 : tSt} {P Dd : Nat} {post : Int32 → tSt → Prop} (hP : P ≤ 6) (h0 : s0 2 0 = nI P) (h1 : s0 1 0 = nI (Dd + 1)) (hD : Dd < 9999) (hy : (Dd + 1) % 360 = 0) (hQ : ∀ st : tSt, (∀ κ, κ ≠ 4 → κ ≠ 15 → st κ = s0 κ) → st 4 0 = pyF (s0 14) (s0 10 2) (s0 4 0) P → (∀ p, st 15 p = pyW (s0 14) (s0 10 2) (s0 4 0) (s0 15) P p) → post (nI (Dd + 1)) st) : ∀ (m k : Nat) (st : tSt), k + m = P → (∀ κ, κ ≠ 4 → κ ≠ 15 → st κ = s0 κ) → st 4 0 = pyF (s0 14) (s0 10 2) (s0 4 0) k → (∀ p, st 15 p = pyW (s0 14) (s0 10 2) (s0 4 0) (s0 15) k p) → wp_M_day_200 post (m + 1) (nI k) st
  | 0, k, st, hk, a1, a2, a3 => by
    have e : k = P := by omega
    subst e
    refine b_t (by rw [a1 2 (by decide) (by decide), h0]; exact Int32.le_refl _) ?_
    rw [a1 1 (by decide) (by decide), h1]
    exact hQ st a1 a2 a3
  | m + 1, k, st, hk, a1, a2, a3 => by
    have ih := m_pay200 hP h0 h1 hD hy hQ m (k + 1)
    have hin : vp_in (nI k) 6 := vp_in_nI (by omega) (by decide)
    have eF : pyF (s0 14) (s0 10 2) (s0 4 0) (k + 1) = if s0 14 k = 2 then pyF (s0 14) (s0 10 2) (s0 4 0) k - mnV (s0 10 2) (pyF (s0 14) (s0 10 2) (s0 4 0) k) else pyF (s0 14) (s0 10 2) (s0 4 0) k := rfl
    refine b_f (by rw [a1 2 (by decide) (by decide), h0]; exact nI_ge (by omega) (by omega)) (b_t (by rw [a1 1 (by decide) (by decide), h1]; exact (yr_0 hD).mpr hy) ⟨hin, ?_⟩)
    rw [n_cl (show k < 2 ^ 31 by omega), a1 14 (by decide) (by decide), a1 10 (by decide) (by decide), a2]
    by_cases z : s0 14 k = 2
    · refine b_t z ?_
      have go : ∀ x, x = mnV (s0 10 2) (pyF (s0 14) (s0 10 2) (s0 4 0) k) → wp_M_day_258 post (wp_M_day_200 post (m + 1)) (nI k) x st := by
        intro x ex
        refine ⟨hin, hin, fun s4 e4 s5 e5 y e => ?_⟩
        rw [n_cl (show k < 2 ^ 31 by omega)] at e4
        rw [nI_1] at e
        subst e
        subst ex
        have s43 : s4 4 0 = st 4 0 := by rw [e4, tUp_ne _ _ _ (by decide)]
        rw [s43, a2] at e5
        have s512 : s5 15 = upd (st 15) k (st 15 k + mnV (s0 10 2) (pyF (s0 14) (s0 10 2) (s0 4 0) k)) := by rw [e5, tUp_ne _ _ _ (by decide), e4, tUp_self]
        refine ih s5 (by omega) (fun κ k1 k2 => by rw [e5, tUp_ne _ _ _ k1, e4, tUp_ne _ _ _ k2]; exact a1 κ k1 k2) ?_ (fun p => ?_)
        · rw [e5, tUp_self, upd_ap, if_pos rfl, eF, if_pos z]
        · rw [s512, upd_ap, pyW_step]
          by_cases w : p = k
          · rw [if_pos w, if_pos ⟨w, z⟩, a3 k, pyW_k (Nat.le_refl k)]
          · rw [if_neg w, if_neg (fun q => w q.1)]
            exact a3 p
      by_cases w : pyF (s0 14) (s0 10 2) (s0 4 0) k ≤ s0 10 2
      · refine b_t w (go _ ?_)
        unfold mnV
        rw [if_neg (Int32.not_lt.mpr w)]
      · refine b_f w (go _ ?_)
        unfold mnV
        rw [if_pos (Int32.not_le.mp w)]
    · refine b_f z (fun y e => ?_)
      rw [nI_1] at e
      subst e
      refine ih st (by omega) a1 (by rw [eF, if_neg z]; exact a2) (fun p => ?_)
      rw [pyW_step, if_neg (fun q => z q.2)]
      exact a3 p
theorem m_pay {s0 : tSt} {P Dd : Nat} {post : Int32 → tSt → Prop} (hP : P ≤ 6) (h0 : s0 2 0 = nI P) (h1 : s0 1 0 = nI (Dd + 1)) (hD : Dd < 9999) (hQ : ∀ st : tSt, (∀ κ, κ ≠ 4 → κ ≠ 15 → st κ = s0 κ) → st 4 0 = pyF (s0 14) (s0 10 2) (s0 4 0) (yrK Dd P) → (∀ p, st 15 p = pyW (s0 14) (s0 10 2) (s0 4 0) (s0 15) (yrK Dd P) p) → post (nI (Dd + 1)) st) : ∃ q, wp_M_day_200 post q 0 s0 := by
  by_cases z : (Dd + 1) % 360 = 0
  · have eK : yrK Dd P = P := if_pos z
    rw [eK] at hQ
    exact ⟨P + 1, m_pay200 hP h0 h1 hD z hQ P 0 s0 (by omega) (fun _ _ _ => rfl) rfl (fun p => pyW_0.symm)⟩
  · have eK : yrK Dd P = 0 := if_neg z
    rw [eK] at hQ
    have fin : post (s0 1 0) s0 := by
      rw [h1]
      exact hQ s0 (fun _ _ _ => rfl) rfl (fun p => pyW_0.symm)
    refine ⟨1, ?_⟩
    by_cases w : s0 2 0 ≤ 0
    · exact b_t w fin
    · exact b_f w (b_f (by rw [h1]; exact fun w => z ((yr_0 hD).mp w)) fin)
theorem m_dayE {D : Dt} {s t1 : tSt} {P T Dd : Nat} {res : List Nat} {g : Nat → Nat} {v0 : Nat → Int32} {post : Int32 → tSt → Prop} (hM : MD D t1 P) (hm : MWk D t1 res g) (h6 : res.length ≤ 6) (hr : rkOK (t1 12) P) (hC : TC D s t1 T Dd res) (hD : Dd < 9999) (h27 : ∀ c, c ∈ row D → t1 27 c = if c ∈ res then oI (tch (fitS s) (6 * Dd) res 0 v0 c) else -1) (hO : mT s T Dd res v0 [] t1)
    (hQ : ∀ (st : tSt) (F : Int32) (W : Nat → Int32), F = t1 4 0 + zL (dfu res (fuM t1) (twM t1) (t1 14) (t1 10 3) P) (row D) → (∀ p, p < P → W p = t1 15 p + zL (dwg res (shM D t1 res g) (twM t1) (t1 14) (t1 10 3) p) (row D)) → (∀ p, P ≤ p → W p = t1 15 p) → (∀ κ, κ ≠ 1 → κ ≠ 4 → κ ≠ 5 → κ ≠ 15 → κ ≠ 17 → κ ≠ 20 → κ ≠ 21 → st κ = t1 κ) → st 1 0 = nI (Dd + 1) → (∀ c, c < 6 → st 17 (8 * c) = -1) → mT s T Dd res v0 (row D) st → st 4 0 = pyF (t1 14) (t1 10 2) F (yrK Dd P) → (∀ p, st 15 p = pyW (t1 14) (t1 10 2) F W (yrK Dd P) p) → post (nI (Dd + 1)) st) : ∃ q, wp_M_day_18 post (wp_M_day_164 post) q 0 t1 := by
  refine ⟨(row D).length + 1, m_day18 hM hm h6 hr hC h27 (fun s1 a1 a2 a3 a4 a5 => ⟨7, m_go166 (s0 := s1) (fun s2 b1 b2 s3 e3 => ?_) 6 0 s1 rfl (fun _ _ => rfl) (fun c hc => absurd hc (by omega))⟩) (row D) [] t1 rfl (fun _ _ _ _ _ _ => rfl) (by show _ = t1 4 0 + 0; rw [Int32.add_zero]) (fun p _ => by show _ = t1 15 p + 0; rw [Int32.add_zero]) (fun _ _ => rfl) hO⟩
  have s21 : s2 1 0 = nI Dd := by rw [b1 1 (by decide), a1 1 (by decide) (by decide) (by decide) (by decide) (by decide)]; exact hC.2.2.1
  rw [s21, nI_1] at e3
  have s3o : ∀ κ, κ ≠ 1 → s3 κ = s2 κ := fun κ hκ => by rw [e3, tUp_ne _ _ _ hκ]
  have s31 : s3 1 0 = nI (Dd + 1) := by rw [e3, tUp_self, upd_ap, if_pos rfl]
  have k3 : ∀ κ, κ ≠ 1 → κ ≠ 17 → s3 κ = s1 κ := fun κ k1 k2 => (s3o κ k1).trans (b1 κ k2)
  have base : ∀ κ, κ ≠ 1 → κ ≠ 4 → κ ≠ 5 → κ ≠ 15 → κ ≠ 17 → κ ≠ 20 → κ ≠ 21 → s3 κ = t1 κ := fun κ k1 k2 k4 k5 k6 k7 k8 => (k3 κ k1 k6).trans (a1 κ k2 k4 k5 k7 k8)
  have e14 := base 14 (by decide) (by decide) (by decide) (by decide) (by decide) (by decide) (by decide)
  have e10 := base 10 (by decide) (by decide) (by decide) (by decide) (by decide) (by decide) (by decide)
  have e4 := k3 4 (by decide) (by decide)
  have e15 := k3 15 (by decide) (by decide)
  refine m_pay (s0 := s3) hM.2.2.2.1 (by rw [base 2 (by decide) (by decide) (by decide) (by decide) (by decide) (by decide) (by decide)]; exact hM.2.2.2.2.1) s31 hD (fun s4 d1 d2 d3 => ?_)
  rw [e14, e10] at d2
  rw [e14, e10] at d3
  refine hQ s4 (s3 4 0) (s3 15) (by rw [e4]; exact a2) (by rw [e15]; exact a3) (by rw [e15]; exact a4) (fun κ k1 k2 k4 k5 k6 k7 k8 => (d1 κ k2 k5).trans (base κ k1 k2 k4 k5 k6 k7 k8)) (by rw [d1 1 (by decide) (by decide)]; exact s31) (fun c hc => by rw [d1 17 (by decide) (by decide), s3o 17 (by decide)]; exact b2 c hc) ?_ d2 d3
  unfold mT at a5 ⊢
  rw [d1 5 (by decide) (by decide), d1 20 (by decide) (by decide), d1 21 (by decide) (by decide), k3 5 (by decide) (by decide), k3 20 (by decide) (by decide), k3 21 (by decide) (by decide)]
  exact a5
