/-! sums -/
def zN (f : Nat → Int32) : Nat → Int32
  | 0 => 0
  | n + 1 => zN f n + f n
def zL (f : Nat → Int32) : List Nat → Int32
  | [] => 0
  | c :: l => f c + zL f l
theorem zN_congr {f g : Nat → Int32} : ∀ n, (∀ k, k < n → f k = g k) → zN f n = zN g n
  | 0, _ => rfl
  | n + 1, h => by
    show zN f n + f n = zN g n + g n
    rw [zN_congr n (fun k hk => h k (by omega)), h n (by omega)]
theorem zN_0 {f : Nat → Int32} : ∀ n, (∀ k, k < n → f k = 0) → zN f n = 0
  | 0, _ => rfl
  | n + 1, h => by
    show zN f n + f n = 0
    rw [zN_0 n (fun k hk => h k (by omega)), h n (by omega)]
    rfl
theorem zN_up {f g : Nat → Int32} {c : Nat} : ∀ n, c < n → (∀ k, k < n → k ≠ c → g k = f k) → f c = 0 → zN g n = g c + zN f n
  | 0, h, _, _ => by omega
  | n + 1, h, he, h0 => by
    show zN g n + g n = g c + (zN f n + f n)
    by_cases z : c = n
    · subst z
      rw [h0, zN_congr (f := g) (g := f) c (fun k hk => he k (by omega) (by omega)), Int32.add_zero, Int32.add_comm]
    · rw [zN_up n (by omega) (fun k hk => he k (by omega)) h0, he n (by omega) (by omega), Int32.add_assoc]
theorem zL_zN {f : Nat → Int32} : ∀ l : List Nat, l.Nodup → (∀ c, c ∈ l → c < 6) → zN (fun c => if c ∈ l then f c else 0) 6 = zL f l
  | [], _, _ => zN_0 6 (fun k _ => by simp)
  | d :: l, hn, h6 => by
    have hd : ¬ d ∈ l := (List.nodup_cons.mp hn).1
    have ih := zL_zN (f := f) l (List.nodup_cons.mp hn).2 (fun c hc => h6 c (List.mem_cons_of_mem d hc))
    show _ = f d + zL f l
    rw [← ih]
    have := zN_up (f := fun c => if c ∈ l then f c else 0) (g := fun c => if c ∈ d :: l then f c else 0) (c := d) 6 (h6 d List.mem_cons_self) (fun k _ hk => by simp [hk]) (by simp [hd])
    rw [this]
    simp
theorem zL_snoc {f : Nat → Int32} {c : Nat} : ∀ l : List Nat, zL f (l ++ [c]) = zL f l + f c
  | [] => by
    show f c + 0 = 0 + f c
    rw [Int32.add_comm]
  | d :: l => by
    show f d + zL f (l ++ [c]) = f d + zL f l + f c
    rw [zL_snoc l, Int32.add_assoc]
/-! a day: what each call does to fund and wages -/
def dwg (res : List Nat) (sh : Nat → Nat → Int32) (tw : Nat → Bool) (how : Nat → Int32) (fine : Int32) (p c : Nat) : Int32 := if c ∈ res then sh c p else if tw c = true ∧ how p = 0 then -fine else 0
def dfu (res : List Nat) (fu : Nat → Int32) (tw : Nat → Bool) (how : Nat → Int32) (fine : Int32) (P c : Nat) : Int32 := if c ∈ res then fu c else if tw c = true then zN (fun p => if how p = 0 then fine else 0) P else 0
def shS (D : Dt) (s : tSt) (res : List Nat) (g : Nat → Nat) (c p : Nat) : Int32 := shV (s (14 + c) 7) (s 7 1) (s 9) (wl g c (pts (dF D) res) 0 0) (wl g c (pts (dF D) res) 1 0) p
def fuS (s : tSt) (c : Nat) : Int32 := s (14 + c) 7 * s 7 1 / 100
def twS (s : tSt) (c : Nat) : Bool := decide (s 13 c = 1) && decide (s (14 + c) 0 = 0)
theorem c_settle2 {D : Dt} {st0 t : tSt} {P : Nat} {res : List Nat} {g : Nat → Nat} {c : Nat} {post : tSt → Prop} {k37 : Int32 → tSt → Prop} (hM : MD D t P) (hp : PCk D st0 res g) (h0 : st0 0 0 = nI P) (hr : rkOK (st0 9) P) (hc : c ∈ res) (hK : ∀ st : tSt, (∀ κ, κ ≠ 12 → st κ = st0 κ) → (∀ p, p < P → st 12 p = st0 12 p + shS D st0 res g c p) → (∀ p, P ≤ p → st 12 p = st0 12 p) → k37 (nI c) st) : ∀ (m k : Nat) (st : tSt), k + m = P → (∀ κ, κ ≠ 12 → st κ = st0 κ) → (∀ p, p < k → st 12 p = st0 12 p + shS D st0 res g c p) → (∀ p, k ≤ p → st 12 p = st0 12 p) → wp_T_settle_2 post k37 (m + 1) (nI c) (nI k) st
  | 0, k, st, hk, a1, a2, a3 => by
    have e : k = P := by omega
    subst e
    exact b_t (by rw [a1 0 (by decide), h0]; exact Int32.le_refl _) (hK st a1 a2 a3)
  | m + 1, k, st, hk, a1, a2, a3 => by
    have hP6 := hM.2.2.2.1
    have hp' : PCk D st res g := PCk_keep hp (a1 26 (by decide)) (a1 27 (by decide)) (a1 33 (by decide)) (a1 34 (by decide))
    have hc6 := ((pl_ok (MD_bOK hM) (PCk_acc hp) hp.2.1).2.1 c hc).1
    refine b_f (by rw [a1 0 (by decide), h0]; exact nI_ge (by omega) (by omega)) ⟨vp_in_nI (by omega) (by decide), c_share hM hp' (by rw [a1 0 (by decide)]; exact h0) (by rw [a1 9 (by decide)]; exact hr) hc (by omega) (fun s3 e3 y e => ?_)⟩
    rw [a1 (14 + c) (by omega), a1 7 (by decide), a1 9 (by decide), n_cl (show k < 2 ^ 31 by omega), a3 k (Nat.le_refl k)] at e3
    rw [nI_1] at e
    subst e
    refine c_settle2 hM hp h0 hr hc hK m (k + 1) s3 (by omega) (fun κ hκ => by rw [e3, tUp_ne _ _ _ hκ]; exact a1 κ hκ) (fun p hp => ?_) (fun p hp => ?_)
    · rw [e3, tUp_self, upd_ap]
      by_cases z : p = k
      · rw [if_pos z, z]; rfl
      · rw [if_neg z]; exact a2 p (by omega)
    · rw [e3, tUp_self, upd_ap, if_neg (by omega)]
      exact a3 p (by omega)
theorem c_settle {D : Dt} {st0 t : tSt} {P : Nat} {res : List Nat} {g : Nat → Nat} {c : Nat} {post : tSt → Prop} (hM : MD D t P) (hp : PCk D st0 res g) (h0 : st0 0 0 = nI P) (hr : rkOK (st0 9) P) (hc : c ∈ res) (hQ : ∀ st : tSt, (∀ κ, κ ≠ 3 → κ ≠ 12 → st κ = st0 κ) → st 3 0 = st0 3 0 + fuS st0 c → (∀ p, p < P → st 12 p = st0 12 p + shS D st0 res g c p) → (∀ p, P ≤ p → st 12 p = st0 12 p) → post st) : wp_T_settle (nI c) st0 post := by
  have hc6 := ((pl_ok (MD_bOK hM) (PCk_acc hp) hp.2.1).2.1 c hc).1
  refine ⟨P + 1, c_settle2 hM hp h0 hr hc (fun s1 a1 a2 a3 => c_fund hc6 (fun s3 e3 => ?_)) P 0 st0 (by omega) (fun _ _ => rfl) (fun p hp => absurd hp (by omega)) (fun _ _ => rfl)⟩
  rw [a1 (14 + c) (by omega), a1 7 (by decide), a1 3 (by decide)] at e3
  have s12 : s3 12 = s1 12 := by rw [e3, tUp_ne _ _ _ (by decide)]
  refine hQ s3 (fun κ k1 k2 => by rw [e3, tUp_ne _ _ _ k1]; exact a1 κ k2) ?_ (by rw [s12]; exact a2) (by rw [s12]; exact a3)
  rw [e3, tUp_self, upd_ap, if_pos rfl]
  rfl
theorem c_fine11 {st0 : tSt} {P : Nat} {post : tSt → Prop} (hP : P ≤ 6) (h0 : st0 0 0 = nI P) (hQ : ∀ st : tSt, (∀ κ, κ ≠ 3 → κ ≠ 12 → st κ = st0 κ) → st 3 0 = st0 3 0 + zN (fun p => if st0 11 p = 0 then st0 7 3 else 0) P → (∀ p, p < P → st 12 p = st0 12 p + (if st0 11 p = 0 then -(st0 7 3) else 0)) → (∀ p, P ≤ p → st 12 p = st0 12 p) → post st) : ∀ (m k : Nat) (st : tSt), k + m = P → (∀ κ, κ ≠ 3 → κ ≠ 12 → st κ = st0 κ) → st 3 0 = st0 3 0 + zN (fun p => if st0 11 p = 0 then st0 7 3 else 0) k → (∀ p, p < k → st 12 p = st0 12 p + (if st0 11 p = 0 then -(st0 7 3) else 0)) → (∀ p, k ≤ p → st 12 p = st0 12 p) → wp_T_fineTheWell_11 post (m + 1) (st0 7 3) (nI k) st
  | 0, k, st, hk, a1, a2, a3, a4 => by
    have e : k = P := by omega
    subst e
    exact b_t (by rw [a1 0 (by decide) (by decide), h0]; exact Int32.le_refl _) (hQ st a1 a2 a3 a4)
  | m + 1, k, st, hk, a1, a2, a3, a4 => by
    have ih := c_fine11 hP h0 hQ m (k + 1)
    have hin : vp_in (nI k) 6 := vp_in_nI (by omega) (by decide)
    refine b_f (by rw [a1 0 (by decide) (by decide), h0]; exact nI_ge (by omega) (by omega)) ⟨hin, ?_⟩
    rw [n_cl (show k < 2 ^ 31 by omega), a1 11 (by decide) (by decide), a4 k (Nat.le_refl k)]
    by_cases z : st0 11 k = 0
    · refine b_t z ⟨hin, fun s1 e1 s2 e2 y e => ?_⟩
      rw [nI_1] at e
      subst e
      have s13 : s1 3 0 = st 3 0 := by rw [e1, tUp_ne _ _ _ (by decide)]
      rw [s13, a2] at e2
      have s2o : s2 12 = upd (st 12) k (st0 12 k - st0 7 3) := by rw [e2, tUp_ne _ _ _ (by decide), e1, tUp_self]
      refine ih s2 (by omega) (fun κ k1 k2 => by rw [e2, tUp_ne _ _ _ k1, e1, tUp_ne _ _ _ k2]; exact a1 κ k1 k2) ?_ (fun p hp => ?_) (fun p hp => ?_)
      · rw [e2, tUp_self, upd_ap, if_pos rfl]
        show _ = st0 3 0 + (zN (fun p => if st0 11 p = 0 then st0 7 3 else 0) k + (if st0 11 k = 0 then st0 7 3 else 0))
        rw [if_pos z, Int32.add_assoc]
      · rw [s2o, upd_ap]
        by_cases w : p = k
        · rw [if_pos w, w, if_pos z, Int32.sub_eq_add_neg]
        · rw [if_neg w]; exact a3 p (by omega)
      · rw [s2o, upd_ap, if_neg (by omega)]; exact a4 p (by omega)
    · refine b_f z (fun y e => ?_)
      rw [nI_1] at e
      subst e
      refine ih st (by omega) a1 ?_ (fun p hp => ?_) (fun p hp => a4 p (by omega))
      · rw [a2]
        show _ = st0 3 0 + (zN (fun p => if st0 11 p = 0 then st0 7 3 else 0) k + (if st0 11 k = 0 then st0 7 3 else 0))
        rw [if_neg z, Int32.add_zero]
      · by_cases w : p = k
        · rw [w, if_neg z, Int32.add_zero]; exact a4 k (Nat.le_refl k)
        · exact a3 p (by omega)
theorem c_fine {st0 : tSt} {P : Nat} {post : tSt → Prop} (hP : P ≤ 6) (h0 : st0 0 0 = nI P) (hQ : ∀ st : tSt, (∀ κ, κ ≠ 3 → κ ≠ 12 → st κ = st0 κ) → st 3 0 = st0 3 0 + zN (fun p => if st0 11 p = 0 then st0 7 3 else 0) P → (∀ p, p < P → st 12 p = st0 12 p + (if st0 11 p = 0 then -(st0 7 3) else 0)) → (∀ p, P ≤ p → st 12 p = st0 12 p) → post st) : wp_T_fineTheWell st0 post :=
  c_num (k := 3) (by decide) ⟨P + 1, c_fine11 hP h0 hQ P 0 st0 (by omega) (fun _ _ _ => rfl) (by show _ = st0 3 0 + 0; rw [Int32.add_zero]) (fun p hp => absurd hp (by omega)) (fun _ _ => rfl)⟩
theorem c_day19 {D : Dt} {s0 t : tSt} {P : Nat} {res : List Nat} {g : Nat → Nat} {post : Int32 → tSt → Prop} {k65 : tSt → Prop} (hM : MD D t P) (hp : PCk D s0 res g) (h0 : s0 0 0 = nI P) (hr : rkOK (s0 9) P) (h13 : ∀ c, c < 6 → s0 13 c = 0 ∨ s0 13 c = 1)
    (hK : ∀ st : tSt, (∀ κ, κ ≠ 3 → κ ≠ 12 → st κ = s0 κ) → st 3 0 = s0 3 0 + zN (dfu res (fuS s0) (twS s0) (s0 11) (s0 7 3) P) 6 → (∀ p, p < P → st 12 p = s0 12 p + zN (dwg res (shS D s0 res g) (twS s0) (s0 11) (s0 7 3) p) 6) → (∀ p, P ≤ p → st 12 p = s0 12 p) → k65 st) :
    ∀ (m c : Nat) (st : tSt), c + m = 6 → (∀ κ, κ ≠ 3 → κ ≠ 12 → st κ = s0 κ) → st 3 0 = s0 3 0 + zN (dfu res (fuS s0) (twS s0) (s0 11) (s0 7 3) P) c → (∀ p, p < P → st 12 p = s0 12 p + zN (dwg res (shS D s0 res g) (twS s0) (s0 11) (s0 7 3) p) c) → (∀ p, P ≤ p → st 12 p = s0 12 p) → wp_T_day_19 post k65 (m + 1) (nI c) st
  | 0, c, st, hc, a1, a2, a3, a4 => by
    have e : c = 6 := by omega
    subst e
    exact b_t (by decide) (hK st a1 a2 a3 a4)
  | m + 1, c, st, hc, a1, a2, a3, a4 => by
    have ih := c_day19 (post := post) hM hp h0 hr h13 hK m (c + 1)
    have hP6 := hM.2.2.2.1
    have q := fun κ (z : κ ≠ 3 ∧ κ ≠ 12) => a1 κ z.1 z.2
    have hp' : PCk D st res g := PCk_keep hp (q 26 (by decide)) (q 27 (by decide)) (q 33 (by decide)) (q 34 (by decide))
    have st0' : st 0 0 = nI P := by rw [q 0 (by decide)]; exact h0
    have nxt : ∀ (s1 : tSt) (f : Int32) (w : Nat → Int32), (∀ κ, κ ≠ 3 → κ ≠ 12 → s1 κ = st κ) → s1 3 0 = st 3 0 + f → (∀ p, p < P → s1 12 p = st 12 p + w p) → (∀ p, P ≤ p → s1 12 p = st 12 p) → f = dfu res (fuS s0) (twS s0) (s0 11) (s0 7 3) P c → (∀ p, p < P → w p = dwg res (shS D s0 res g) (twS s0) (s0 11) (s0 7 3) p c) → wp_T_day_59 post (wp_T_day_19 post k65 (m + 1)) k65 (nI c) s1 := by
      intro s1 f w b1 b2 b3 b4 b5 b6 y e
      rw [nI_1] at e
      subst e
      refine ih s1 (by omega) (fun κ k1 k2 => (b1 κ k1 k2).trans (a1 κ k1 k2)) ?_ (fun p hp => ?_) (fun p hp => (b4 p hp).trans (a4 p hp))
      · show _ = s0 3 0 + (zN (dfu res (fuS s0) (twS s0) (s0 11) (s0 7 3) P) c + dfu res (fuS s0) (twS s0) (s0 11) (s0 7 3) P c)
        rw [b2, a2, b5, Int32.add_assoc]
      · show _ = s0 12 p + (zN (dwg res (shS D s0 res g) (twS s0) (s0 11) (s0 7 3) p) c + dwg res (shS D s0 res g) (twS s0) (s0 11) (s0 7 3) p c)
        rw [b3 p hp, a3 p hp, b6 p hp, Int32.add_assoc]
    refine b_f (nI_ge (a := c) (b := 6) (by omega) (by decide)) (c_phas hp' (by omega) (fun z => b_f (by decide) ?_) (fun z => b_t rfl ⟨vp_in_nI (by omega) (by decide), ?_⟩))
    · refine c_settle hM hp' st0' (by rw [q 9 (by decide)]; exact hr) z (fun s1 b1 b2 b3 b4 => ?_)
      refine nxt s1 _ _ b1 b2 b3 b4 ?_ (fun p hp => ?_)
      · unfold dfu fuS
        rw [if_pos z, q (14 + c) (by omega), q 7 (by decide)]
      · unfold dwg shS
        rw [if_pos z, q (14 + c) (by omega), q 7 (by decide), q 9 (by decide)]
    · rw [n_cl (show c < 2 ^ 31 by omega)]
      have skip : ¬ twS s0 c = true → wp_T_day_59 post (wp_T_day_19 post k65 (m + 1)) k65 (nI c) st := by
        intro h
        refine nxt st 0 (fun _ => 0) (fun _ _ _ => rfl) (Int32.add_zero _).symm (fun p _ => (Int32.add_zero _).symm) (fun _ _ => rfl) ?_ (fun p hp => ?_)
        · unfold dfu
          rw [if_neg z, if_neg h]
        · unfold dwg
          rw [if_neg z, if_neg (fun w => h w.1)]
      have e13 : st 13 c = s0 13 c := by rw [q 13 (by decide)]
      have e14 : st (14 + c) 0 = s0 (14 + c) 0 := by rw [q (14 + c) (by omega)]
      unfold wp_Call_isOfOrder
      rw [e13, e14]
      rcases h13 c (by omega) with h | h
      · refine b_t h (b_t rfl (skip ?_))
        unfold twS
        rw [h]
        simp
      · refine b_f (by rw [h]; decide) ?_
        by_cases w : s0 (14 + c) 0 = 0
        · refine b_t w (b_f (by decide) (c_fine hP6 st0' (fun s1 b1 b2 b3 b4 => nxt s1 _ _ b1 b2 b3 b4 ?_ (fun p hp => ?_))))
          · unfold dfu
            rw [if_neg z, if_pos (by unfold twS; rw [h, w]; rfl), q 11 (by decide), q 7 (by decide)]
          · unfold dwg
            have e : twS s0 c = true := by unfold twS; rw [h, w]; rfl
            rw [if_neg z, q 11 (by decide), q 7 (by decide)]
            by_cases y : s0 11 p = 0
            · rw [if_pos y, if_pos ⟨e, y⟩]
            · rw [if_neg y, if_neg (fun w => y w.2)]
        · refine b_f w (b_t rfl (skip ?_))
          unfold twS
          simp [w]
