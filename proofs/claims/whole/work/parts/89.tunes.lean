/-! tunes: the class -/
def pick (fit : Nat → Bool) (v : Nat → Int32) : Nat → Option Nat
  | 0 => none
  | k + 1 => match pick fit v k with
    | none => if fit k = true then some k else none
    | some b => if fit k = true ∧ v k < v b then some k else some b
def oI : Option Nat → Int32
  | none => -1
  | some t => nI t
theorem pick_some {fit : Nat → Bool} {v : Nat → Int32} : ∀ (k : Nat) {t : Nat}, pick fit v k = some t → t < k ∧ fit t = true
  | 0, t, h => by cases h
  | k + 1, t, h => by
    unfold pick at h
    cases hp : pick fit v k with
    | none =>
      simp only [hp] at h
      by_cases z : fit k = true
      · rw [if_pos z] at h
        cases h
        exact ⟨by omega, z⟩
      · rw [if_neg z] at h; cases h
    | some b =>
      simp only [hp] at h
      have ih := pick_some k hp
      by_cases z : fit k = true ∧ v k < v b
      · rw [if_pos z] at h
        cases h
        exact ⟨by omega, z.1⟩
      · rw [if_neg z] at h
        cases h
        exact ⟨by omega, ih.2⟩
theorem pick_none {fit : Nat → Bool} {v : Nat → Int32} {k : Nat} (h : pick fit v k = none) : pick fit v (k + 1) = if fit k = true then some k else none := by
  show (match pick fit v k with | none => _ | some b => _) = _
  rw [h]
theorem pick_step {fit : Nat → Bool} {v : Nat → Int32} {k b : Nat} (h : pick fit v k = some b) : pick fit v (k + 1) = if fit k = true ∧ v k < v b then some k else some b := by
  show (match pick fit v k with | none => _ | some b => _) = _
  rw [h]
theorem pick_skip {fit : Nat → Bool} {v : Nat → Int32} {k : Nat} (h : ¬ fit k = true) : pick fit v (k + 1) = pick fit v k := by
  cases hp : pick fit v k with
  | none => rw [pick_none hp, if_neg h]
  | some b => rw [pick_step hp, if_neg (fun z => h z.1)]
theorem pick_congr {fit fit' : Nat → Bool} {v v' : Nat → Int32} : ∀ k, (∀ i, i < k → fit' i = fit i) → (∀ i j, i < k → j < k → (v' i < v' j ↔ v i < v j)) → pick fit' v' k = pick fit v k
  | 0, _, _ => rfl
  | k + 1, h1, h2 => by
    have ih := pick_congr (fit := fit) (fit' := fit') (v := v) (v' := v') k (fun i hi => h1 i (by omega)) (fun i j hi hj => h2 i j (by omega) (by omega))
    cases hp : pick fit v k with
    | none =>
      rw [hp] at ih
      rw [pick_none hp, pick_none ih, h1 k (by omega)]
    | some b =>
      rw [hp] at ih
      have hb := (pick_some k hp).1
      rw [pick_step hp, pick_step ih, h1 k (by omega)]
      have := h2 k b (by omega) (by omega)
      by_cases z : fit k = true ∧ v k < v b
      · rw [if_pos z, if_pos ⟨z.1, this.mpr z.2⟩]
      · rw [if_neg z, if_neg (fun w => z ⟨w.1, this.mp w.2⟩)]
theorem pick_T {fit : Nat → Bool} {v : Nat → Int32} {T : Nat} : ∀ m, (∀ i, T ≤ i → i < T + m → ¬ fit i = true) → pick fit v (T + m) = pick fit v T
  | 0, _ => rfl
  | m + 1, h => by
    show pick fit v (T + m + 1) = _
    rw [pick_skip (h (T + m) (by omega) (by omega)), pick_T m (fun i h1 h2 => h i h1 (by omega))]
def appO (v : Nat → Int32) (o : Option Nat) (x : Int32) : Nat → Int32 := match o with
  | none => v
  | some t => upd v t x
def tch (fit : Nat → Nat → Bool) (D6 : Nat) : List Nat → Nat → (Nat → Int32) → Nat → Option Nat
  | [], _, _, _ => none
  | c :: l, k, v, d => if d = c then pick (fit c) v 10 else tch fit D6 l (k + 1) (appO v (pick (fit c) v 10) (nI (D6 + k))) d
def tfin (fit : Nat → Nat → Bool) (D6 : Nat) : List Nat → Nat → (Nat → Int32) → Nat → Int32
  | [], _, v => v
  | c :: l, k, v => tfin fit D6 l (k + 1) (appO v (pick (fit c) v 10) (nI (D6 + k)))
def fitS (s : tSt) (c t : Nat) : Bool := bt (s 20 t) (fc s c 4).toNatClampNeg && bt (s 21 t) ((s 2 0).toNatClampNeg / 30 % 12)
theorem occ_ok {f : Nat → Int32} (h : rCallOK f) : (f 4).toNatClampNeg ≤ 5 ∧ f 4 = nI (f 4).toNatClampNeg := by
  obtain ⟨o, fr, le, pl, oc, on, fe, h1, h2, h3, h4, h5, h6, h7, h8, e0, e1, e2, e3, e4, e5, e6, e7⟩ := h
  rw [e4, n_cl (by omega)]
  exact ⟨h6, rfl⟩
theorem c_fits {st : tSt} {t oc mo : Nat} {post : Int32 → tSt → Prop} (ho : oc < 32) (hm : mo < 32) (h : post (if (bt (st 20 t) oc && bt (st 21 t) mo) = true then 1 else 0) st) : wp_Tune_fits t (nI oc) (nI mo) st post := by
  refine c_has ho ?_
  by_cases g : bt (st 20 t) oc = true
  · rw [if_pos g]
    rw [g, Bool.true_and] at h
    refine b_f (by decide) (c_has hm ?_)
    by_cases g2 : bt (st 21 t) mo = true
    · rw [if_pos g2] at h ⊢
      exact b_f (by decide) h
    · rw [if_neg g2] at h ⊢
      exact b_t rfl h
  · rw [if_neg g]
    have : bt (st 20 t) oc = false := by cases hb : bt (st 20 t) oc with | true => exact absurd hb g | false => rfl
    rw [this, Bool.false_and] at h
    exact b_t rfl h
theorem c_longL {st : tSt} {oc mo : Nat} {post : Int32 → tSt → Prop} (ho : oc < 32) (hm : mo < 32) (h : post (oI (pick (fun t => bt (st 20 t) oc && bt (st 21 t) mo) (st 30) 10)) st) : ∀ m k : Nat, k + m = 10 → wp_Plan_longestUnheard_6 post (m + 1) (nI oc) (nI mo) (oI (pick (fun t => bt (st 20 t) oc && bt (st 21 t) mo) (st 30) k)) (nI k) st
  | 0, k, hk => by
    have e : k = 10 := by omega
    subst e
    exact b_t (by decide) h
  | m + 1, k, hk => by
    have ih := c_longL (post := post) ho hm h m (k + 1) (by omega)
    have hin : vp_in (nI k) 10 := vp_in_nI (by omega) (by decide)
    have ek := n_cl (show k < 2 ^ 31 by omega)
    refine b_f (nI_ge (a := k) (b := 10) (by omega) (by decide)) ⟨hin, ?_⟩
    rw [ek]
    refine c_fits ho hm ?_
    by_cases g : (bt (st 20 k) oc && bt (st 21 k) mo) = true
    · rw [if_pos g]
      refine b_f (by decide) ?_
      cases hp : pick (fun t => bt (st 20 t) oc && bt (st 21 t) mo) (st 30) k with
      | none =>
        rw [pick_none hp, if_pos g] at ih
        refine b_t rfl (fun y e => ?_)
        rw [nI_1] at e
        subst e
        exact ih
      | some b =>
        have hb := (pick_some k hp).1
        have eb := n_cl (show b < 2 ^ 31 by omega)
        rw [pick_step hp] at ih
        refine b_f (n_m1_ne (show b < 2 ^ 31 by omega)) ⟨hin, vp_in_nI (by omega) (by decide), ?_⟩
        have eb' : (oI (some b)).toNatClampNeg = b := eb
        rw [eb']
        by_cases z : st 30 b ≤ st 30 k
        · rw [if_neg (fun w => Int32.not_lt.mpr z w.2)] at ih
          refine b_t z (fun y e => ?_)
          rw [nI_1] at e
          subst e
          exact ih
        · rw [if_pos ⟨g, Int32.not_le.mp z⟩] at ih
          refine b_f z (fun y e => ?_)
          rw [nI_1] at e
          subst e
          exact ih
    · rw [if_neg g]
      rw [pick_skip g] at ih
      refine b_t rfl (fun y e => ?_)
      rw [nI_1] at e
      subst e
      exact ih
def tSame (st st' : tSt) : Prop := ∀ κ, κ ≠ 29 → κ ≠ 30 → st' κ = st κ
theorem tSame_fit {st st' : tSt} (h : tSame st st') : fitS st' = fitS st := by
  funext c t
  have e : fc st' c = fc st c := by
    unfold fc
    by_cases z : c < 6
    · rw [if_pos z, if_pos z, h _ (by omega) (by omega)]
    · rw [if_neg z, if_neg z]
  unfold fitS
  rw [e, h 20 (by decide) (by decide), h 21 (by decide) (by decide), h 2 (by decide) (by decide)]
theorem c_choose33 {st0 : tSt} {res : List Nat} {Dd : Nat} {post : tSt → Prop} (h2 : st0 2 0 = nI Dd) (hDd : Dd ≤ 9999) (h6 : res.length ≤ 6) (hnd : res.Nodup) (hok : ∀ c, c ∈ res → c < 6 ∧ rCallOK (st0 (14 + c))) (h25 : st0 25 0 = nI res.length) (h28 : ∀ j, j < res.length → st0 28 j = nI (lAt res j)) :
    ∀ (rem pre : List Nat) (st : tSt), res = pre ++ rem → tSame st0 st → (∀ st' : tSt, tSame st0 st' → (∀ c, c ∈ rem → st' 29 c = oI (tch (fitS st0) (6 * Dd) rem pre.length (st 30) c)) → (∀ c, ¬ c ∈ rem → st' 29 c = st 29 c) → st' 30 = tfin (fitS st0) (6 * Dd) rem pre.length (st 30) → post st') → wp_Plan_chooseTunes_33 post (rem.length + 1) (nI (Dd / 30 % 12)) (nI (6 * Dd)) (nI pre.length) st
  | [], pre, st, hr, hS, hQ => by
    refine b_t (by rw [hS 25 (by decide) (by decide), h25, hr, List.append_nil]; exact Int32.le_refl _) (hQ st hS (fun c hc => by cases hc) (fun _ _ => rfl) rfl)
  | c :: rem, pre, st, hr, hS, hQ => by
    have hl : pre.length + (rem.length + 1) = res.length := by rw [hr, List.length_append, List.length_cons]
    have hcm : c ∈ res := by rw [hr]; simp
    obtain ⟨hc, hco⟩ := hok c hcm
    obtain ⟨oc1, oc2⟩ := occ_ok hco
    have hnr : ¬ c ∈ rem := by
      rw [hr] at hnd
      exact (List.nodup_cons.mp (List.pairwise_append.mp hnd).2.1).1
    have e28 : st 28 pre.length = nI c := by rw [hS 28 (by decide) (by decide), h28 pre.length (by omega), hr, lAt_end]
    have ec := n_cl (show c < 2 ^ 31 by omega)
    have hinc : vp_in (nI c) 6 := vp_in_nI hc (by decide)
    refine b_f (by rw [hS 25 (by decide) (by decide), h25]; exact nI_ge (by omega) (by omega)) ⟨vp_in_nI (by omega) (by decide), fun y6 e6 => ?_⟩
    rw [n_cl (show pre.length < 2 ^ 31 by omega), e28] at e6
    subst e6
    refine ⟨hinc, ?_⟩
    rw [ec]
    refine c_fact (k := 4) (by decide) ?_
    have e4 : st (14 + c) 4 = nI (st0 (14 + c) 4).toNatClampNeg := by rw [hS _ (show 14 + c ≠ 29 by omega) (by omega)]; exact oc2
    rw [e4]
    have mo12 : Dd / 30 % 12 < 12 := Nat.mod_lt _ (by decide)
    refine ⟨11, c_longL (by omega) (by omega) ?_ 10 0 rfl⟩
    have ef : (fun t => bt (st 20 t) (st0 (14 + c) 4).toNatClampNeg && bt (st 21 t) (Dd / 30 % 12)) = fitS st0 c := by
      funext t
      unfold fitS
      rw [fc_at hc, hS 20 (by decide) (by decide), hS 21 (by decide) (by decide), h2, n_cl (by omega)]
    rw [ef]
    refine ⟨hinc, fun s6 e6 => ?_⟩
    have s6o : ∀ κ, κ ≠ 29 → s6 κ = st κ := fun κ hκ => by rw [e6, tUp_ne _ _ _ hκ]
    have s629 : ∀ d, s6 29 d = if d = c then oI (pick (fitS st0 c) (st 30) 10) else st 29 d := fun d => by
      rw [e6]
      by_cases z : d = c <;> simp [tUp_ap, z]
    have go : ∀ s' : tSt, tSame st0 s' → s' 29 = s6 29 → s' 30 = appO (st 30) (pick (fitS st0 c) (st 30) 10) (nI (6 * Dd + pre.length)) → wp_Plan_chooseTunes_94 post (wp_Plan_chooseTunes_33 post (rem.length + 1)) (nI (Dd / 30 % 12)) (nI (6 * Dd)) (nI pre.length) s' := by
      intro s' hS' q29 q30 y e
      rw [nI_1] at e
      subst e
      have this : wp_Plan_chooseTunes_33 post (rem.length + 1) (nI (Dd / 30 % 12)) (nI (6 * Dd)) (nI (pre ++ [c]).length) s' := by
        refine c_choose33 h2 hDd h6 hnd hok h25 h28 rem (pre ++ [c]) s' (by rw [hr]; simp) hS' (fun st' b1 b2 b3 b4 => ?_)
        rw [List.length_append] at b2 b4
        refine hQ st' b1 (fun d hd => ?_) (fun d hd => ?_) ?_
        · by_cases z : d = c
          · rw [z, b3 c hnr, q29, s629, if_pos rfl]
            show _ = oI (if c = c then _ else _)
            rw [if_pos rfl]
          · have hdr : d ∈ rem := (List.mem_cons.mp hd).elim (fun e => absurd e z) id
            rw [b2 d hdr, q30]
            show _ = oI (if d = c then _ else _)
            rw [if_neg z]
            rfl
        · have z : ¬ d = c := fun e => hd (by rw [e]; exact List.mem_cons_self)
          rw [b3 d (fun w => hd (List.mem_cons_of_mem c w)), q29, s629, if_neg z]
        · rw [b4, q30]
          rfl
      rw [List.length_append] at this
      exact this
    cases hp : pick (fitS st0 c) (st 30) 10 with
    | none =>
      rw [hp] at go
      refine b_t rfl (go s6 (fun κ k1 k2 => by rw [s6o κ k1]; exact hS κ k1 k2) rfl (s6o 30 (by decide)))
    | some t =>
      rw [hp] at go
      have ht := (pick_some 10 hp).1
      refine b_f (n_m1_ne (show t < 2 ^ 31 by omega)) ⟨vp_in_nI ht (by decide), fun s7 e7 => ?_⟩
      have et : (oI (some t)).toNatClampNeg = t := n_cl (show t < 2 ^ 31 by omega)
      rw [et, nI_add] at e7
      refine go s7 (fun κ k1 k2 => by rw [e7, tUp_ne _ _ _ k2, s6o κ k1]; exact hS κ k1 k2) (by rw [e7, tUp_ne _ _ _ (by decide)]) ?_
      rw [e7, tUp_self, s6o 30 (by decide)]
      rfl
theorem c_choose3 {st0 : tSt} {post : tSt → Prop} {x3 x4 : Int32} {k30 : Int32 → Int32 → tSt → Prop} (hK : ∀ st : tSt, (∀ κ, κ ≠ 30 → st κ = st0 κ) → (∀ t, t < 10 → st 30 t = st0 22 t) → k30 x3 x4 st) : ∀ (m k : Nat) (st : tSt), k + m = 10 → (∀ κ, κ ≠ 30 → st κ = st0 κ) → (∀ t, t < k → st 30 t = st0 22 t) → wp_Plan_chooseTunes_3 post k30 (m + 1) x3 x4 (nI k) st
  | 0, k, st, hk, a1, a2 => by
    have e : k = 10 := by omega
    subst e
    exact b_t (by decide) (hK st a1 a2)
  | m + 1, k, st, hk, a1, a2 => by
    have hin : vp_in (nI k) 10 := vp_in_nI (by omega) (by decide)
    refine b_f (nI_ge (a := k) (b := 10) (by omega) (by decide)) ⟨hin, hin, fun s1 e1 y e => ?_⟩
    rw [n_cl (show k < 2 ^ 31 by omega), a1 22 (by decide)] at e1
    rw [nI_1] at e
    subst e
    refine c_choose3 hK m (k + 1) s1 (by omega) (fun κ hκ => by rw [e1, tUp_ne _ _ _ hκ]; exact a1 κ hκ) (fun t ht => ?_)
    rw [e1]
    by_cases z : t = k
    · simp [tUp_ap, z]
    · simp only [tUp_ap, z, and_false, if_false]
      exact a2 t (by omega)
/-- what a plan holds of its tunes -/
def PTk (st : tSt) (res : List Nat) (v0 : Nat → Int32) : Prop := (∀ t, t < 10 → v0 t = st 22 t) ∧ (∀ c, c ∈ res → st 29 c = oI (tch (fitS st) (6 * (st 2 0).toNatClampNeg) res 0 v0 c)) ∧ st 30 = tfin (fitS st) (6 * (st 2 0).toNatClampNeg) res 0 v0
theorem c_chooseTunes {st : tSt} {res : List Nat} {Dd : Nat} {post : tSt → Prop} (h2 : st 2 0 = nI Dd) (hDd : Dd ≤ 9999) (h6 : res.length ≤ 6) (hnd : res.Nodup) (hok : ∀ c, c ∈ res → c < 6 ∧ rCallOK (st (14 + c))) (h25 : st 25 0 = nI res.length) (h28 : ∀ j, j < res.length → st 28 j = nI (lAt res j)) (hQ : ∀ (st' : tSt) (v0 : Nat → Int32), tSame st st' → PTk st' res v0 → post st') : wp_Plan_chooseTunes (nI (Dd / 30 % 12)) (nI (6 * Dd)) st post := by
  refine ⟨11, c_choose3 (fun s1 a1 a2 => ?_) 10 0 st rfl (fun _ _ => rfl) (fun t ht => absurd ht (by omega))⟩
  have t1 : tSame st s1 := fun κ _ k2 => a1 κ k2
  have ef := tSame_fit t1
  refine ⟨res.length + 1, c_choose33 (st0 := s1) (by rw [a1 2 (by decide)]; exact h2) hDd h6 hnd (fun c hc => by rw [a1 _ (show 14 + c ≠ 30 by have := (hok c hc).1; omega)]; exact hok c hc) (by rw [a1 25 (by decide)]; exact h25) (fun j hj => by rw [a1 28 (by decide)]; exact h28 j hj) res [] s1 rfl (fun _ _ _ => rfl) (fun st' b1 b2 b3 b4 => ?_)⟩
  have t2 : tSame st st' := fun κ k1 k2 => by rw [b1 κ k1 k2]; exact a1 κ k2
  have e2 : (st' 2 0).toNatClampNeg = Dd := by rw [t2 2 (by decide) (by decide), h2]; exact n_cl (by omega)
  refine hQ st' (s1 30) t2 ⟨fun t ht => by rw [a2 t ht, t2 22 (by decide) (by decide)], ?_, ?_⟩
  · rw [e2, tSame_fit b1]
    exact b2
  · rw [e2, tSame_fit b1]
    exact b4
