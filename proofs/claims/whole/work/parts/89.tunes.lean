/-! tunes: the class -/
def pick (fit : Nat → Bool) (v : Nat → Int32) : Nat → Option Nat
  | 0 => none
  | k + 1 => match pick fit v k with
    | none => if fit k = true then some k else none
    | some b => if fit k = true ∧ v k < v b then some k else some b
def oI : Option Nat → Int32
  | none => -1
  | some t => nI t
theorem pick_some {fit : Nat → Bool} {v : Nat → Int32} : ∀ (k : Nat) {t : Nat}, pick fit v k = some t → t < k ∧ fit t = true
  | 0, t, h => by cases h
  | k + 1, t, h => by
    unfold pick at h
    cases hp : pick fit v k with
    | none =>
      simp only [hp] at h
      by_cases z : fit k = true
      · rw [if_pos z] at h
        cases h
        exact ⟨by omega, z⟩
      · rw [if_neg z] at h; cases h
    | some b =>
      simp only [hp] at h
      have ih := pick_some k hp
      by_cases z : fit k = true ∧ v k < v b
      · rw [if_pos z] at h
        cases h
        exact ⟨by omega, z.1⟩
      · rw [if_neg z] at h
        cases h
        exact ⟨by omega, ih.2⟩
theorem pick_none {fit : Nat → Bool} {v : Nat → Int32} {k : Nat} (h : pick fit v k = none) : pick fit v (k + 1) = if fit k = true then some k else none := by
  show (match pick fit v k with | none => _ | some b => _) = _
  rw [h]
theorem pick_step {fit : Nat → Bool} {v : Nat → Int32} {k b : Nat} (h : pick fit v k = some b) : pick fit v (k + 1) = if fit k = true ∧ v k < v b then some k else some b := by
  show (match pick fit v k with | none => _ | some b => _) = _
  rw [h]
theorem pick_skip {fit : Nat → Bool} {v : Nat → Int32} {k : Nat} (h : ¬ fit k = true) : pick fit v (k + 1) = pick fit v k := by
  cases hp : pick fit v k with
  | none => rw [pick_none hp, if_neg h]
  | some b => rw [pick_step hp, if_neg (fun z => h z.1)]
theorem pick_congr {fit fit' : Nat → Bool} {v v' : Nat → Int32} : ∀ k, (∀ i, i < k → fit' i = fit i) → (∀ i j, i < k → j < k → (v' i < v' j ↔ v i < v j)) → pick fit' v' k = pick fit v k
  | 0, _, _ => rfl
  | k + 1, h1, h2 => by
    have ih := pick_congr (fit := fit) (fit' := fit') (v := v) (v' := v') k (fun i hi => h1 i (by omega)) (fun i j hi hj => h2 i j (by omega) (by omega))
    cases hp : pick fit v k with
    | none =>
      rw [hp] at ih
      rw [pick_none hp, pick_none ih, h1 k (by omega)]
    | some b =>
      rw [hp] at ih
      have hb := (pick_some k hp).1
      rw [pick_step hp, pick_step ih, h1 k (by omega)]
      have := h2 k b (by omega) (by omega)
      by_cases z : fit k = true ∧ v k < v b
      · rw [if_pos z, if_pos ⟨z.1, this.mpr z.2⟩]
      · rw [if_neg z, if_neg (fun w => z ⟨w.1, this.mp w.2⟩)]
theorem pick_T {fit : Nat → Bool} {v : Nat → Int32} {T : Nat} : ∀ m, (∀ i, T ≤ i → i < T + m → ¬ fit i = true) → pick fit v (T + m) = pick fit v T
  | 0, _ => rfl
  | m + 1, h => by
    show pick fit v (T + m + 1) = _
    rw [pick_skip (h (T + m) (by omega) (by omega)), pick_T m (fun i h1 h2 => h i h1 (by omega))]
def appO (v : Nat → Int32) (o : Option Nat) (x : Int32) : Nat → Int32 := match o with
  | none => v
  | some t => upd v t x
def tch (fit : Nat → Nat → Bool) (D6 : Nat) : List Nat → Nat → (Nat → Int32) → Nat → Option Nat
  | [], _, _, _ => none
  | c :: l, k, v, d => if d = c then pick (fit c) v 10 else tch fit D6 l (k + 1) (appO v (pick (fit c) v 10) (nI (D6 + k))) d
def tfin (fit : Nat → Nat → Bool) (D6 : Nat) : List Nat → Nat → (Nat → Int32) → Nat → Int32
  | [], _, v => v
  | c :: l, k, v => tfin fit D6 l (k + 1) (appO v (pick (fit c) v 10) (nI (D6 + k)))
def fitS (s : tSt) (c t : Nat) : Bool := bt (s 20 t) (fc s c 4).toNatClampNeg && bt (s 21 t) ((s 2 0).toNatClampNeg / 30 % 12)
theorem occ_ok {f : Nat → Int32} (h : rCallOK f) : (f 4).toNatClampNeg ≤ 5 ∧ f 4 = nI (f 4).toNatClampNeg := by
  obtain ⟨o, fr, le, pl, oc, on, fe, h1, h2, h3, h4, h5, h6, h7, h8, e0, e1, e2, e3, e4, e5, e6, e7⟩ := h
  rw [e4, n_cl (by omega)]
  exact ⟨h6, rfl⟩
theorem c_fits {st : tSt} {t oc mo : Nat} {post : Int32 → tSt → Prop} (ho : oc < 32) (hm : mo < 32) (h : post (if (bt (st 20 t) oc && bt (st 21 t) mo) = true then 1 else 0) st) : wp_Tune_fits t (nI oc) (nI mo) st post := by
  refine c_has ho ?_
  by_cases g : bt (st 20 t) oc = true
  · rw [if_pos g]
    rw [g, Bool.true_and] at h
    refine b_f (by decide) (c_has hm ?_)
    by_cases g2 : bt (st 21 t) mo = true
    · rw [if_pos g2] at h ⊢
      exact b_f (by decide) h
    · rw [if_neg g2] at h ⊢
      exact b_t rfl h
  · rw [if_neg g]
    have : bt (st 20 t) oc = false := by cases hb : bt (st 20 t) oc with | true => exact absurd hb g | false => rfl
    rw [this, Bool.false_and] at h
    exact b_t rfl h
theorem c_longL {st : tSt} {oc mo : Nat} {post : Int32 → tSt → Prop} (ho : oc < 32) (hm : mo < 32) (h : post (oI (pick (fun t => bt (st 20 t) oc && bt (st 21 t) mo) (st 30) 10)) st) : ∀ m k : Nat, k + m = 10 → wp_Plan_longestUnheard_6 post (m + 1) (nI oc) (nI mo) (oI (pick (fun t => bt (st 20 t) oc && bt (st 21 t) mo) (st 30) k)) (nI k) st
  | 0, k, hk => by
    have e : k = 10 := by omega
    subst e
    exact b_t (by decide) h
  | m + 1, k, hk => by
    have ih := c_longL (post := post) ho hm h m (k + 1) (by omega)
    have hin : vp_in (nI k) 10 := vp_in_nI (by omega) (by decide)
    have ek := n_cl (show k < 2 ^ 31 by omega)
    refine b_f (nI_ge (a := k) (b := 10) (by omega) (by decide)) ⟨hin, ?_⟩
    rw [ek]
    refine c_fits ho hm ?_
    by_cases g : (bt (st 20 k) oc && bt (st 21 k) mo) = true
    · rw [if_pos g]
      refine b_f (by decide) ?_
      cases hp : pick (fun t => bt (st 20 t) oc && bt (st 21 t) mo) (st 30) k with
      | none =>
        rw [pick_none hp, if_pos g] at ih
        refine b_t rfl (fun y e => ?_)
        rw [nI_1] at e
        subst e
        exact ih
      | some b =>
        have hb := (pick_some k hp).1
        have eb := n_cl (show b < 2 ^ 31 by omega)
        rw [pick_step hp] at ih
        refine b_f (n_m1_ne (show b < 2 ^ 31 by omega)) ⟨hin, vp_in_nI (by omega) (by decide), ?_⟩
        have eb' : (oI (some b)).toNatClampNeg = b := eb
        rw [eb']
        by_cases z : st 30 b ≤ st 30 k
        · rw [if_neg (fun w => Int32.not_lt.mpr z w.2)] at ih
          refine b_t z (fun y e => ?_)
          rw [nI_1] at e
          subst e
          exact ih
        · rw [if_pos ⟨g, Int32.not_le.mp z⟩] at ih
          refine b_f z (fun y e => ?_)
          rw [nI_1] at e
          subst e
          exact ih
    · rw [if_neg g]
      rw [pick_skip g] at ih
      refine b_t rfl (fun y e => ?_)
      rw [nI_1] at e
      subst e
      exact ih
def tSame (st st' : tSt) : Prop := ∀ κ, κ ≠ 29 → κ ≠ 30 → st' κ = st κ
theorem tSame_fit {st st' : tSt} (h : tSame st st') : fitS st' = fitS st := by
  funext c t
  have e : fc st' c = fc st c := by
    unfold fc
    by_cases z : c < 6
    · rw [if_pos z, if_pos z, h _ (by omega) (by omega)]
    · rw [if_neg z, if_neg z]
  unfold fitS
  rw [e, h 20 (by decide) (by decide), h 21 (by decide) (by decide), h 2 (by decide) (by decide)]
theorem c_choose3 {st0 : tSt} {post : tSt → Prop} {x3 x4 : Int32} {k30 : Int32 → Int32 → tSt → Prop} (hK : ∀ st : tSt, (∀ κ, κ ≠ 30 → st κ = st0 κ) → (∀ t, t < 10 → st 30 t = st0 22 t) → k30 x3 x4 st) : ∀ (m k : Nat) (st : tSt), k + m = 10 → (∀ κ, κ ≠ 30 → st κ = st0 κ) → (∀ t, t < k → st 30 t = st0 22 t) → wp_Plan_chooseTunes_3 post k30 (m + 1) x3 x4 (nI k) st
  | 0, k, st, hk, a1, a2 => by
    have e : k = 10 := by omega
    subst e
    exact b_t (by decide) (hK st a1 a2)
  | m + 1, k, st, hk, a1, a2 => by
    have hin : vp_in (nI k) 10 := vp_in_nI (by omega) (by decide)
    refine b_f (nI_ge (a := k) (b := 10) (by omega) (by decide)) ⟨hin, hin, fun s1 e1 y e => ?_⟩
    rw [n_cl (show k < 2 ^ 31 by omega), a1 22 (by decide)] at e1
    rw [nI_1] at e
    subst e
    refine c_choose3 hK m (k + 1) s1 (by omega) (fun κ hκ => by rw [e1, tUp_ne _ _ _ hκ]; exact a1 κ hκ) (fun t ht => ?_)
    rw [e1]
    by_cases z : t = k
    · simp [tUp_ap, z]
    · simp only [tUp_ap, z, and_false, if_false]
      exact a2 t (by omega)
/-- what a plan holds of its tunes -/
def PTk (st : tSt) (res : List Nat) (v0 : Nat → Int32) : Prop := (∀ t, t < 10 → v0 t = st 22 t) ∧ (∀ c, c ∈ res → st 29 c = oI (tch (fitS st) (6 * (st 2 0).toNatClampNeg) res 0 v0 c)) ∧ st 30 = tfin (fitS st) (6 * (st 2 0).toNatClampNeg) res 0 v0
