/-! tunes: the reference's round over the calls -/
theorem OI_congr {T K N : Nat} {v u d v' u' d' : Nat → Int32} (h : OI T K N v u d) (hv : ∀ i, i < T → v' i = v i) (hu : ∀ i, i < T → u' i = u i) (hd : ∀ i, i < T → d' i = d i) : OI T K N v' u' d' := by
  obtain ⟨h1, h2, h3⟩ := h
  refine ⟨h1, fun i hi => ?_, fun i j hi hj => ?_⟩
  · rw [hv i hi, hu i hi, hd i hi]
    exact h2 i hi
  · rw [hv i hi, hu i hi, hv j hj, hu j hj]
    exact h3 i j hi hj
theorem rH_OI {s t : tSt} {T Dd : Nat} (h : rHeard s t T Dd) : ∃ N : Nat, t 5 0 = nI N ∧ OI T (6 * Dd) N (s 22) (t 21) (t 20) := by
  obtain ⟨-, -, -, ⟨N, n1, n2, n3⟩, h5⟩ := h
  exact ⟨N, n2, n1, n3, h5⟩
def accOf (res pre : List Nat) : List Nat := pre.filter (fun c => decide (c ∈ res))
theorem acc_in {res pre : List Nat} {c : Nat} (h : c ∈ res) : accOf res (pre ++ [c]) = accOf res pre ++ [c] := by
  unfold accOf
  rw [List.filter_append, List.filter_cons, if_pos (decide_eq_true h), List.filter_nil]
theorem acc_out {res pre : List Nat} {c : Nat} (h : ¬ c ∈ res) : accOf res (pre ++ [c]) = accOf res pre := by
  unfold accOf
  rw [List.filter_append, List.filter_cons, if_neg (fun e => h (of_decide_eq_true e)), List.filter_nil, List.append_nil]
theorem acc_split {res pre rem : List Nat} {c : Nat} (hr : accOf res (pre ++ c :: rem) = res) (h : c ∈ res) : res = accOf res pre ++ c :: accOf res rem := by
  have : accOf res (pre ++ c :: rem) = accOf res pre ++ c :: accOf res rem := by
    unfold accOf
    rw [List.filter_append, List.filter_cons, if_pos (decide_eq_true h)]
  rw [← this]
  exact hr.symm
theorem acc_len (res pre : List Nat) : (accOf res pre).length ≤ pre.length := List.length_filter_le _ _
theorem acc_nin {res pre : List Nat} {c : Nat} (h : ¬ c ∈ pre) : ¬ c ∈ accOf res pre := fun z => h (List.mem_filter.mp z).1
/-- what the reference's tunes rest on -/
def TC (D : Dt) (s st0 : tSt) (T Dd : Nat) (res : List Nat) : Prop := T ≤ 10 ∧ st0 3 0 = nI T ∧ st0 1 0 = nI Dd ∧ Dd ≤ 9999 ∧ (∀ c, c ∈ row D → ∃ oc : Nat, oc < 32 ∧ st0 17 (8 * c + 4) = nI oc ∧ ∀ i, i < T → fitS s c i = (bt (st0 18 i) oc && bt (st0 19 i) (Dd / 30 % 12))) ∧ (∀ c i, T ≤ i → i < 10 → ¬ fitS s c i = true) ∧ accOf res (row D) = res
theorem m_tu40 {D : Dt} {s st0 : tSt} {T Dd : Nat} {res : List Nat} {v0 : Nat → Int32} {x1 : Int32} {post : tSt → Prop} (hC : TC D s st0 T Dd res) (h6 : st0 6 0 = nI (row D).length) (h22 : ∀ j, j < (row D).length → st0 22 j = nI (lAt (row D) j)) (hx : ∀ k, k < 32 → (inB x1 k ↔ k ∈ res))
    (hQ : ∀ st : tSt, (∀ κ, κ ≠ 27 → κ ≠ 28 → st κ = st0 κ) → (∀ c, c ∈ row D → st 27 c = if c ∈ res then oI (tch (fitS s) (6 * Dd) res 0 v0 c) else -1) → post st) :
    ∀ (rem pre : List Nat) (st : tSt) (N : Nat) (d : Nat → Int32), row D = pre ++ rem → (∀ κ, κ ≠ 27 → κ ≠ 28 → st κ = st0 κ) → OI T (6 * Dd + (accOf res pre).length) N (tfin (fitS s) (6 * Dd) (accOf res pre) 0 v0) (st 28) d → (∀ c, c ∈ pre → st 27 c = if c ∈ res then oI (tch (fitS s) (6 * Dd) res 0 v0 c) else -1) → wp_M_tunesOf_40 post (rem.length + 1) x1 (nI N) (nI pre.length) st
  | [], pre, st, N, d, hr, hs, hO, h27 => by
    have e : row D = pre := by rw [hr, List.append_nil]
    exact b_t (by rw [hs 6 (by decide) (by decide), h6, e]; exact Int32.le_refl _) (hQ st hs (by rw [e]; exact h27))
  | c :: rem, pre, st, N, d, hr, hs, hO, h27 => by
    obtain ⟨c1, c2, c3, c4, c5, c6, c7⟩ := id hC
    have hl : pre.length + (rem.length + 1) = (row D).length := by rw [hr, List.length_append, List.length_cons]
    have hl6 := row_len D
    have hcR : c ∈ row D := by rw [hr]; simp
    have hc := (row_mem hcR).1
    have hn := row_nodup D
    rw [hr] at hn
    have hcp : ¬ c ∈ pre := fun z => (List.pairwise_append.mp hn).2.2 c z c List.mem_cons_self rfl
    have ec := n_cl (show c < 2 ^ 31 by omega)
    have e22 : st 22 pre.length = nI c := by rw [hs 22 (by decide) (by decide), h22 pre.length (by omega), hr, lAt_end]
    have hinc : vp_in (nI c) 6 := vp_in_nI hc (by decide)
    have hr' : row D = (pre ++ [c]) ++ rem := by rw [hr]; simp
    have al := acc_len res pre
    refine b_f (by rw [hs 6 (by decide) (by decide), h6]; exact nI_ge (by omega) (by omega)) ⟨vp_in_nI (by omega) (by decide), fun y4 e4 => ?_⟩
    rw [n_cl (show pre.length < 2 ^ 31 by omega), e22] at e4
    subst e4
    refine ⟨hinc, fun s2 e2 => m_has (by omega) ?_⟩
    rw [ec] at e2
    have s2o : ∀ κ, κ ≠ 27 → s2 κ = st κ := fun κ hκ => by rw [e2, tUp_ne _ _ _ hκ]
    have s227 : s2 27 = upd (st 27) c (-1) := by rw [e2, tUp_self]
    have nxt : ∀ (s' : tSt) (N' : Nat) (d' : Nat → Int32), (∀ κ, κ ≠ 27 → κ ≠ 28 → s' κ = st0 κ) → OI T (6 * Dd + (accOf res (pre ++ [c])).length) N' (tfin (fitS s) (6 * Dd) (accOf res (pre ++ [c])) 0 v0) (s' 28) d' → (∀ d, d ≠ c → s' 27 d = st 27 d) → (s' 27 c = if c ∈ res then oI (tch (fitS s) (6 * Dd) res 0 v0 c) else -1) → wp_M_tunesOf_206 post (wp_M_tunesOf_40 post (rem.length + 1)) x1 (nI N') (nI pre.length) s' := by
      intro s' N' d' k1 k2 k3 k4 y e
      rw [nI_1] at e
      subst e
      have := m_tu40 (post := post) (v0 := v0) hC h6 h22 hx hQ rem (pre ++ [c]) s' N' d' hr' k1 k2 (fun d hd => by
        rcases List.mem_append.mp hd with z | z
        · rw [k3 d (fun e => hcp (by rw [← e]; exact z))]
          exact h27 d z
        · rw [List.mem_singleton.mp z]
          exact k4)
      rw [List.length_append] at this
      exact this
    by_cases g : c ∈ res
    · have gb : bt x1 c = true := (hx c (by omega)).mpr g
      rw [if_pos gb]
      have spl := acc_split (by rw [← hr]; exact c7) g
      have ech : tch (fitS s) (6 * Dd) res 0 v0 c = pick (fitS s c) (tfin (fitS s) (6 * Dd) (accOf res pre) 0 v0) 10 := by
        have := tch_at (fit := fitS s) (D6 := 6 * Dd) (c := c) (r := accOf res rem) (accOf res pre) 0 v0 (acc_nin hcp)
        rw [← spl] at this
        exact this
      have ep : pick (fitS s c) (s2 28) T = pick (fitS s c) (tfin (fitS s) (6 * Dd) (accOf res pre) 0 v0) 10 := by
        rw [s2o 28 (by decide), OI_pick hO, pick_lt c1 (c6 c)]
      obtain ⟨oc, o1, o2, o3⟩ := c5 c hcR
      have q := fun κ (h1 : κ ≠ 27) (h2 : κ ≠ 28) => (s2o κ h1).trans (hs κ h1 h2)
      refine b_f (by decide) ⟨T + 1, m_tu79 (st := s2) (T := T) (Dd := Dd) (oc := oc) (fit := fitS s c) c1 (by rw [q 3 (by decide) (by decide)]; exact c2) (by rw [q 1 (by decide) (by decide)]; exact c3) c4 hc o1 (by rw [q 17 (by decide) (by decide)]; exact o2) (fun i hi => by rw [q 18 (by decide) (by decide), q 19 (by decide) (by decide)]; exact o3 i hi) (fun s' k1 k2 => ?_) T 0 s2 (by omega) (fun _ _ => rfl) ?_⟩
      · rw [ep] at k2
        have s'27c : s' 27 c = oI (pick (fitS s c) (tfin (fitS s) (6 * Dd) (accOf res pre) 0 v0) 10) := by rw [k2, upd_ap, if_pos rfl]
        have s'27d : ∀ d, d ≠ c → s' 27 d = st 27 d := fun d hd => by rw [k2, upd_ap, if_neg hd, s227, upd_ap, if_neg hd]
        have s'o : ∀ κ, κ ≠ 27 → κ ≠ 28 → s' κ = st0 κ := fun κ h1 h2 => (k1 κ h1).trans (q κ h1 h2)
        have s'28 : s' 28 = st 28 := (k1 28 (by decide)).trans (s2o 28 (by decide))
        refine ⟨hinc, ?_⟩
        rw [ec, s'27c]
        have fin := tfin_snoc (fit := fitS s) (D6 := 6 * Dd) (c := c) (accOf res pre) 0 v0
        rw [← acc_in g, Nat.zero_add] at fin
        have ln : (accOf res (pre ++ [c])).length = (accOf res pre).length + 1 := by rw [acc_in g, List.length_append]; rfl
        cases hp : pick (fitS s c) (tfin (fitS s) (6 * Dd) (accOf res pre) 0 v0) 10 with
        | none =>
          rw [hp] at fin ech s'27c
          refine b_t rfl (nxt s' N d s'o ?_ s'27d (by rw [s'27c, if_pos g, ech]))
          rw [fin, ln, s'28]
          exact OI_up hO (by omega)
        | some t =>
          have hpT := hp
          rw [pick_lt c1 (c6 c)] at hpT
          have ht := (pick_some T hpT).1
          rw [hp] at fin ech s'27c
          have et : (oI (some t)).toNatClampNeg = t := n_cl (show t < 2 ^ 31 by omega)
          refine b_f (n_m1_ne (show t < 2 ^ 31 by omega)) (fun y2 e2 => ⟨hinc, vp_in_nI (by omega) (by decide), fun s3 e3 => ?_⟩)
          rw [nI_1] at e2
          subst e2
          rw [et] at e3
          have s3o : ∀ κ, κ ≠ 28 → s3 κ = s' κ := fun κ hκ => by rw [e3, tUp_ne _ _ _ hκ]
          refine nxt s3 (N + 1) (upd d t (nI ((6 * Dd + (accOf res pre).length) / 6))) (fun κ h1 h2 => (s3o κ h2).trans (s'o κ h1 h2)) ?_ (fun d hd => by rw [s3o 27 (by decide)]; exact s'27d d hd) (by rw [s3o 27 (by decide), s'27c, if_pos g, ech])
          have := OI_step hO (by omega) ht
          rw [fin, ln, e3, tUp_self, s'28]
          exact this
      · funext i
        rw [upd_ap]
        by_cases w : i = c
        · rw [if_pos w, s227, upd_ap, if_pos w]; rfl
        · rw [if_neg w]
    · have gb : ¬ bt x1 c = true := fun z => g ((hx c (by omega)).mp z)
      rw [if_neg gb]
      refine b_t rfl (nxt s2 N d (fun κ h1 h2 => (s2o κ h1).trans (hs κ h1 h2)) ?_ (fun d hd => by rw [s227, upd_ap, if_neg hd]) (by rw [s227, upd_ap, if_pos rfl, if_neg g]))
      rw [acc_out g, s2o 28 (by decide)]
      exact hO
theorem m_tu12 {st0 : tSt} {T : Nat} {x1 x2 : Int32} {post : tSt → Prop} {k38 : Int32 → Int32 → tSt → Prop} (hT : T ≤ 10) (h3 : st0 3 0 = nI T) (hK : ∀ st : tSt, (∀ κ, κ ≠ 28 → st κ = st0 κ) → (∀ i, i < T → st 28 i = st0 21 i) → k38 x1 x2 st) : ∀ (m k : Nat) (st : tSt), k + m = T → (∀ κ, κ ≠ 28 → st κ = st0 κ) → (∀ i, i < k → st 28 i = st0 21 i) → wp_M_tunesOf_12 post k38 (m + 1) x1 x2 (nI k) st
  | 0, k, st, hk, a1, a2 => by
    have e : k = T := by omega
    subst e
    exact b_t (by rw [a1 3 (by decide), h3]; exact Int32.le_refl _) (hK st a1 a2)
  | m + 1, k, st, hk, a1, a2 => by
    have hin : vp_in (nI k) 10 := vp_in_nI (by omega) (by decide)
    refine b_f (by rw [a1 3 (by decide), h3]; exact nI_ge (by omega) (by omega)) ⟨hin, hin, fun s1 e1 y e => ?_⟩
    rw [n_cl (show k < 2 ^ 31 by omega), a1 21 (by decide)] at e1
    rw [nI_1] at e
    subst e
    refine m_tu12 hT h3 hK m (k + 1) s1 (by omega) (fun κ hκ => by rw [e1, tUp_ne _ _ _ hκ]; exact a1 κ hκ) (fun i hi => ?_)
    rw [e1, tUp_self, upd_ap]
    by_cases z : i = k
    · rw [if_pos z, z]
    · rw [if_neg z]
      exact a2 i (by omega)
def uSame (t t' : tSt) : Prop := ∀ κ, κ ≠ 6 → κ ≠ 7 → κ ≠ 8 → κ ≠ 22 → κ ≠ 23 → κ ≠ 24 → κ ≠ 25 → κ ≠ 26 → κ ≠ 27 → κ ≠ 28 → t' κ = t κ
theorem MWk_same {D : Dt} {t t' : tSt} {res : List Nat} {g : Nat → Nat} (h : MWk D t res g) (h6 : t' 6 = t 6) (h7 : t' 7 = t 7) (h8 : t' 8 = t 8) (h22 : t' 22 = t 22) (h23 : t' 23 = t 23) (h24 : t' 24 = t 24) (h25 : t' 25 = t 25) : MWk D t' res g := by
  unfold MWk MP at h ⊢
  rw [h6, h7, h8, h22, h23, h24, h25]
  exact h
theorem MWk_acc {D : Dt} {t : tSt} {res : List Nat} {g : Nat → Nat} (h : MWk D t res g) : accOf res (row D) = res := by
  have := Gr_filter (row D) [] (by rw [List.nil_append]; exact row_nodup D) h.1
  rw [List.nil_append] at this
  exact this.symm
theorem rB_TC {s t t' : tSt} {T Dd : Nat} {res : List Nat} {P : Nat} (hM : MD (dt s) t P) (hu : rTunes s t T) (hh : rHeard s t T Dd) (h1 : t' 1 = t 1) (h3 : t' 3 = t 3) (h17 : t' 17 = t 17) (h18 : t' 18 = t 18) (h19 : t' 19 = t 19) (ha : accOf res (row (dt s)) = res) : TC (dt s) s t' T Dd res := by
  refine ⟨hu.1, by rw [h3]; exact hu.2.2.1, by rw [h1]; exact hh.2.2.1, hh.1, fun c hc => ?_, fun c => fit_no hu c, ha⟩
  obtain ⟨hc6, hc1⟩ := row_mem hc
  obtain ⟨m1, m2⟩ := MD_call hM hc6 hc1
  have o := occ_ok m2
  refine ⟨(dF (dt s) c 4).toNatClampNeg, by omega, by rw [h17, m1 4 (by decide)]; exact o.2, fun i hi => ?_⟩
  unfold fitS
  obtain ⟨e1, e2⟩ := hu.2.2.2.1 i hi
  have e3 : (s 2 0).toNatClampNeg = Dd := by rw [hh.2.1]; exact n_cl (by have := hh.1; omega)
  rw [h18, h19, e1, e2, e3]
  rfl
theorem m_tunesOf {s t : tSt} {P T Dd : Nat} {v0 : Nat → Int32} {post : tSt → Prop} (hM : MD (dt s) t P) (hu : rTunes s t T) (hh : rHeard s t T Dd) (hv : ∀ i, i < 10 → v0 i = s 22 i) (hQ : ∀ (t' : tSt) (res : List Nat) (g : Nat → Nat), uSame t t' → MWk (dt s) t' res g → (∀ c, c ∈ row (dt s) → t' 27 c = if c ∈ res then oI (tch (fitS s) (6 * Dd) res 0 v0 c) else -1) → post t') : wp_M_tunesOf t post := by
  refine m_works hM (fun t1 res g w1 k1 y2 e2 => ?_)
  obtain ⟨N, n1, n2⟩ := rH_OI hh
  have w := fun κ (h : κ < 6 ∨ (8 < κ ∧ κ < 22) ∨ 26 < κ) => w1 κ (by omega) (by omega) (by omega) (by omega) (by omega) (by omega) (by omega) (by omega)
  rw [w 5 (by omega), n1] at e2
  subst e2
  refine ⟨T + 1, m_tu12 (st0 := t1) hu.1 (by rw [w 3 (by omega)]; exact hu.2.2.1) (fun t2 a1 a2 => ?_) T 0 t1 (by omega) (fun _ _ => rfl) (fun i hi => absurd hi (by omega))⟩
  have hC : TC (dt s) s t2 T Dd res := rB_TC hM hu hh (by rw [a1 1 (by decide), w 1 (by omega)]) (by rw [a1 3 (by decide), w 3 (by omega)]) (by rw [a1 17 (by decide), w 17 (by omega)]) (by rw [a1 18 (by decide), w 18 (by omega)]) (by rw [a1 19 (by decide), w 19 (by omega)]) (MWk_acc k1)
  have k2 : MWk (dt s) t2 res g := MWk_same k1 (a1 6 (by decide)) (a1 7 (by decide)) (a1 8 (by decide)) (a1 22 (by decide)) (a1 23 (by decide)) (a1 24 (by decide)) (a1 25 (by decide))
  refine ⟨(row (dt s)).length + 1, m_tu40 (st0 := t2) (v0 := v0) hC k2.2.1 k2.2.2.1 k1.2.2.2.1 (fun t3 b1 b2 => ?_) (row (dt s)) [] t2 N (t 20) rfl (fun _ _ _ => rfl) ?_ (fun c hc => by cases hc)⟩
  · refine hQ t3 res g (fun κ z1 z2 z3 z4 z5 z6 z7 z8 z9 z10 => by rw [b1 κ z9 z10, a1 κ z10]; exact w1 κ z1 z2 z3 z4 z5 z6 z7 z8) (MWk_same k2 (b1 6 (by decide) (by decide)) (b1 7 (by decide) (by decide)) (b1 8 (by decide) (by decide)) (b1 22 (by decide) (by decide)) (b1 23 (by decide) (by decide)) (b1 24 (by decide) (by decide)) (b1 25 (by decide) (by decide))) b2
  · exact OI_congr n2 (fun i hi => hv i (by have := hu.1; omega)) (fun i hi => by rw [a2 i hi, w 21 (by omega)]) (fun _ _ => rfl)
