/-! the reference: pieces, and whether a set of calls can be played -/
def pus (F : Nat → Nat → Int32) (i q : Nat) : List (Nat × Nat) → Nat
  | [] => 0
  | x :: r => (if x.2 = i ∧ onB (F x.1) q = true then 1 else 0) + pus F i q r
theorem pus_app (F : Nat → Nat → Int32) (i q : Nat) (qs : List (Nat × Nat)) : ∀ ps, pus F i q (ps ++ qs) = pus F i q ps + pus F i q qs
  | [] => by show pus F i q qs = 0 + pus F i q qs; omega
  | x :: r => by
    show _ + pus F i q (r ++ qs) = (_ + pus F i q r) + pus F i q qs
    rw [pus_app F i q qs r]
    omega
theorem pus_of {F : Nat → Nat → Int32} {i q c : Nat} (hok : rCallOK (F c)) (hi : i < 5) : pus F i q (ptsOf F c) = tm F i q c := by
  obtain ⟨t1, t2, t3⟩ := two_ok hok
  unfold ptsOf tm pw
  have h5 : (F c 5 = nI i) ↔ (F c 5).toNatClampNeg = i := by
    constructor
    · intro e; rw [e]; exact n_cl (by omega)
    · intro e; rw [← e]; exact t2
  rcases t3 with t3 | ⟨t3, t4, t5⟩
  · have h6 : ¬ F c 6 = nI i := by rw [t3]; exact fun e => n_m1_ne (show i < 2 ^ 31 by omega) e.symm
    rw [if_pos t3, if_neg h6]
    show (if (F c 5).toNatClampNeg = i ∧ onB (F c) q = true then 1 else 0) + 0 = _
    by_cases z : onB (F c) q = true
    · by_cases y : F c 5 = nI i
      · rw [if_pos ⟨h5.mp y, z⟩, if_pos z, if_pos y]
      · rw [if_neg (fun v => y (h5.mpr v.1)), if_pos z, if_neg y]
    · simp [z]
  · have h6 : (F c 6 = nI i) ↔ (F c 6).toNatClampNeg = i := by
      constructor
      · intro e; rw [e]; exact n_cl (by omega)
      · intro e; rw [← e]; exact t4
    rw [if_neg t5]
    show (if (F c 5).toNatClampNeg = i ∧ onB (F c) q = true then 1 else 0) + ((if (F c 6).toNatClampNeg = i ∧ onB (F c) q = true then 1 else 0) + 0) = _
    rw [Nat.add_zero]
    by_cases z : onB (F c) q = true
    · rw [if_pos z]
      have a : ((F c 5).toNatClampNeg = i ∧ onB (F c) q = true) ↔ F c 5 = nI i := ⟨fun v => h5.mpr v.1, fun v => ⟨h5.mp v, z⟩⟩
      have b : ((F c 6).toNatClampNeg = i ∧ onB (F c) q = true) ↔ F c 6 = nI i := ⟨fun v => h6.mpr v.1, fun v => ⟨h6.mp v, z⟩⟩
      simp only [a, b]
    · rw [if_neg z, if_neg (fun v => z v.2), if_neg (fun v => z v.2)]
theorem pus_pts {F : Nat → Nat → Int32} {i q : Nat} (hi : i < 5) : ∀ l : List Nat, (∀ c, c ∈ l → rCallOK (F c)) → pus F i q (pts F l) = us F i q l
  | [], _ => rfl
  | c :: l, h => by
    show pus F i q (ptsOf F c ++ pts F l) = tm F i q c + us F i q l
    rw [pus_app, pus_of (h c List.mem_cons_self) hi, pus_pts hi l (fun d hd => h d (List.mem_cons_of_mem c hd))]
/-- the parts of a list of calls, as the reference has them -/
def MP (D : Dt) (t : tSt) (ps : List (Nat × Nat)) : Prop := ps.length ≤ 12 ∧ t 8 0 = nI ps.length ∧ (∀ j, j < ps.length → t 23 j = nI (pAt ps j).1 ∧ t 24 j = nI (pAt ps j).2) ∧ ∀ x, x ∈ ps → x.1 < 6 ∧ x.2 < 5 ∧ dT D x.1 = 1
theorem MD_call {D : Dt} {t : tSt} {P c : Nat} (h : MD D t P) (hc : c < 6) (ht : dT D c = 1) : (∀ k, k < 8 → t 17 (8 * c + k) = dF D c k) ∧ rCallOK (dF D c) := by
  rcases h.1 c hc with z | z
  · rw [z.1] at ht; exact absurd ht (by decide)
  · exact z.2
theorem m_hp20 {D : Dt} {t : tSt} {P i q : Nat} {ps : List (Nat × Nat)} {post : Int32 → tSt → Prop} {k94 : Int32 → Int32 → Int32 → tSt → Prop} (hM : MD D t P) (hP : MP D t ps) (hi : i < 5) (hq : q ≤ 200) : ∀ (rem pre : List (Nat × Nat)) (a : Nat), ps = pre ++ rem → k94 (nI i) (nI q) (nI (a + pus (dF D) i q rem)) t → wp_M_hasPieces_20 post k94 (rem.length + 1) (nI i) (nI q) (nI a) (nI pre.length) t
  | [], pre, a, hr, h => by
    refine b_t (by rw [hP.2.1, hr, List.append_nil]; exact Int32.le_refl _) h
  | x :: rem, pre, a, hr, h => by
    have hl : pre.length + (rem.length + 1) = ps.length := by rw [hr, List.length_append, List.length_cons]
    have h12 := hP.1
    have hin : vp_in (nI pre.length) 12 := vp_in_nI (by omega) (by decide)
    have hx : pAt ps pre.length = x := by rw [hr, pAt_r (Nat.le_refl _), Nat.sub_self]; rfl
    have hxs := hP.2.2.2 x (by rw [hr]; simp)
    have h23 := hP.2.2.1 pre.length (by omega)
    rw [hx] at h23
    refine b_f (by rw [hP.2.1]; exact nI_ge (by omega) (by omega)) ⟨hin, fun y5 e5 => ⟨hin, ?_⟩⟩
    rw [n_cl (show pre.length < 2 ^ 31 by omega)] at e5 ⊢
    rw [h23.1] at e5
    rw [h23.2]
    subst e5
    obtain ⟨hF, hok⟩ := MD_call hM hxs.1 hxs.2.2
    obtain ⟨a1, a2, a3, a4, a5, a6⟩ := callOK_nat hok
    have g1 : t 17 (8 * x.1 + 1) = nI (fFr (dF D x.1)) := by rw [hF 1 (by decide)]; exact a1
    have g2 : t 17 (8 * x.1 + 2) = nI (fLe (dF D x.1)) := by rw [hF 2 (by decide)]; exact a2
    have ep : pus (dF D) i q (x :: rem) = (if x.2 = i ∧ onB (dF D x.1) q = true then 1 else 0) + pus (dF D) i q rem := rfl
    rw [ep] at h
    have go0 : ¬ (x.2 = i ∧ onB (dF D x.1) q = true) → wp_M_hasPieces_85 post (wp_M_hasPieces_20 post k94 (rem.length + 1)) k94 (nI i) (nI q) (nI pre.length) (nI a) t := by
      intro z y3 e3 y4 e4
      have e3' : y3 = nI a := by rw [e3]; exact nI_add a 0
      rw [nI_1] at e4
      subst e3'; subst e4
      rw [if_neg z, Nat.zero_add] at h
      have := m_hp20 (post := post) hM hP hi hq rem (pre ++ [x]) a (by rw [hr]; simp) h
      rw [List.length_append] at this
      exact this
    by_cases w : x.2 = i
    · refine b_t (by rw [w]) (m_of (k := 1) hxs.1 (by decide) (m_of (k := 1) hxs.1 (by decide) (m_of (k := 2) hxs.1 (by decide) ?_)))
      rw [g1, g2, nI_add, show (nI (fFr (dF D x.1) + fLe (dF D x.1)) - 1 : Int32) = nI (fFr (dF D x.1) + fLe (dF D x.1) - 1) from pk_sub (b := 1) (by omega)]
      by_cases z : onB (dF D x.1) q = true
      · have zz := onB_iff.mp z
        refine m_w1 (nI_nlt zz.1 (by omega)) (nI_nlt (by omega) (by omega)) (b_f (by decide) (fun y3 e3 y4 e4 => ?_))
        have e3' : y3 = nI (a + 1) := by rw [e3]; exact nI_add a 1
        rw [nI_1] at e4
        subst e3'; subst e4
        rw [if_pos ⟨w, z⟩, ← Nat.add_assoc] at h
        have := m_hp20 (post := post) hM hP hi hq rem (pre ++ [x]) (a + 1) (by rw [hr]; simp) h
        rw [List.length_append] at this
        exact this
      · refine m_w0 ?_ (b_t rfl (go0 (fun v => z v.2)))
        by_cases y : fFr (dF D x.1) ≤ q
        · refine Or.inr (nI_lt ?_ (by omega))
          have : ¬ q < fFr (dF D x.1) + fLe (dF D x.1) := fun v => z (onB_iff.mpr ⟨y, v⟩)
          omega
        · exact Or.inl (nI_lt (by omega) (by omega))
    · exact b_f (fun e => w ((nI_eq (by omega) (by omega)).mp e)) (go0 (fun v => w v.1))
theorem m_hp9 {D : Dt} {t : tSt} {P i : Nat} {ps : List (Nat × Nat)} {post : Int32 → tSt → Prop} {k112 : Int32 → tSt → Prop} (hM : MD D t P) (hP : MP D t ps) (hi : i < 5) (h1 : (∀ q, q < 96 → nI (pus (dF D) i q ps) ≤ dC D i) → k112 (nI i) t) (h0 : (¬ ∀ q, q < 96 → nI (pus (dF D) i q ps) ≤ dC D i) → post 0 t) : ∀ m q : Nat, q + m = 96 → (∀ r, r < q → nI (pus (dF D) i r ps) ≤ dC D i) → wp_M_hasPieces_9 post k112 (m + 1) (nI i) (nI q) t
  | 0, q, hq, ha => by
    have e : q = 96 := by omega
    subst e
    exact b_t (by decide) (h1 ha)
  | m + 1, q, hq, ha => by
    refine b_f (nI_ge (a := q) (b := 96) (by omega) (by decide)) ⟨ps.length + 1, m_hp20 hM hP hi (by omega) ps [] 0 rfl ⟨vp_in_nI hi (by decide), ?_⟩⟩
    rw [Nat.zero_add, n_cl (show i < 2 ^ 31 by omega), (hM.2.2.1 i hi).1]
    by_cases g : nI (pus (dF D) i q ps) ≤ dC D i
    · refine b_t g (fun y e => ?_)
      rw [nI_1] at e
      subst e
      refine m_hp9 hM hP hi h1 h0 m (q + 1) (by omega) (fun r hr => ?_)
      by_cases z : r = q
      · rw [z]; exact g
      · exact ha r (by omega)
    · exact b_f g (h0 (fun z => g (z q (by omega))))
theorem m_hp2 {D : Dt} {t : tSt} {P : Nat} {ps : List (Nat × Nat)} {post : Int32 → tSt → Prop} (hM : MD D t P) (hP : MP D t ps) (h1 : (∀ i, i < 5 → ∀ q, q < 96 → nI (pus (dF D) i q ps) ≤ dC D i) → post 1 t) (h0 : (¬ ∀ i, i < 5 → ∀ q, q < 96 → nI (pus (dF D) i q ps) ≤ dC D i) → post 0 t) : ∀ m i : Nat, i + m = 5 → (∀ j, j < i → ∀ q, q < 96 → nI (pus (dF D) j q ps) ≤ dC D j) → wp_M_hasPieces_2 post (m + 1) (nI i) t
  | 0, i, hi, ha => by
    have e : i = 5 := by omega
    subst e
    exact b_t (by decide) (h1 ha)
  | m + 1, i, hi, ha => by
    refine b_f (nI_ge (a := i) (b := 5) (by omega) (by decide)) ⟨97, m_hp9 hM hP (by omega) (fun z y e => ?_) (fun z => h0 (fun w => z (w i (by omega)))) 96 0 rfl (fun r hr => absurd hr (by omega))⟩
    rw [nI_1] at e
    subst e
    refine m_hp2 hM hP h1 h0 m (i + 1) (by omega) (fun j hj => ?_)
    by_cases w : j = i
    · rw [w]; exact z
    · exact ha j (by omega)
theorem rCallOK_congr {f f' : Nat → Int32} (h : ∀ k, k < 8 → f' k = f k) (hok : rCallOK f) : rCallOK f' := by
  unfold rCallOK at hok ⊢
  rw [h 0 (by decide), h 1 (by decide), h 2 (by decide), h 3 (by decide), h 4 (by decide), h 5 (by decide), h 6 (by decide), h 7 (by decide)]
  exact hok
theorem clB_congr {w : Nat} {f f' g g' : Nat → Int32} (h : ∀ k, k < 8 → f' k = f k) (h2 : ∀ k, k < 8 → g' k = g k) : clB w f' g' = clB w f g := by
  unfold clB fFr fLe fPl
  rw [h 1 (by decide), h 2 (by decide), h 3 (by decide), h2 1 (by decide), h2 2 (by decide), h2 3 (by decide)]
def gbD (D : Dt) (ps : List (Nat × Nat)) (i j : Nat) : Bool := !clB (dw D) (dF D (pAt ps i).1) (dF D (pAt ps j).1)
theorem MP_SA {D : Dt} {t : tSt} {P : Nat} {ps : List (Nat × Nat)} (hM : MD D t P) (hP : MP D t ps) : SA t ps.length P (gbD D ps) := by
  refine ⟨hM.2.2.2.1, hP.1, hM.2.2.2.2.1, hP.2.1, fun i hi => ⟨(pAt ps i).2, ?_, (hP.2.2.1 i hi).2⟩, fun st hs i j hij hj hne post h => ?_⟩
  · have := (hP.2.2.2 _ (pAt_mem hi)).2.1
    omega
  · have hi : i < ps.length := by omega
    have ci := hP.2.2.2 _ (pAt_mem hi)
    have cj := hP.2.2.2 _ (pAt_mem hj)
    rw [(hP.2.2.1 i hi).1, (hP.2.2.1 j hj).1]
    have hM' : MD D st P := MD_of hM (hs 17 (by decide) (by decide)) (hs 10 (by decide) (by decide)) (hs 16 (by decide) (by decide)) (hs 2 (by decide) (by decide)) (hs 13 (by decide) (by decide)) (hs 14 (by decide) (by decide))
    obtain ⟨fi, oi⟩ := MD_call hM' ci.1 ci.2.2
    obtain ⟨fj, oj⟩ := MD_call hM' cj.1 cj.2.2
    refine m_goes ci.1 cj.1 hM'.2.1.1 hM'.2.1.2 (rCallOK_congr (f := dF D (pAt ps i).1) fi oi) (rCallOK_congr (f := dF D (pAt ps j).1) fj oj) ?_
    rw [clB_congr (f := dF D (pAt ps i).1) (g := dF D (pAt ps j).1) (f' := mF st (pAt ps i).1) (g' := mF st (pAt ps j).1) fi fj]
    exact h
theorem Vd_iff {D : Dt} {t : tSt} {P : Nat} {ps : List (Nat × Nat)} {g : Nat → Nat} (hM : MD D t P) (hP : MP D t ps) : Vd ps.length P (sOk t) (sCl t (gbD D ps)) g ↔ Vd ps.length 6 (vOk D ps) (vCl D ps) g := by
  have eok : ∀ i p, i < ps.length → ((p < P ∧ sOk t i p) ↔ (p < 6 ∧ vOk D ps i p)) := fun i p hi => by
    have c2 := (hP.2.2.2 _ (pAt_mem hi)).2.1
    have e24 : (t 24 i).toNatClampNeg = (pAt ps i).2 := by rw [(hP.2.2.1 i hi).2]; exact n_cl (by omega)
    unfold sOk vOk
    rw [e24]
    constructor
    · rintro ⟨h1, h2⟩
      have h6 : p < 6 := by have := hM.2.2.2.1; omega
      rw [hM.2.2.2.2.2.2.1 p h6, hM.2.2.2.2.2.1 p h1] at h2
      exact ⟨h6, h2⟩
    · rintro ⟨h1, h2⟩
      have hp : p < P := Nat.lt_of_not_le (fun q => by
        rw [hM.2.2.2.2.2.2.2 p q h1, b_0] at h2
        exact absurd h2.2 (by decide))
      refine ⟨hp, ?_⟩
      rw [hM.2.2.2.2.2.2.1 p h1, hM.2.2.2.2.2.1 p hp]
      exact h2
  have ecl : ∀ i j, i < ps.length → j < ps.length → (sCl t (gbD D ps) i j ↔ vCl D ps i j) := fun i j hi hj => by
    have ci := hP.2.2.2 _ (pAt_mem hi)
    have cj := hP.2.2.2 _ (pAt_mem hj)
    unfold sCl vCl gbD
    rw [(hP.2.2.1 i hi).1, (hP.2.2.1 j hj).1]
    constructor
    · rintro (h | h)
      · have e := (nI_eq (by omega) (by omega)).mp h
        rw [e]
        exact clB_self (MD_call hM cj.1 cj.2.2).2
      · simpa using h
    · intro h
      exact Or.inr (by rw [h]; rfl)
  constructor
  · intro v
    exact ⟨fun i hi => (eok i _ hi).mp (v.1 i hi), fun i j hij hj hc => v.2 i j hij hj ((ecl i j (by omega) hj).mpr hc)⟩
  · intro v
    exact ⟨fun i hi => (eok i _ hi).mpr (v.1 i hi), fun i j hij hj hc => v.2 i j hij hj ((ecl i j (by omega) hj).mp hc)⟩
theorem Lst_iff {D : Dt} {t : tSt} {P : Nat} {ps : List (Nat × Nat)} {g : Nat → Nat} (hM : MD D t P) (hP : MP D t ps) (h : Lst ps.length P (sOk t) (sCl t (gbD D ps)) g) : Lst ps.length 6 (vOk D ps) (vCl D ps) g := ⟨(Vd_iff hM hP).mp h.1, fun g' hg' => h.2 g' ((Vd_iff hM hP).mpr hg')⟩
def qSame (t t' : tSt) : Prop := ∀ κ, κ ≠ 8 → κ ≠ 23 → κ ≠ 24 → κ ≠ 25 → κ ≠ 26 → t' κ = t κ
theorem m_canBePlayed {D : Dt} {t : tSt} {P : Nat} {R l : List Nat} {post : Int32 → tSt → Prop} (hM : MD D t P) (hR : ∀ c, c ∈ R → c < 6 ∧ dT D c = 1) (hR6 : R.length ≤ 6) (h6 : t 6 0 = nI R.length) (h22 : ∀ j, j < R.length → t 22 j = nI (lAt R j)) (hl : l = R.filter (fun c => bt (t 7 0) c))
    (hY : ∀ (st : tSt) (g : Nat → Nat), qSame t st → MP D st (pts (dF D) l) → (∀ i, i < (pts (dF D) l).length → st 25 i = nI (g i)) → plL D l g → plP D l → post 1 st) (hN : ∀ st : tSt, qSame t st → ¬ Pl D l → post 0 st) : wp_M_canBePlayed t post := by
  refine m_lists hM hR hR6 h6 h22 (fun s1 hL => ?_)
  rw [← hl] at hL
  have hlR : ∀ c, c ∈ l → c ∈ R := fun c hc => by rw [hl] at hc; exact (List.mem_filter.mp hc).1
  have hokl : ∀ c, c ∈ l → rCallOK (dF D c) := fun c hc => (MD_call hM (hR c (hlR c hc)).1 (hR c (hlR c hc)).2).2
  have hlen : (pts (dF D) l).length ≤ 12 := by
    have a := pts_len (dF D) l
    have b := List.length_filter_le (fun c => bt (t 7 0) c) R
    rw [← hl] at b
    omega
  have hM1 : MD D s1 P := MD_of hM (hL.1 17 (by decide) (by decide) (by decide)) (hL.1 10 (by decide) (by decide) (by decide)) (hL.1 16 (by decide) (by decide) (by decide)) (hL.1 2 (by decide) (by decide) (by decide)) (hL.1 13 (by decide) (by decide) (by decide)) (hL.1 14 (by decide) (by decide) (by decide))
  have hP1 : MP D s1 (pts (dF D) l) := ⟨hlen, hL.2.1, hL.2.2, fun x hx => by
    have := pts_mem l hokl hx
    have r := hR _ (hlR _ this.1)
    exact ⟨r.1, this.2, r.2⟩⟩
  have q1 : qSame t s1 := fun κ k1 k2 k3 _ _ => hL.1 κ k1 k2 k3
  have epl : (∀ i, i < 5 → ∀ q, q < 96 → nI (pus (dF D) i q (pts (dF D) l)) ≤ dC D i) ↔ plP D l := by
    constructor
    · intro h i hi q hq
      have := h i hi q hq
      rw [pus_pts hi l hokl] at this
      exact this
    · intro h i hi q hq
      rw [pus_pts hi l hokl]
      exact h i hi q hq
  refine ⟨6, m_hp2 hM1 hP1 (fun z => ?_) (fun z => b_t rfl (hN s1 q1 (fun w => z (epl.mpr w.1)))) 5 0 rfl (fun j hj => absurd hj (by omega))⟩
  refine b_f (by decide) (fun s4 e4 s5 e5 => ?_)
  have so : ∀ κ, κ ≠ 25 → κ ≠ 26 → s5 κ = s1 κ := fun κ k1 k2 => by rw [e5, tUp_ne _ _ _ k2, e4, tUp_ne _ _ _ k1]
  have f25 : s5 25 0 = -1 := by rw [e5, tUp_ne _ _ _ (by decide), e4]; simp [tUp_ap]
  have f26 : s5 26 0 = 0 := by rw [e5]; simp [tUp_ap]
  have hM5 : MD D s5 P := MD_of hM1 (so 17 (by decide) (by decide)) (so 10 (by decide) (by decide)) (so 16 (by decide) (by decide)) (so 2 (by decide) (by decide)) (so 13 (by decide) (by decide)) (so 14 (by decide) (by decide))
  have mpOf : ∀ st : tSt, sSame s5 st → MP D st (pts (dF D) l) := fun st hs => ⟨hP1.1, by rw [hs 8 (by decide) (by decide), so 8 (by decide) (by decide)]; exact hP1.2.1, fun j hj => by rw [hs 23 (by decide) (by decide), hs 24 (by decide) (by decide), so 23 (by decide) (by decide), so 24 (by decide) (by decide)]; exact hP1.2.2.1 j hj, hP1.2.2.2⟩
  have hP5 : MP D s5 (pts (dF D) l) := mpOf s5 (fun _ _ _ => rfl)
  have qOf : ∀ st : tSt, sSame s5 st → qSame t st := fun st hs κ k1 k2 k3 k4 k5 => by rw [hs κ k4 k5, so κ k4 k5]; exact q1 κ k1 k2 k3 k4 k5
  refine ⟨9 ^ 14, m_searchL (s := s5) (MP_SA hM5 hP5) (fun st g hs hLst h25 => hY st g (qOf st hs) (mpOf st hs) h25 (Lst_iff hM5 hP5 hLst) (epl.mp z)) (fun st hs hno => hN st (qOf st hs) (fun w => ?_)) (9 ^ 14) 0 s5 (fun _ => 0) (fun _ _ => False) (Nat.zero_le _) (Nat.le_add_left _ _) (fun _ _ _ => rfl) (fun i hi hin => ?_) (fun i hi hin j => ?_) (SI_start rfl (fun _ h => h))⟩
  · obtain ⟨g, hg⟩ := w.2
    exact hno ⟨g, (Vd_iff hM5 hP5).mpr hg⟩
  · have : i = 0 := by omega
    subst this
    rw [f25]
    decide
  · have : i = 0 := by omega
    subst this
    rw [f26, b_0]
    exact ⟨fun v => v.elim, fun v => by cases v⟩
