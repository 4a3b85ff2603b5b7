/-! a call's parts beside those that are here -/
theorem CI_congr {st : tSt} {n w : Nat} {co ins co' ins' : Nat → Nat} (h : CI st n w co ins) (h1 : ∀ j, j < n → co' j = co j) (h2 : ∀ j, j < n → ins' j = ins j) : CI st n w co' ins' := by
  obtain ⟨a1, a2, a3, a4, a5⟩ := h
  refine ⟨a1, a2, fun j hj => by rw [h1 j hj, h2 j hj]; exact a3 j hj, fun p hp k => ?_, fun j k hj hk => ?_⟩
  · rw [a4 p hp k]
    unfold fOp
    constructor
    · intro v; rw [h2 k v.1]; exact v
    · intro v; rw [← h2 k v.1]; exact v
  · rw [a5 j k hj hk]
    unfold fBr
    rw [h1 j hj, h1 k hk]
def CIl (D : Dt) (st : tSt) (ps : List (Nat × Nat)) : Prop := CI st ps.length (dw D) (fun j => (pAt ps j).1) (fun j => (pAt ps j).2)
theorem CI_V {D : Dt} {st : tSt} {ps : List (Nat × Nat)} {g : Nat → Nat} (hD : dt st = D) (h : CIl D st ps) : Fill (opS st) (brS st) (fun k => k < ps.length) g ↔ Vd ps.length 6 (vOk D ps) (vCl D ps) g := by
  obtain ⟨a1, a2, a3, a4, a5⟩ := h
  subst hD
  have ecl : ∀ j k, j < ps.length → k < ps.length → (vCl (dt st) ps j k ↔ brS st j k) := fun j k hj hk => by
    rw [a5 j k hj hk]
    unfold vCl fBr
    have e1 : dF (dt st) (pAt ps j).1 = st (14 + (pAt ps j).1) := fc_at (a3 j hj).1
    have e2 : dF (dt st) (pAt ps k).1 = st (14 + (pAt ps k).1) := fc_at (a3 k hk).1
    rw [e1, e2]
  have eok : ∀ k p, k < ps.length → p < 6 → (vOk (dt st) ps k p ↔ opS st p k) := fun k p hk hp => by
    have := a4 p hp k
    unfold opS
    unfold inB fOp pOK at this
    unfold vOk
    rw [this]
    exact ⟨fun v => ⟨hk, v⟩, fun v => v.2⟩
  have sym : ∀ j k, j < ps.length → k < ps.length → brS st j k → brS st k j := fun j k hj hk hb => by
    refine (a5 k j hk hj).mpr ?_
    have := (a5 j k hj hk).mp hb
    unfold fBr at this ⊢
    rw [clB_comm]
    exact this
  constructor
  · intro v
    exact ⟨fun i hi => ⟨(v.1 i hi).1, (eok i _ hi (v.1 i hi).1).mpr (v.1 i hi).2⟩, fun i j hij hj hc => v.2 i j (show i < ps.length by omega) hj (by omega) ((ecl i j (by omega) hj).mp hc)⟩
  · intro v
    refine ⟨fun i hi => ⟨(v.1 i hi).1, (eok i _ hi (v.1 i hi).1).mp (v.1 i hi).2⟩, fun j k hj hk hjk hb => ?_⟩
    by_cases z : j < k
    · exact v.2 j k z hk ((ecl j k hj hk).mpr hb)
    · have := v.2 k j (by omega) hj ((ecl k j hk hj).mpr (sym j k hj hk hb))
      exact fun e => this e.symm
theorem c_adm97 {st0 : tSt} {n : Nat} {post : Int32 → tSt → Prop} (hc : st0 27 0 = nI n) (h : ∀ st' : tSt, (∀ κ, κ ≠ 31 → st' κ = st0 κ) → (∀ p, p < 6 → st' 31 p = st0 31 p &&& (((1 : Int32) <<< (nI n &&& 31)) - 1)) → post 0 st') : ∀ (m q : Nat) (st : tSt), q + m = 6 → (∀ κ, κ ≠ 31 → st κ = st0 κ) → (∀ p, p < q → st 31 p = st0 31 p &&& (((1 : Int32) <<< (nI n &&& 31)) - 1)) → (∀ p, q ≤ p → st 31 p = st0 31 p) → wp_Cast_admit_97 post (m + 1) (nI q) st
  | 0, q, st, hq, a1, a2, a3 => by
    have e : q = 6 := by omega
    subst e
    exact b_t (by decide) (h st a1 a2)
  | m + 1, q, st, hq, a1, a2, a3 => by
    have hin : vp_in (nI q) 6 := vp_in_nI (by omega) (by decide)
    refine b_f (nI_ge (a := q) (b := 6) (by omega) (by decide)) ⟨hin, hin, fun s3 e3 y e => ?_⟩
    rw [a1 27 (by decide), hc, n_cl (show q < 2 ^ 31 by omega)] at e3
    rw [nI_1] at e
    subst e
    have f31 : ∀ p, s3 31 p = if p = q then st 31 q &&& (((1 : Int32) <<< (nI n &&& 31)) - 1) else st 31 p := fun p => by
      rw [e3]
      by_cases z : p = q <;> simp [tUp_ap, z]
    refine c_adm97 hc h m (q + 1) s3 (by omega) (fun κ hκ => by rw [e3, tUp_ne _ _ _ hκ]; exact a1 κ hκ) (fun p hp => ?_) (fun p hp => by rw [f31, if_neg (by omega)]; exact a3 p (by omega))
    rw [f31]
    by_cases z : p = q
    · rw [if_pos z, z, a3 q (Nat.le_refl q)]
    · rw [if_neg z]; exact a2 p (by omega)
def aSame (st st' : tSt) : Prop := ∀ κ, κ ≠ 27 → κ ≠ 31 → κ ≠ 32 → κ ≠ 33 → κ ≠ 34 → st' κ = st κ
theorem aSame_dt {st st' : tSt} (h : aSame st st') : dt st' = dt st := dt_eq (h 7 (by decide) (by decide) (by decide) (by decide) (by decide)) (h 10 (by decide) (by decide) (by decide) (by decide) (by decide)) (h 11 (by decide) (by decide) (by decide) (by decide) (by decide)) (h 13 (by decide) (by decide) (by decide) (by decide) (by decide)) (h 23 (by decide) (by decide) (by decide) (by decide) (by decide)) (fun c hc => h _ (by omega) (by omega) (by omega) (by omega) (by omega))
theorem c_adm68 {D : Dt} {st : tSt} {ps qs : List (Nat × Nat)} {c : Nat} {g0 : Nat → Nat} {post : Int32 → tSt → Prop} (hD : dt st = D) (hq : 0 < qs.length) (hqc : ∀ k, k < qs.length → (pAt qs k).1 = c) (hCI : CIl D st (ps ++ qs)) (hg : Vd ps.length 6 (vOk D ps) (vCl D ps) g0) (h34 : ∀ k, k < ps.length → st 34 k = nI (g0 k))
    (hY : ∀ (st' : tSt) (g : Nat → Nat), CIl D st' (ps ++ qs) → Vd (ps ++ qs).length 6 (vOk D (ps ++ qs)) (vCl D (ps ++ qs)) g → (∀ k, k < (ps ++ qs).length → st' 34 k = nI (g k)) → aSame st st' → post 1 st')
    (hN : ∀ st' : tSt, CIl D st' ps → (¬ ∃ g, Vd (ps ++ qs).length 6 (vOk D (ps ++ qs)) (vCl D (ps ++ qs)) g) → (∀ k, k < ps.length → st' 34 k = nI (g0 k)) → aSame st st' → post 0 st') : wp_Cast_admit_68 post (nI ps.length) st := by
  have hlen : (ps ++ qs).length = ps.length + qs.length := List.length_append
  have hCI' := hCI
  obtain ⟨a1, a2, a3, a4, a5⟩ := hCI
  have hbr := CI_brOK hCI'
  show wp_Cast_tiedTo (nI ps.length) (((1 : Int32) <<< ((st 27 0) &&& 31)) - 1) st _
  rw [a2]
  refine c_tiedTo a1 a2 (fun k hk => (inB_all a1).mp hk) (by omega) (fun t t1 t2 t3 => ?_)
  have tn : ∀ k, inB t k → k < (ps ++ qs).length := fun k hk => (t2 k hk).elim (fun v => (inB_all a1).mp v) (fun v => by omega)
  have tcl : ∀ j k, inB t j → brS st j k → k < (ps ++ qs).length → inB t k := fun j k hj hb hk => t3 j k hj hb ((inB_all a1).mpr hk)
  have tnew : ∀ k, ps.length ≤ k → k < (ps ++ qs).length → inB t k := fun k h1 h2 => by
    refine tcl ps.length k t1 ((a5 ps.length k (by omega) h2).mpr ?_) h2
    unfold fBr
    have e1 : (pAt (ps ++ qs) ps.length).1 = c := by rw [pAt_r (Nat.le_refl _)]; exact hqc _ (by omega)
    have e2 : (pAt (ps ++ qs) k).1 = c := by rw [pAt_r h1]; exact hqc _ (by omega)
    simp only [e1, e2]
    have := (a3 k h2).2.2.2
    simp only [e2] at this
    exact clB_self this
  refine c_canFill a1 13 0 t st _ a2 tn hbr (by have := nB_le12 t; omega) (by have := nB_le12 t; omega) (fun st' g b1 b2 b3 b4 => ?_) (fun hno => ?_)
  · refine b_f (by decide) ?_
    have sm : aSame st st' := fun κ k1 k2 k3 k4 k5 => b4 κ k5
    have hF : Fill (opS st) (brS st) (fun k => k < (ps ++ qs).length) (fun k => if bt t k = true then g k else g0 k) := by
      have hF0 : ∀ k, k < (ps ++ qs).length → ¬ inB t k → k < ps.length := fun k hk hn => Nat.lt_of_not_le (fun q => hn (tnew k q hk))
      refine ⟨fun k hk => ?_, fun j k hj hk hjk hb => ?_⟩
      · by_cases z : bt t k = true
        · simp only [if_pos z]
          exact b1.1 k z
        · simp only [if_neg z]
          have hk' := hF0 k hk z
          have v := hg.1 k hk'
          refine ⟨v.1, (a4 (g0 k) v.1 k).mpr ⟨hk, ?_⟩⟩
          have w := v.2
          unfold vOk at w
          unfold fOp pOK
          simp only [pAt_l hk']
          rw [← hD] at w
          exact w
      · by_cases zj : bt t j = true
        · have zk : bt t k = true := tcl j k zj hb hk
          simp only [if_pos zj, if_pos zk]
          exact b1.2 j k zj zk hjk hb
        · have zk : ¬ bt t k = true := fun z => zj (tcl k j z (hbr.2 j k hj hk hb) hj)
          simp only [if_neg zj, if_neg zk]
          have hj' := hF0 j hj zj
          have hk' := hF0 k hk zk
          have key : ∀ x y, x < ps.length → y < ps.length → x < y → brS st x y → g0 x ≠ g0 y := fun x y hx hy hxy hb => by
            refine hg.2 x y hxy hy ?_
            have v := (a5 x y (by omega) (by omega)).mp hb
            have cx := (a3 x (by omega)).1
            have cy := (a3 y (by omega)).1
            unfold fBr at v
            simp only [pAt_l hx, pAt_l hy] at v cx cy
            unfold vCl
            have e1 : dF D (pAt ps x).1 = st (14 + (pAt ps x).1) := by rw [← hD]; exact fc_at cx
            have e2 : dF D (pAt ps y).1 = st (14 + (pAt ps y).1) := by rw [← hD]; exact fc_at cy
            rw [e1, e2]
            exact v
          by_cases z : j < k
          · exact key j k hj' hk' z hb
          · exact fun e => key k j hk' hj' (by omega) (hbr.2 j k hj hk hb) e.symm
    refine hY st' _ ?_ ((CI_V hD hCI').mp hF) (fun k hk => ?_) sm
    · refine ⟨a1, by rw [b4 27 (by decide)]; exact a2, fun j hj => ?_, fun p hp k => ?_, fun j k hj hk => ?_⟩
      · have := a3 j hj
        have cj : (pAt (ps ++ qs) j).1 < 6 := this.1
        rw [b4 33 (by decide), b4 _ (show 14 + (pAt (ps ++ qs) j).1 ≠ 34 by omega)]
        exact this
      · rw [b4 31 (by decide), a4 p hp k]
        unfold fOp pOK
        rw [b4 10 (by decide), b4 11 (by decide)]
      · have cj : (pAt (ps ++ qs) j).1 < 6 := (a3 j hj).1
        have ck : (pAt (ps ++ qs) k).1 < 6 := (a3 k hk).1
        have := a5 j k hj hk
        unfold brS fBr at this ⊢
        rw [b4 32 (by decide), b4 _ (show 14 + (pAt (ps ++ qs) j).1 ≠ 34 by omega), b4 _ (show 14 + (pAt (ps ++ qs) k).1 ≠ 34 by omega)]
        exact this
    · by_cases z : bt t k = true
      · simp only [if_pos z]
        exact b2 k z
      · simp only [if_neg z]
        rw [b3 k z]
        exact h34 k (Nat.lt_of_not_le (fun q => z (tnew k q hk)))
  · have hno' : ¬ ∃ g, Vd (ps ++ qs).length 6 (vOk D (ps ++ qs)) (vCl D (ps ++ qs)) g := fun ⟨g, hv⟩ => hno ⟨g, Fill_congr (fun k hk => tn k hk) (fun _ _ _ v => v) (fun _ _ _ _ v => v) ((CI_V hD hCI').mpr hv)⟩
    refine b_t rfl (fun s7 e7 => ?_)
    have s7o : ∀ κ, κ ≠ 27 → s7 κ = st κ := fun κ hκ => by rw [e7]; exact tUp_ne _ _ _ hκ
    have s727 : s7 27 0 = nI ps.length := by rw [e7]; simp [tUp_ap]
    refine ⟨7, c_adm97 (n := ps.length) s727 (fun st' c1 c2 => ?_) 6 0 s7 rfl (fun _ _ => rfl) (fun p hp => absurd hp (by omega)) (fun _ _ => rfl)⟩
    have so : ∀ κ, κ ≠ 27 → κ ≠ 31 → st' κ = st κ := fun κ k1 k2 => by rw [c1 κ k2, s7o κ k1]
    refine hN st' ⟨by omega, by rw [c1 27 (by decide)]; exact s727, fun j hj => ?_, fun p hp k => ?_, fun j k hj hk => ?_⟩ hno' (fun k hk => by rw [so 34 (by decide) (by decide)]; exact h34 k hk) (fun κ k1 k2 _ _ _ => so κ k1 k2)
    · have := a3 j (by omega)
      simp only [pAt_l hj] at this
      rw [so 33 (by decide) (by decide), so _ (show 14 + (pAt ps j).1 ≠ 27 by have := this.1; omega) (show 14 + (pAt ps j).1 ≠ 31 by have := this.1; omega)]
      exact this
    · rw [c2 p hp, inB_and, s7o 31 (by decide), inB_all (by omega), a4 p hp k]
      unfold fOp pOK
      rw [so 10 (by decide) (by decide), so 11 (by decide) (by decide)]
      constructor
      · intro v
        have v1 := v.1.2
        simp only [pAt_l v.2] at v1
        exact ⟨v.2, v1⟩
      · intro v
        refine ⟨⟨by omega, ?_⟩, v.1⟩
        simp only [pAt_l v.1]
        exact v.2
    · have cj := (a3 j (by omega)).1
      have ck := (a3 k (by omega)).1
      have := a5 j k (by omega) (by omega)
      simp only [pAt_l hj] at cj
      simp only [pAt_l hk] at ck
      unfold brS fBr at this ⊢
      simp only [pAt_l hj, pAt_l hk] at this
      rw [so 32 (by decide) (by decide), so _ (show 14 + (pAt ps j).1 ≠ 27 by omega) (by omega), so _ (show 14 + (pAt ps k).1 ≠ 27 by omega) (by omega)]
      exact this
theorem c_adm {D : Dt} {st : tSt} {l : List Nat} {c : Nat} {g0 : Nat → Nat} {post : Int32 → tSt → Prop} (hD : dt st = D) (hc : c < 6) (hok : rCallOK (dF D c)) (hw : dw D ≤ 20) (hCI : CIl D st (pts (dF D) l)) (hlen : (pts (dF D) l).length + 2 ≤ 12) (hg : plV D l g0) (h34 : ∀ k, k < (pts (dF D) l).length → st 34 k = nI (g0 k))
    (hY : ∀ (st' : tSt) (g : Nat → Nat), CIl D st' (pts (dF D) (l ++ [c])) → plV D (l ++ [c]) g → (∀ k, k < (pts (dF D) (l ++ [c])).length → st' 34 k = nI (g k)) → aSame st st' → post 1 st')
    (hN : ∀ st' : tSt, CIl D st' (pts (dF D) l) → (¬ ∃ g, plV D (l ++ [c]) g) → (∀ k, k < (pts (dF D) l).length → st' 34 k = nI (g0 k)) → aSame st st' → post 0 st') : wp_Cast_admit (nI c) (nI (dw D)) st post := by
  intro y5 e5
  have h27 := hCI.2.1
  rw [h27] at e5
  subst e5
  have hin : vp_in (nI c) 6 := vp_in_nI hc (by decide)
  have ef : dF D c = st (14 + c) := by rw [← hD]; exact fc_at hc
  have hok' : rCallOK (st (14 + c)) := by rw [← ef]; exact hok
  obtain ⟨t1, t2, t3⟩ := two_ok hok'
  have ccl := n_cl (show c < 2 ^ 31 by omega)
  -- behind the parts
  have fin : ∀ (s' : tSt) (qs : List (Nat × Nat)), 0 < qs.length → qs = ptsOf (dF D) c → CIl D s' (pts (dF D) l ++ qs) → (∀ κ, κ ≠ 27 → κ ≠ 31 → κ ≠ 32 → κ ≠ 33 → s' κ = st κ) → wp_Cast_admit_68 post (nI (pts (dF D) l).length) s' := by
    intro s' qs q0 eq hci so
    have epts : pts (dF D) (l ++ [c]) = pts (dF D) l ++ qs := by rw [pts_app, eq]
    have sm : aSame st s' := fun κ k1 k2 k3 k4 _ => so κ k1 k2 k3 k4
    unfold plV at hY hN hg
    rw [epts] at hY hN
    refine c_adm68 (by rw [aSame_dt sm]; exact hD) q0 (fun k hk => (ptsOf_mem (F := dF D) hok (by rw [← eq]; exact pAt_mem hk)).1) hci hg (fun k hk => by rw [so 34 (by decide) (by decide) (by decide) (by decide)]; exact h34 k hk) (fun st' g b1 b2 b3 b4 => hY st' g b1 b2 b3 (fun κ k1 k2 k3 k4 k5 => by rw [b4 κ k1 k2 k3 k4 k5]; exact so κ k1 k2 k3 k4)) (fun st' b1 b2 b3 b4 => hN st' b1 b2 b3 (fun κ k1 k2 k3 k4 k5 => by rw [b4 κ k1 k2 k3 k4 k5]; exact so κ k1 k2 k3 k4))
  refine ⟨3, hin, ?_⟩
  rw [ccl]
  have step1 : ∀ r2 : Int32, r2 = 1 ∨ r2 = 2 → ¬ r2 ≤ (0 : Int32) := by
    rintro r2 (e | e) <;> (rw [e]; decide)
  have go : ∀ r2 : Int32, r2 = 1 ∨ r2 = 2 → ((r2 ≤ (0 : Int32) → wp_Cast_admit_68 post (nI (pts (dF D) l).length) st) ∧ (¬ r2 ≤ (0 : Int32) → (((12 : Int32) ≤ (st 27 0) → wp_Cast_admit_68 post (nI (pts (dF D) l).length) st) ∧ (¬ (12 : Int32) ≤ (st 27 0) → vp_in (nI c) 6 ∧ wp_Call_fact c ((5 : Int32) + 0) st (fun r4 st3 => wp_Cast_markTakers r4 st3 (fun st5 => wp_Cast_markBars (nI c) (nI (dw D)) st5 (fun st6 => (∀ st7 : tSt, st7 = tUp st6 27 0 ((st6 27 0) + (1 : Int32)) → (∀ y6_8 : Int32, y6_8 = (0 : Int32) + 1 → wp_Cast_admit_9 post (wp_Cast_admit_68 post) 2 (nI c) (nI (dw D)) (nI (pts (dF D) l).length) y6_8 st7))))))))) := by
    intro r2 hr
    refine b_f (step1 r2 hr) (b_f (by rw [h27]; exact nI_ge (a := (pts (dF D) l).length) (b := 12) (by omega) (by decide)) ⟨hin, c_fact (k := 5) (by decide) ?_⟩)
    rw [t2]
    refine c_addPart hCI (by omega) hw hc hok' t1 (fun s1 ci1 so1 y1 ey1 => ?_)
    have ey1' : y1 = nI 1 := ey1
    subst ey1'
    have f1 : s1 (14 + c) = st (14 + c) := so1 _ (by omega) (by omega) (by omega) (by omega)
    refine ⟨hin, ?_⟩
    rw [ccl]
    rcases t3 with t3 | ⟨t3, t4, t5⟩
    · -- one part
      refine b_t (by rw [f1]; exact t3) (b_t (by decide) (fin s1 [(c, (st (14 + c) 5).toNatClampNeg)] (by simp) ?_ ?_ so1))
      · unfold ptsOf
        rw [ef, if_pos t3]
      · unfold CIl
        rw [List.length_append]
        refine CI_congr ci1 (fun j hj => ?_) (fun j hj => ?_)
        · have hj' : j < (pts (dF D) l).length + 1 := hj
          unfold ext
          by_cases z : j = (pts (dF D) l).length
          · rw [if_pos z, pAt_r (by omega), z]; simp [pAt]
          · rw [if_neg z, pAt_l (by omega)]
        · have hj' : j < (pts (dF D) l).length + 1 := hj
          unfold ext
          by_cases z : j = (pts (dF D) l).length
          · rw [if_pos z, pAt_r (by omega), z]; simp [pAt]
          · rw [if_neg z, pAt_l (by omega)]
    · refine b_f (by rw [f1]; exact t5) (b_f (by decide) (b_f (by rw [ci1.2.1]; exact nI_ge (a := (pts (dF D) l).length + 1) (b := 12) (by omega) (by decide)) ⟨hin, c_fact (k := 6) (by decide) ?_⟩))
      rw [f1, t4]
      refine c_addPart ci1 (by omega) hw hc (by rw [f1]; exact hok') t3 (fun s2 ci2 so2 y2 ey2 => ?_)
      have ey2' : y2 = nI 2 := ey2
      subst ey2'
      have f2 : s2 (14 + c) = s1 (14 + c) := so2 _ (by omega) (by omega) (by omega) (by omega)
      refine ⟨hin, ?_⟩
      rw [ccl]
      refine b_f (by rw [f2, f1]; exact t5) (b_t (by decide) (fin s2 [(c, (st (14 + c) 5).toNatClampNeg), (c, (st (14 + c) 6).toNatClampNeg)] (by simp) ?_ ?_ (fun κ k1 k2 k3 k4 => by rw [so2 κ k1 k2 k3 k4]; exact so1 κ k1 k2 k3 k4)))
      · unfold ptsOf
        rw [ef, if_neg t5]
      · unfold CIl
        rw [List.length_append]
        refine CI_congr ci2 (fun j hj => ?_) (fun j hj => ?_)
        · have hj' : j < (pts (dF D) l).length + 2 := hj
          unfold ext
          by_cases z : j = (pts (dF D) l).length + 1
          · rw [if_pos z, pAt_r (by omega), z]; simp [pAt]
          · rw [if_neg z]
            by_cases z2 : j = (pts (dF D) l).length
            · rw [if_pos z2, pAt_r (by omega), z2]; simp [pAt]
            · rw [if_neg z2, pAt_l (by omega)]
        · have hj' : j < (pts (dF D) l).length + 2 := hj
          unfold ext
          by_cases z : j = (pts (dF D) l).length + 1
          · rw [if_pos z, pAt_r (by omega), z]; simp [pAt]
          · rw [if_neg z]
            by_cases z2 : j = (pts (dF D) l).length
            · rw [if_pos z2, pAt_r (by omega), z2]; simp [pAt]
            · rw [if_neg z2, pAt_l (by omega)]
  by_cases z : st (14 + c) 6 = -1
  · exact b_t z (go 1 (Or.inl rfl))
  · exact b_f z (go 2 (Or.inr rfl))
