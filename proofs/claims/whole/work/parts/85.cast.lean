/-! the calls of the day, one after the other -/
def bOK (D : Dt) : Prop := (∀ c, c < 6 → dT D c = 0 ∨ (dT D c = 1 ∧ rCallOK (dF D c))) ∧ (∀ i, i < 5 → ∃ n : Nat, n ≤ 3 ∧ dC D i = nI n) ∧ dw D ≤ 20
theorem bOK_row {D : Dt} (h : bOK D) : okL D (row D) := fun c hc => by
  have := row_mem hc
  rcases h.1 c this.1 with z | z
  · rw [this.2] at z; exact absurd z (by decide)
  · exact ⟨this.1, z.1, z.2⟩
theorem Gr_filter {P : List Nat → Prop} {res : List Nat} : ∀ (r acc : List Nat), (acc ++ r).Nodup → Gr P r acc res → res = acc ++ r.filter (fun c => decide (c ∈ res))
  | [], acc, _, h => by
    have h : res = acc := h
    rw [h]; simp
  | c :: r, acc, hn, h => by
    have hn' := List.pairwise_append.mp hn
    have hc := List.nodup_cons.mp hn'.2.1
    by_cases z : P (acc ++ [c])
    · have ih := Gr_filter r (acc ++ [c]) (by rw [List.append_assoc]; exact hn) (h.1 z)
      have hm : c ∈ res := by rw [ih]; simp
      rw [List.filter_cons, if_pos (decide_eq_true hm)]
      rw [List.append_assoc] at ih
      exact ih
    · have ih := Gr_filter r acc (List.pairwise_append.mpr ⟨hn'.1, hc.2, fun a ha b hb => hn'.2.2 a ha b (List.mem_cons_of_mem c hb)⟩) (h.2 z)
      have hm : ¬ c ∈ res := fun w => by
        rw [ih] at w
        rcases List.mem_append.mp w with v | v
        · exact hn'.2.2 c v c List.mem_cons_self rfl
        · exact hc.1 (List.mem_filter.mp v).1
      rw [List.filter_cons, if_neg (fun w => hm (of_decide_eq_true w))]
      exact ih
def kSame (st st' : tSt) : Prop := ∀ κ, κ ≠ 25 → κ ≠ 26 → κ ≠ 27 → κ ≠ 28 → κ ≠ 31 → κ ≠ 32 → κ ≠ 33 → κ ≠ 34 → st' κ = st κ
theorem kSame_dt {st st' : tSt} (h : kSame st st') : dt st' = dt st := dt_eq (h 7 (by decide) (by decide) (by decide) (by decide) (by decide) (by decide) (by decide) (by decide)) (h 10 (by decide) (by decide) (by decide) (by decide) (by decide) (by decide) (by decide) (by decide)) (h 11 (by decide) (by decide) (by decide) (by decide) (by decide) (by decide) (by decide) (by decide)) (h 13 (by decide) (by decide) (by decide) (by decide) (by decide) (by decide) (by decide) (by decide)) (h 23 (by decide) (by decide) (by decide) (by decide) (by decide) (by decide) (by decide) (by decide)) (fun c hc => h _ (by omega) (by omega) (by omega) (by omega) (by omega) (by omega) (by omega) (by omega))
def CAS (D : Dt) (st0 st : tSt) (acc : List Nat) : Prop := kSame st0 st ∧ CIl D st (pts (dF D) acc) ∧ acc.length ≤ 6 ∧ (∀ k, k < 32 → (inB (st 26 0) k ↔ k ∈ acc)) ∧ (∀ d, d ∈ acc → d ∈ row D) ∧ ∃ g, plV D acc g ∧ ∀ k, k < (pts (dF D) acc).length → st 34 k = nI (g k)
theorem CIl_same {D : Dt} {st st' : tSt} {ps : List (Nat × Nat)} (h : CIl D st ps) (he : ∀ κ, κ ≠ 25 → κ ≠ 26 → κ ≠ 28 → st' κ = st κ) : CIl D st' ps := by
  obtain ⟨a1, a2, a3, a4, a5⟩ := h
  refine ⟨a1, by rw [he 27 (by decide) (by decide) (by decide)]; exact a2, fun j hj => ?_, fun p hp k => ?_, fun j k hj hk => ?_⟩
  · have := a3 j hj
    have cj : (pAt ps j).1 < 6 := this.1
    rw [he 33 (by decide) (by decide) (by decide), he _ (show 14 + (pAt ps j).1 ≠ 25 by omega) (by omega) (by omega)]
    exact this
  · rw [he 31 (by decide) (by decide) (by decide), a4 p hp k]
    unfold fOp pOK
    rw [he 10 (by decide) (by decide) (by decide), he 11 (by decide) (by decide) (by decide)]
  · have cj : (pAt ps j).1 < 6 := (a3 j hj).1
    have ck : (pAt ps k).1 < 6 := (a3 k hk).1
    have := a5 j k hj hk
    unfold brS fBr at this ⊢
    rw [he 32 (by decide) (by decide) (by decide), he _ (show 14 + (pAt ps j).1 ≠ 25 by omega) (by omega) (by omega), he _ (show 14 + (pAt ps k).1 ≠ 25 by omega) (by omega) (by omega)]
    exact this
theorem c_cast29 {D : Dt} {st0 : tSt} {o : Nat} {rest : List Nat} {post : tSt → Prop} {k89 : Int32 → Int32 → tSt → Prop} (hD : dt st0 = D) (hB : bOK D) (ho : o ≤ 3)
    (hK : ∀ (st : tSt) (acc pre : List Nat), CAS D st0 st acc → row D = pre ++ rest → (∀ d, d ∈ acc → d ∈ pre) → acc.Nodup → (∀ res, Gr (Pl D) rest acc res → Gr (Pl D) (row D) [] res) → k89 (nI (dw D)) (nI o) st) :
    ∀ (m c : Nat) (st : tSt) (acc pre : List Nat), c + m = 6 → CAS D st0 st acc → row D = pre ++ (rC D o m c ++ rest) → (∀ d, d ∈ acc → d ∈ pre) → acc.Nodup → (∀ res, Gr (Pl D) (rC D o m c ++ rest) acc res → Gr (Pl D) (row D) [] res) → wp_Plan_castCalls_24 post k89 (m + 1) (nI (dw D)) (nI o) (nI c) st
  | 0, c, st, acc, pre, hc, hS, hrow, hsub, hnd, hG => by
    have e : c = 6 := by omega
    subst e
    exact b_t (by decide) (hK st acc pre hS hrow hsub hnd hG)
  | m + 1, c, st, acc, pre, hc, hS, hrow, hsub, hnd, hG => by
    have hDs : dt st = D := by rw [kSame_dt hS.1]; exact hD
    have e13 : dT D c = st 13 c := by rw [← hDs]; rfl
    have eF : dF D c = st (14 + c) := by rw [← hDs]; exact fc_at (by omega)
    have ek := n_cl (show c < 2 ^ 31 by omega)
    refine b_f (nI_ge (a := c) (b := 6) (by omega) (by decide)) ⟨vp_in_nI (by omega) (by decide), ?_⟩
    rw [ek]
    by_cases zO : isO D o c = true
    · have hO := isO_spec zO
      rw [e13, eF] at hO
      have erC : rC D o (m + 1) c = c :: rC D o m (c + 1) := by show (if isO D o c = true then _ else _) = _; rw [if_pos zO]
      rw [erC] at hrow hG
      have hcr : c ∈ row D := by rw [hrow]; simp
      have hcp : ¬ c ∈ acc := fun z => by
        have hn := row_nodup D
        rw [hrow] at hn
        exact (List.pairwise_append.mp hn).2.2 c (hsub c z) c (by simp) rfl
      have hnd' : (acc ++ [c]).Nodup := List.pairwise_append.mpr ⟨hnd, List.nodup_cons.mpr ⟨List.not_mem_nil, List.nodup_nil⟩, fun a ha b hb e => hcp (by rw [List.mem_singleton.mp hb] at e; rw [← e]; exact ha)⟩
      have haccR : ∀ d, d ∈ acc → d ∈ row D := fun d hd => by rw [hrow]; exact List.mem_append.mpr (Or.inl (hsub d hd))
      have hokL' : ∀ d, d ∈ acc ++ [c] → d ∈ row D := fun d hd => (List.mem_append.mp hd).elim (haccR d) (fun z => by rw [List.mem_singleton.mp z]; exact hcr)
      have hokL : okL D (acc ++ [c]) := fun d hd => by
        rcases List.mem_append.mp hd with z | z
        · exact bOK_row hB d (haccR d z)
        · rw [List.mem_singleton.mp z]; exact bOK_row hB c hcr
      have hlen := len6 hnd' (fun d hd => (hokL d hd).1)
      rw [List.length_append] at hlen
      have hlen : acc.length + 1 ≤ 6 := hlen
      have hrow' : row D = (pre ++ [c]) ++ (rC D o m (c + 1) ++ rest) := by rw [hrow]; simp
      have hsubp : ∀ d, d ∈ acc → d ∈ pre ++ [c] := fun d hd => List.mem_append.mpr (Or.inl (hsub d hd))
      -- on without the call
      have skip : ∀ st' : tSt, CAS D st0 st' acc → ¬ Pl D (acc ++ [c]) → ∀ y : Int32, y = nI c + 1 → wp_Plan_castCalls_24 post k89 (m + 1) (nI (dw D)) (nI o) y st' := by
        intro st' hS' hno y e
        rw [nI_1] at e
        subst e
        exact c_cast29 hD hB ho hK m (c + 1) st' acc (pre ++ [c]) (by omega) hS' hrow' hsubp hnd (fun res h => hG res ⟨fun z => absurd z hno, fun _ => h⟩)
      refine b_f (by rw [hO.1]; decide) (b_t hO.2 (b_f (by decide) (c_hasPieces hDs (by omega) hokL hnd' hS.2.2.2.1 hB.2.1 (fun hp => ?_) (fun hp => b_t rfl (skip st hS (fun z => hp z.1))))))
      obtain ⟨g0, hg0, h34⟩ := hS.2.2.2.2.2
      have hpl := pts_len (dF D) acc
      refine b_f (by decide) (c_adm hDs (by omega) (bOK_row hB c hcr).2.2 hB.2.2 hS.2.1 (by omega) hg0 h34 (fun st' g b1 b2 b3 b4 => ?_) (fun st' b1 b2 b3 b4 => ?_))
      · refine b_f (by decide) (fun s3 e3 y e => ?_)
        rw [nI_1] at e
        subst e
        have o26 : s3 26 0 = st' 26 0 ||| ((1 : Int32) <<< (nI c &&& 31)) := by
          rw [e3]
          simp [tUp_ap]
        have oo : ∀ κ, κ ≠ 25 → κ ≠ 26 → κ ≠ 28 → s3 κ = st' κ := fun κ k1 k2 k3 => by rw [e3, tUp_ne _ _ _ k2]
        have hPl : Pl D (acc ++ [c]) := ⟨hp, g, b2⟩
        refine c_cast29 hD hB ho hK m (c + 1) s3 (acc ++ [c]) (pre ++ [c]) (by omega) ⟨fun κ k1 k2 k3 k4 k5 k6 k7 k8 => ?_, CIl_same b1 oo, ?_, fun k hk => ?_, fun d hd => (hokL' d hd), g, b2, fun k hk => ?_⟩ hrow' (fun d hd => ?_) hnd' (fun res h => hG res ⟨fun _ => h, fun z => absurd hPl z⟩)
        · rw [oo κ k1 k2 k4, b4 κ k3 k5 k6 k7 k8]
          exact hS.1 κ k1 k2 k3 k4 k5 k6 k7 k8
        · rw [List.length_append]; exact hlen
        · rw [o26, inB_or, b4 26 (by decide) (by decide) (by decide) (by decide) (by decide), hS.2.2.2.1 k hk, List.mem_append, List.mem_singleton]
          have : inB ((1 : Int32) <<< (nI c &&& 31)) k ↔ k = c := by
            unfold inB
            rw [bt_shl (by omega) hk, decide_eq_true_eq]
          rw [this]
        · rw [oo 34 (by decide) (by decide) (by decide)]
          exact b3 k hk
        · rcases List.mem_append.mp hd with z | z
          · exact hsubp d z
          · exact List.mem_append.mpr (Or.inr z)
      · refine b_t rfl (skip st' ⟨fun κ k1 k2 k3 k4 k5 k6 k7 k8 => by rw [b4 κ k3 k5 k6 k7 k8]; exact hS.1 κ k1 k2 k3 k4 k5 k6 k7 k8, b1, hS.2.2.1, by rw [b4 26 (by decide) (by decide) (by decide) (by decide) (by decide)]; exact hS.2.2.2.1, hS.2.2.2.2.1, g0, hg0, b3⟩ (fun z => b2 z.2))
    · have erC : rC D o (m + 1) c = rC D o m (c + 1) := by show (if isO D o c = true then _ else _) = _; rw [if_neg zO]
      rw [erC] at hrow hG
      have go : ∀ y : Int32, y = nI c + 1 → wp_Plan_castCalls_24 post k89 (m + 1) (nI (dw D)) (nI o) y st := by
        intro y e
        rw [nI_1] at e
        subst e
        exact c_cast29 hD hB ho hK m (c + 1) st acc pre (by omega) hS hrow hsub hnd hG
      by_cases z : st 13 c = 0
      · exact b_t z (b_t rfl go)
      · refine b_f z ?_
        by_cases z2 : st (14 + c) 0 = nI o
        · refine absurd ?_ zO
          rcases hB.1 c (by omega) with w | w
          · rw [e13] at w; exact absurd w z
          · unfold isO
            rw [decide_eq_true w.1, eF, decide_eq_true z2]
            rfl
        · exact b_f z2 (b_t rfl go)
theorem c_cast20 {D : Dt} {st0 : tSt} {post : tSt → Prop} {k95 : tSt → Prop} (hD : dt st0 = D) (hB : bOK D) (hK : ∀ (st : tSt) (res : List Nat), CAS D st0 st res → res.Nodup → Gr (Pl D) (row D) [] res → k95 st) : ∀ (m o : Nat) (st : tSt) (acc pre : List Nat), o + m = 4 → CAS D st0 st acc → row D = pre ++ rO D m o → (∀ d, d ∈ acc → d ∈ pre) → acc.Nodup → (∀ res, Gr (Pl D) (rO D m o) acc res → Gr (Pl D) (row D) [] res) → wp_Plan_castCalls_15 post k95 (m + 1) (nI (dw D)) (nI o) st
  | 0, o, st, acc, pre, ho, hS, hrow, hsub, hnd, hG => by
    have e : o = 4 := by omega
    subst e
    exact b_t (by decide) (hK st acc hS hnd (hG acc rfl))
  | m + 1, o, st, acc, pre, ho, hS, hrow, hsub, hnd, hG => by
    refine b_f (nI_nlt (a := 3) (b := o) (by omega) (by omega)) ⟨7, c_cast29 (rest := rO D m (o + 1)) hD hB (by omega) (fun st' acc' pre' b1 b2 b3 b4 b5 y e => ?_) 6 0 st acc pre rfl hS hrow hsub hnd hG⟩
    rw [nI_1] at e
    subst e
    exact c_cast20 hD hB hK m (o + 1) st' acc' pre' (by omega) b1 b2 b3 b4 b5
theorem c_fill0 {st0 : tSt} {post : tSt → Prop} (h : ∀ st' : tSt, (∀ κ, κ ≠ 31 → st' κ = st0 κ) → (∀ p, p < 6 → st' 31 p = 0) → post st') : ∀ (m q : Nat) (st : tSt), q + m = 6 → (∀ κ, κ ≠ 31 → st κ = st0 κ) → (∀ p, p < q → st 31 p = 0) → wp_Arrays_fill_5 post (m + 1) 0 (nI q) 6 st
  | 0, q, st, hq, a1, a2 => by
    have e : q = 6 := by omega
    subst e
    exact b_t (by decide) (h st a1 a2)
  | m + 1, q, st, hq, a1, a2 => by
    have hin : vp_in (nI q) 6 := vp_in_nI (by omega) (by decide)
    refine b_f (nI_ge (a := q) (b := 6) (by omega) (by decide)) ⟨hin, fun s3 e3 y e => ?_⟩
    rw [n_cl (show q < 2 ^ 31 by omega)] at e3
    rw [nI_1] at e
    subst e
    refine c_fill0 h m (q + 1) s3 (by omega) (fun κ hκ => by rw [e3, tUp_ne _ _ _ hκ]; exact a1 κ hκ) (fun p hp => ?_)
    rw [e3]
    by_cases z : p = q
    · simp [tUp_ap, z]
    · simp only [tUp_ap, z]
      exact a2 p (by omega)
/-- what the class's plan holds of the cast -/
def PCk (D : Dt) (st : tSt) (res : List Nat) (g : Nat → Nat) : Prop := Gr (Pl D) (row D) [] res ∧ res.Nodup ∧ res.length ≤ 6 ∧ (∀ k, k < 32 → (inB (st 26 0) k ↔ k ∈ res)) ∧ (∀ d, d ∈ res → d ∈ row D) ∧ st 27 0 = nI (pts (dF D) res).length ∧ (∀ j, j < (pts (dF D) res).length → st 33 j = nI (pAt (pts (dF D) res) j).1 ∧ st 34 j = nI (g j)) ∧ plL D res g
theorem c_castCalls {D : Dt} {st : tSt} {post : tSt → Prop} (hD : dt st = D) (hB : bOK D) (hQ : ∀ (st' : tSt) (res : List Nat) (g : Nat → Nat), kSame st st' → PCk D st' res g → post st') : wp_Plan_castCalls (nI (dw D)) st post := by
  intro s1 e1
  refine ⟨7, c_fill0 (st0 := s1) (fun s2 f1 f2 s4 e4 => ?_) 6 0 s1 rfl (fun _ _ => rfl) (fun p hp => absurd hp (by omega))⟩
  have oo : ∀ κ, κ ≠ 25 → κ ≠ 26 → κ ≠ 27 → κ ≠ 31 → s4 κ = st κ := fun κ k1 k2 k3 k4 => by
    rw [e4, tUp_ne _ _ _ k2, f1 κ k4, e1, tUp_ne _ _ _ k3]
  have o31 : ∀ p, p < 6 → s4 31 p = 0 := fun p hp => by
    rw [e4, tUp_ne _ _ _ (by decide)]
    exact f2 p hp
  have o27 : s4 27 0 = 0 := by
    rw [e4, tUp_ne _ _ _ (by decide), f1 27 (by decide), e1]
    simp [tUp_ap]
  have sm : kSame st s4 := fun κ k1 k2 k3 k4 k5 k6 k7 k8 => oo κ k1 k2 k3 k5
  have hD4 : dt s4 = D := by rw [kSame_dt sm]; exact hD
  refine ⟨5, c_cast20 (st0 := s4) hD4 hB (fun s5 res b1 b2 b3 => ?_) 4 0 s4 [] [] rfl ⟨fun _ _ _ _ _ _ _ _ _ => rfl, ⟨by show 0 ≤ 12; omega, o27, fun j hj => absurd hj (by show ¬ j < 0; omega), fun p hp k => ?_, fun j k hj => absurd hj (by show ¬ j < 0; omega)⟩, Nat.zero_le 6, fun k hk => ?_, fun d hd => absurd hd List.not_mem_nil, fun _ => 0, ⟨fun i hi => absurd hi (by show ¬ i < 0; omega), fun i j _ hj => absurd hj (by show ¬ j < 0; omega)⟩, fun k hk => absurd hk (by show ¬ k < 0; omega)⟩ rfl (fun d hd => hd) List.nodup_nil (fun res h => h)⟩
  · have hD5 : dt s5 = D := by rw [kSame_dt b1.1]; exact hD4
    obtain ⟨g0, hg0, h34⟩ := b1.2.2.2.2.2
    refine c_lowerAll hD5 b1.2.1 hg0 h34 (fun s6 g c1 c2 c3 => ?_)
    refine hQ s6 res g (fun κ k1 k2 k3 k4 k5 k6 k7 k8 => by rw [c1 κ k5 k8, b1.1 κ k1 k2 k3 k4 k5 k6 k7 k8]; exact sm κ k1 k2 k3 k4 k5 k6 k7 k8) ⟨b3, b2, b1.2.2.1, by rw [c1 26 (by decide) (by decide)]; exact b1.2.2.2.1, b1.2.2.2.2.1, by rw [c1 27 (by decide) (by decide)]; exact b1.2.1.2.1, fun j hj => ⟨by rw [c1 33 (by decide) (by decide)]; exact (b1.2.1.2.2.1 j hj).2.2.1, c3 j hj⟩, c2⟩
  · rw [o31 p hp]
    refine ⟨fun v => ?_, fun v => absurd v.1 (by show ¬ k < 0; omega)⟩
    unfold inB at v
    rw [b_0] at v
    cases v
  · rw [e4]
    simp only [tUp_ap]
    refine ⟨fun v => ?_, fun v => by cases v⟩
    unfold inB at v
    simp at v
    rw [b_0] at v
    cases v
