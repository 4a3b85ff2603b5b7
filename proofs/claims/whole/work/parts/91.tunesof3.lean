/-! tunes: the class's round over the calls -/
theorem c_ph {st : tSt} {res : List Nat} {c : Nat} {post : Int32 → tSt → Prop} (h : ∀ k, k < 32 → (inB (st 26 0) k ↔ k ∈ res)) (hc : c < 6) (h1 : c ∈ res → post 1 st) (h0 : ¬ c ∈ res → post 0 st) : wp_Plan_has (nI c) st post := by
  refine c_w1 (c_in5 hc).1 (c_in5 hc).2 (b_f (by decide) (c_has (by omega) ?_))
  by_cases z : c ∈ res
  · rw [if_pos (show bt (st 26 0) c = true from (h c (by omega)).mpr z)]
    exact b_f (by decide) (h1 z)
  · rw [if_neg (show ¬ bt (st 26 0) c = true from fun w => z ((h c (by omega)).mp w))]
    exact b_t rfl (h0 z)
/-- where the round stands behind the calls pre of the row -/
def TS (Dd : Nat) (res : List Nat) (v0 : Nat → Int32) (st0 st : tSt) (pre : List Nat) : Prop := tSame st0 st ∧ (∀ c, c ∈ pre → c ∈ res → st 29 c = oI (tch (fitS st0) (6 * Dd) res 0 v0 c)) ∧ st 30 = tfin (fitS st0) (6 * Dd) (accOf res pre) 0 v0
theorem c_ch46 {D : Dt} {st0 : tSt} {res rest : List Nat} {Dd o : Nat} {v0 : Nat → Int32} {post : tSt → Prop} {k117 : Int32 → Int32 → Int32 → tSt → Prop} (hD : dt st0 = D) (hB : bOK D) (h2 : st0 2 0 = nI Dd) (hDd : Dd ≤ 9999) (h26 : ∀ k, k < 32 → (inB (st0 26 0) k ↔ k ∈ res)) (ha : accOf res (row D) = res)
    (hK : ∀ (st : tSt) (pre : List Nat), TS Dd res v0 st0 st pre → row D = pre ++ rest → k117 (nI (Dd / 30 % 12)) (nI (6 * Dd + (accOf res pre).length)) (nI o) st) :
    ∀ (m c : Nat) (st : tSt) (pre : List Nat), c + m = 6 → TS Dd res v0 st0 st pre → row D = pre ++ (rC D o m c ++ rest) → wp_Plan_chooseTunes_46 post k117 (m + 1) (nI (Dd / 30 % 12)) (nI (6 * Dd + (accOf res pre).length)) (nI o) (nI c) st
  | 0, c, st, pre, hc, hS, hrow => by
    have e : c = 6 := by omega
    subst e
    exact b_t (by decide) (hK st pre hS hrow)
  | m + 1, c, st, pre, hc, hS, hrow => by
    have hc6 : c < 6 := by omega
    have ec := n_cl (show c < 2 ^ 31 by omega)
    have hinc : vp_in (nI c) 6 := vp_in_nI hc6 (by decide)
    have e13 : dT D c = st 13 c := by rw [← hD, hS.1 13 (by decide) (by decide)]; rfl
    have eF0 : dF D c = st0 (14 + c) := by rw [← hD]; exact fc_at hc6
    have eF : dF D c = st (14 + c) := by rw [hS.1 _ (show 14 + c ≠ 29 by omega) (by omega)]; exact eF0
    have go : ∀ (s' : tSt) (pre' : List Nat) (y5 : Int32), TS Dd res v0 st0 s' pre' → row D = pre' ++ (rC D o m (c + 1) ++ rest) → y5 = nI (6 * Dd + (accOf res pre').length) → ∀ y : Int32, y = nI c + 1 → wp_Plan_chooseTunes_46 post k117 (m + 1) (nI (Dd / 30 % 12)) y5 (nI o) y s' := by
      intro s' pre' y5 a1 a2 a3 y e
      rw [nI_1] at e
      subst e
      subst a3
      exact c_ch46 hD hB h2 hDd h26 ha hK m (c + 1) s' pre' (by omega) a1 a2
    refine b_f (nI_ge (a := c) (b := 6) hc6 (by decide)) (c_ph (res := res) (by rw [hS.1 26 (by decide) (by decide)]; exact h26) hc6 (fun zr => b_f (by decide) ⟨hinc, ?_⟩) (fun zr => b_t rfl ?_))
    · rw [ec]
      by_cases zO : isO D o c = true
      · have hO := isO_spec zO
        rw [e13, eF] at hO
        have erC : rC D o (m + 1) c = c :: rC D o m (c + 1) := by show (if isO D o c = true then _ else _) = _; rw [if_pos zO]
        rw [erC] at hrow
        have hcr : c ∈ row D := by rw [hrow]; simp
        have hcp : ¬ c ∈ pre := fun z => by
          have hn := row_nodup D
          rw [hrow] at hn
          exact (List.pairwise_append.mp hn).2.2 c z c (by simp) rfl
        have hrow' : row D = (pre ++ [c]) ++ (rC D o m (c + 1) ++ rest) := by rw [hrow]; simp
        have hsp : res = accOf res pre ++ c :: accOf res (rC D o m (c + 1) ++ rest) := acc_split (by rw [← List.cons_append, ← hrow]; exact ha) zr
        obtain ⟨oc1, oc2⟩ := occ_ok (show rCallOK (st0 (14 + c)) by rw [← eF0]; exact (bOK_row hB c hcr).2.2)
        refine b_f (by rw [hO.1]; decide) (b_t hO.2 (b_f (by decide) ⟨hinc, c_fact (k := 4) (by decide) ?_⟩))
        have e4 : st (14 + c) 4 = nI (st0 (14 + c) 4).toNatClampNeg := by rw [hS.1 _ (show 14 + c ≠ 29 by omega) (by omega)]; exact oc2
        rw [e4]
        have mo12 : Dd / 30 % 12 < 12 := Nat.mod_lt _ (by decide)
        refine ⟨11, c_longL (by omega) (by omega) ?_ 10 0 rfl⟩
        have ef : (fun t => bt (st 20 t) (st0 (14 + c) 4).toNatClampNeg && bt (st 21 t) (Dd / 30 % 12)) = fitS st0 c := by
          funext t
          unfold fitS
          rw [fc_at hc6, hS.1 20 (by decide) (by decide), hS.1 21 (by decide) (by decide), h2, n_cl (by omega)]
        rw [ef]
        refine ⟨hinc, fun s9 e9 => ⟨hinc, ?_⟩⟩
        have s9o : ∀ κ, κ ≠ 29 → s9 κ = st κ := fun κ hκ => by rw [e9, tUp_ne _ _ _ hκ]
        have s929 : ∀ d, s9 29 d = if d = c then oI (pick (fitS st0 c) (st 30) 10) else st 29 d := fun d => by
          rw [e9]
          by_cases z : d = c <;> simp [tUp_ap, z]
        have fin : ∀ s' : tSt, tSame st0 s' → s' 29 = s9 29 → s' 30 = appO (st 30) (pick (fitS st0 c) (st 30) 10) (nI (6 * Dd + (accOf res pre).length)) → ∀ y5 : Int32, y5 = nI (6 * Dd + (accOf res pre).length) + 1 → ∀ y : Int32, y = nI c + 1 → wp_Plan_chooseTunes_46 post k117 (m + 1) (nI (Dd / 30 % 12)) y5 (nI o) y s' := by
          intro s' hS' q29 q30 y5 e5
          refine go s' (pre ++ [c]) y5 ⟨hS', fun d hd hdr => ?_, ?_⟩ hrow' ?_
          · rw [q29, s929]
            by_cases z : d = c
            · have ht := tch_at (fit := fitS st0) (D6 := 6 * Dd) (c := c) (r := accOf res (rC D o m (c + 1) ++ rest)) (accOf res pre) 0 v0 (acc_nin hcp)
              rw [← hsp] at ht
              rw [if_pos z, z, ht, hS.2.2]
            · rw [if_neg z]
              exact hS.2.1 d ((List.mem_append.mp hd).elim id (fun w => absurd (List.mem_singleton.mp w) z)) hdr
          · rw [q30, acc_in zr, tfin_snoc, hS.2.2, Nat.zero_add]
          · rw [e5, nI_1, acc_in zr, List.length_append]
            rfl
        rw [show s9 29 c = oI (pick (fitS st0 c) (st 30) 10) by rw [s929, if_pos rfl]]
        cases hp : pick (fitS st0 c) (st 30) 10 with
        | none =>
          rw [hp] at fin
          exact c_w0 (Or.inl (by decide)) (b_t rfl (fin s9 (fun κ k1 k2 => by rw [s9o κ k1]; exact hS.1 κ k1 k2) rfl (s9o 30 (by decide))))
        | some t =>
          rw [hp] at fin
          have ht := (pick_some 10 hp).1
          have et : (oI (some t)).toNatClampNeg = t := n_cl (show t < 2 ^ 31 by omega)
          refine c_w1 (nI_pos (show t < 2 ^ 31 by omega)) (nI_nlt (a := 9) (b := t) (by omega) (by decide)) (b_f (by decide) ⟨vp_in_nI ht (by decide), fun s7 e7 => ?_⟩)
          rw [et] at e7
          refine fin s7 (fun κ k1 k2 => by rw [e7, tUp_ne _ _ _ k2, s9o κ k1]; exact hS.1 κ k1 k2) (by rw [e7, tUp_ne _ _ _ (by decide)]) ?_
          rw [e7, tUp_self, s9o 30 (by decide)]
          rfl
      · have erC : rC D o (m + 1) c = rC D o m (c + 1) := by show (if isO D o c = true then _ else _) = _; rw [if_neg zO]
        rw [erC] at hrow
        by_cases z : st 13 c = 0
        · exact b_t z (b_t rfl (go st pre _ hS hrow rfl))
        · refine b_f z ?_
          by_cases z2 : st (14 + c) 0 = nI o
          · refine absurd ?_ zO
            rcases hB.1 c hc6 with w | w
            · rw [e13] at w; exact absurd w z
            · unfold isO
              rw [decide_eq_true w.1, eF, decide_eq_true z2]
              rfl
          · exact b_f z2 (b_t rfl (go st pre _ hS hrow rfl))
    · by_cases zO : isO D o c = true
      · have erC : rC D o (m + 1) c = c :: rC D o m (c + 1) := by show (if isO D o c = true then _ else _) = _; rw [if_pos zO]
        rw [erC] at hrow
        refine go st (pre ++ [c]) _ ⟨hS.1, fun d hd hdr => hS.2.1 d ((List.mem_append.mp hd).elim id (fun w => absurd (by rw [← List.mem_singleton.mp w]; exact hdr) zr)) hdr, by rw [acc_out zr]; exact hS.2.2⟩ (by rw [hrow]; simp) (by rw [acc_out zr])
      · have erC : rC D o (m + 1) c = rC D o m (c + 1) := by show (if isO D o c = true then _ else _) = _; rw [if_neg zO]
        rw [erC] at hrow
        exact go st pre _ hS hrow rfl
theorem c_ch37 {D : Dt} {st0 : tSt} {res : List Nat} {Dd : Nat} {v0 : Nat → Int32} {post : tSt → Prop} (hD : dt st0 = D) (hB : bOK D) (h2 : st0 2 0 = nI Dd) (hDd : Dd ≤ 9999) (h26 : ∀ k, k < 32 → (inB (st0 26 0) k ↔ k ∈ res)) (ha : accOf res (row D) = res)
    (hQ : ∀ st : tSt, TS Dd res v0 st0 st (row D) → post st) : ∀ (m o : Nat) (st : tSt) (pre : List Nat), o + m = 4 → TS Dd res v0 st0 st pre → row D = pre ++ rO D m o → wp_Plan_chooseTunes_37 post (m + 1) (nI (Dd / 30 % 12)) (nI (6 * Dd + (accOf res pre).length)) (nI o) st
  | 0, o, st, pre, ho, hS, hrow => by
    have e : o = 4 := by omega
    subst e
    have hrow : row D = pre ++ [] := hrow
    rw [List.append_nil] at hrow
    exact b_t (by decide) (hQ st (by rw [hrow]; exact hS))
  | m + 1, o, st, pre, ho, hS, hrow => by
    have hrow : row D = pre ++ (rC D o 6 0 ++ rO D m (o + 1)) := hrow
    refine b_f (nI_nlt (a := 3) (b := o) (by omega) (by omega)) ⟨7, c_ch46 (rest := rO D m (o + 1)) hD hB h2 hDd h26 ha (fun st' pre' b1 b2 y e => ?_) 6 0 st pre rfl hS hrow⟩
    rw [nI_1] at e
    subst e
    exact c_ch37 hD hB h2 hDd h26 ha hQ m (o + 1) st' pre' (by omega) b1 b2
theorem c_chooseTunes {D : Dt} {st : tSt} {res : List Nat} {Dd : Nat} {post : tSt → Prop} (hD : dt st = D) (hB : bOK D) (h2 : st 2 0 = nI Dd) (hDd : Dd ≤ 9999) (h26 : ∀ k, k < 32 → (inB (st 26 0) k ↔ k ∈ res)) (ha : accOf res (row D) = res) (hQ : ∀ (st' : tSt) (v0 : Nat → Int32), tSame st st' → PTk st' res v0 → post st') : wp_Plan_chooseTunes (nI (Dd / 30 % 12)) (nI (6 * Dd)) st post := by
  refine ⟨11, c_choose3 (fun s1 a1 a2 => ?_) 10 0 st rfl (fun _ _ => rfl) (fun t ht => absurd ht (by omega))⟩
  have hD1 : dt s1 = D := by
    rw [← hD]
    exact dt_eq (a1 7 (by decide)) (a1 10 (by decide)) (a1 11 (by decide)) (a1 13 (by decide)) (a1 23 (by decide)) (fun c hc => a1 _ (by omega))
  refine ⟨5, c_ch37 (st0 := s1) (v0 := s1 30) hD1 hB (by rw [a1 2 (by decide)]; exact h2) hDd (by rw [a1 26 (by decide)]; exact h26) ha (fun st' b => ?_) 4 0 s1 [] rfl ⟨fun _ _ _ => rfl, fun c hc => absurd hc List.not_mem_nil, rfl⟩ rfl⟩
  obtain ⟨b1, b2, b3⟩ := b
  have t2 : tSame st st' := fun κ k1 k2 => by rw [b1 κ k1 k2]; exact a1 κ k2
  have e2 : (st' 2 0).toNatClampNeg = Dd := by rw [t2 2 (by decide) (by decide), h2]; exact n_cl (by omega)
  refine hQ st' (s1 30) t2 ⟨fun t ht => by rw [a2 t ht, t2 22 (by decide) (by decide)], fun c hc => ?_, ?_⟩
  · rw [e2, tSame_fit b1]
    exact b2 c (by rw [← ha] at hc; exact (List.mem_filter.mp hc).1) hc
  · rw [ha] at b3
    rw [e2, tSame_fit b1]
    exact b3
