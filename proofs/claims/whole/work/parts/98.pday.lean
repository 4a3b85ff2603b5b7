/-! a day: both sides -/
theorem day_fu {s t1 : tSt} {P : Nat} {res r : List Nat} (hnd : r.Nodup) (h6 : ∀ c, c ∈ r → c < 6) (hsub : ∀ c, c ∈ res → c ∈ r) (h0 : ∀ c, c < 6 → ¬ c ∈ r → s 13 c = 0) (hcl : ∀ c, c ∈ r → s 13 c = 1 ∧ s (14 + c) 7 = t1 17 (8 * c + 7) ∧ s (14 + c) 0 = t1 17 (8 * c + 0)) (e1 : s 7 1 = t1 10 1) (e3 : s 7 3 = t1 10 3) (eh : ∀ p, p < P → s 11 p = t1 14 p) : zN (dfu res (fuS s) (twS s) (s 11) (s 7 3) P) 6 = zL (dfu res (fuM t1) (twM t1) (t1 14) (t1 10 3) P) r := by
  rw [← zL_zN r hnd h6]
  refine zN_congr 6 (fun c hc => ?_)
  unfold dfu
  by_cases z : c ∈ r
  · obtain ⟨k1, k2, k3⟩ := hcl c z
    rw [if_pos z]
    by_cases w : c ∈ res
    · rw [if_pos w, if_pos w]
      unfold fuS fuM
      rw [k2, e1]
    · rw [if_neg w, if_neg w]
      have et : twS s c = twM t1 c := by
        unfold twS twM
        rw [k1, k3]
        simp
      have ez : zN (fun p => if s 11 p = 0 then s 7 3 else 0) P = zN (fun p => if t1 14 p = 0 then t1 10 3 else 0) P := zN_congr P (fun p hp => by rw [eh p hp, e3])
      rw [et, ez]
  · have w : ¬ c ∈ res := fun q => z (hsub c q)
    have et : ¬ twS s c = true := by
      unfold twS
      rw [h0 c hc z]
      simp
    rw [if_neg z, if_neg w, if_neg et]
theorem day_wg {D : Dt} {s t1 : tSt} {p : Nat} {res r : List Nat} {g g' : Nat → Nat} (hnd : r.Nodup) (h6 : ∀ c, c ∈ r → c < 6) (hsub : ∀ c, c ∈ res → c ∈ r) (h0 : ∀ c, c < 6 → ¬ c ∈ r → s 13 c = 0) (hcl : ∀ c, c ∈ r → s 13 c = 1 ∧ s (14 + c) 7 = t1 17 (8 * c + 7) ∧ s (14 + c) 0 = t1 17 (8 * c + 0)) (e3 : s 7 3 = t1 10 3) (eh : s 11 p = t1 14 p) (hsh : ∀ c, c ∈ res → shS D s res g c p = shM D t1 res g' c p) : zN (dwg res (shS D s res g) (twS s) (s 11) (s 7 3) p) 6 = zL (dwg res (shM D t1 res g') (twM t1) (t1 14) (t1 10 3) p) r := by
  rw [← zL_zN r hnd h6]
  refine zN_congr 6 (fun c hc => ?_)
  unfold dwg
  by_cases z : c ∈ r
  · obtain ⟨k1, k2, k3⟩ := hcl c z
    rw [if_pos z]
    by_cases w : c ∈ res
    · rw [if_pos w, if_pos w]
      exact hsh c w
    · rw [if_neg w, if_neg w]
      have et : twS s c = twM t1 c := by
        unfold twS twM
        rw [k1, k3]
        simp
      rw [et, eh, e3]
  · have w : ¬ c ∈ res := fun q => z (hsub c q)
    have et : ¬ twS s c = true := by
      unfold twS
      rw [h0 c hc z]
      simp
    rw [if_neg z, if_neg w, if_neg (fun q => et q.1)]
theorem pyF_congr {how how' : Nat → Int32} {pen F : Int32} : ∀ k, (∀ i, i < k → how' i = how i) → pyF how' pen F k = pyF how pen F k
  | 0, _ => rfl
  | k + 1, h => by
    show (if how' k = 2 then pyF how' pen F k - mnV pen (pyF how' pen F k) else pyF how' pen F k) = (if how k = 2 then pyF how pen F k - mnV pen (pyF how pen F k) else pyF how pen F k)
    rw [pyF_congr k (fun i hi => h i (by omega)), h k (by omega)]
theorem pyW_congr {how how' : Nat → Int32} {pen F : Int32} {W W' : Nat → Int32} {k p : Nat} (h : ∀ i, i < k → how' i = how i) (hW : W' p = W p) : pyW how' pen F W' k p = pyW how pen F W k p := by
  unfold pyW
  rw [hW]
  by_cases z : p < k
  · rw [h p z, pyF_congr p (fun i hi => h i (by omega))]
  · rw [if_neg (fun q => z q.1), if_neg (fun q => z q.1)]
theorem tfin_out {fit : Nat → Nat → Bool} {D6 T i : Nat} (hT : T ≤ 10) (hi : T ≤ i) (hno : ∀ c j, T ≤ j → j < 10 → ¬ fit c j = true) : ∀ (l : List Nat) (k : Nat) (v : Nat → Int32), tfin fit D6 l k v i = v i
  | [], k, v => rfl
  | c :: l, k, v => by
    show tfin fit D6 l (k + 1) (appO v (pick (fit c) v 10) (nI (D6 + k))) i = v i
    rw [tfin_out hT hi hno l (k + 1)]
    cases hp : pick (fit c) v 10 with
    | none => rfl
    | some t =>
      rw [pick_lt hT (hno c)] at hp
      have ht := (pick_some T hp).1
      show upd v t (nI (D6 + k)) i = v i
      rw [upd_ap, if_neg (by omega)]
theorem yrK_le (Dd P : Nat) : yrK Dd P ≤ P := by
  unfold yrK
  by_cases z : (Dd + 1) % 360 = 0
  · rw [if_pos z]; exact Nat.le_refl P
  · rw [if_neg z]; exact Nat.zero_le P
theorem p_day : lwP_day (tRel PO) := by
  intro st sm hR
  obtain ⟨-, -, -, -, -, ⟨T, Dd, q6, q7⟩, -⟩ := id hR.1
  have hD9 := q7.1
  by_cases hD : Dd = 9999
  · refine b_f (by rw [q7.2.1, hD]; decide) (b_t (by rw [q7.2.2.1, hD]; rfl) ⟨rfl, hR⟩)
  have hD : Dd < 9999 := by omega
  refine b_t (by rw [q7.2.1]; exact nI_lt (b := 9999) hD (by decide)) (c_plan hR (fun s' k4 h4 hp => ?_))
  have hB' := rBase_c (fun κ k1 k2 _ => k4 κ (by omega) k2) hR.1
  have q6 : rTunes s' sm T := q6.of (k4 1 (by decide) (by decide)) (k4 20 (by decide) (by decide)) (k4 21 (by decide) (by decide)) (k4 22 (by decide) (by decide)) rfl rfl rfl
  have q7 : rHeard s' sm T Dd := q7.of (k4 2 (by decide) (by decide)) (k4 22 (by decide) (by decide)) rfl rfl rfl rfl
  obtain ⟨q1, hw, ⟨P, hP⟩, q4, q5, -, q8⟩ := id hB'
  have hM := rB_MDP hB' hP
  obtain ⟨p1, p2, p3, p4, p5, p6⟩ := id hP
  obtain ⟨res, g, v0, hc, ht⟩ := id hp
  have hbo := MD_bOK hM
  obtain ⟨o1, o2, o3, o4⟩ := pl_ok hbo (PCk_acc hc) hc.2.1
  have hrk : rkOK (s' 9) P := fun i hi => (p4 i hi).2.2
  have h13 : ∀ c, c < 6 → s' 13 c = 0 ∨ s' 13 c = 1 := fun c hc => (q5 c hc).elim (fun h => Or.inl h.1) (fun h => Or.inr h.1)
  have e2 : (s' 2 0).toNatClampNeg = Dd := by rw [q7.2.1]; exact n_cl (by omega)
  refine c_dayE hM hc p2 hrk h13 q7.2.1 hD (fun sF F W f1 f2 f3 g1 g2 g3 g4 g5 g6 g7 => ?_)
  show wp_M_day sm (fun r1 sm1 => nI (Dd + 1) = r1 ∧ tRel PO sF sm1)
  refine b_f (by rw [q7.2.2.1]; exact fun e => by have := (nI_eq (b := 9999) (by omega) (by decide)).mp e; omega) (m_tunesOf hM q6 q7 ht.1 (fun t1 res' g' u1 m1 m2 => ?_))
  obtain ⟨e, eg⟩ := pl_uniq hc m1
  subst e
  have u := fun κ (z : κ < 6 ∨ (8 < κ ∧ κ < 22)) => u1 κ (by omega) (by omega) (by omega) (by omega) (by omega) (by omega) (by omega) (by omega) (by omega) (by omega)
  have hM1 : MD (dt s') t1 P := MD_of hM (u 17 (by decide)) (u 10 (by decide)) (u 16 (by decide)) (u 2 (by decide)) (u 13 (by decide)) (u 14 (by decide))
  have hrk1 : rkOK (t1 12) P := fun i hi => by
    obtain ⟨r, r1, r2, r3⟩ := (p4 i hi).2.2
    exact ⟨r, r1, r2, by rw [u 12 (by decide), ← (p4 i hi).1]; exact r3⟩
  have hC : TC (dt s') s' t1 T Dd res' := rB_TC hM q6 q7 (u 1 (by decide)) (u 3 (by decide)) (u 17 (by decide)) (u 18 (by decide)) (u 19 (by decide)) (MWk_acc m1)
  have hO : mT s' T Dd res' v0 [] t1 := by
    obtain ⟨N, n1, n2⟩ := rH_OI q7
    refine ⟨N, by rw [u 5 (by decide)]; exact n1, ?_⟩
    rw [u 21 (by decide), u 20 (by decide)]
    exact OI_congr n2 (fun i hi => ht.1 i (by have := q6.1; omega)) (fun _ _ => rfl) (fun _ _ => rfl)
  refine m_dayE hM1 m1 o1 hrk1 hC hD m2 hO (fun tF F' W' f1' f2' f3' g1' g2' g3' g4' g5' g6' => ⟨rfl, ?_, Or.inl g3⟩)
  have k := fun κ (z : κ ≠ 2 ∧ κ ≠ 3 ∧ κ ≠ 4 ∧ κ ≠ 12 ∧ κ ≠ 13 ∧ κ ≠ 22) => g1 κ z.1 z.2.1 z.2.2.1 z.2.2.2.1 z.2.2.2.2.1 z.2.2.2.2.2
  have k' := fun κ (z : (κ < 6 ∨ (8 < κ ∧ κ < 22)) ∧ κ ≠ 1 ∧ κ ≠ 4 ∧ κ ≠ 5 ∧ κ ≠ 15 ∧ κ ≠ 17 ∧ κ ≠ 20 ∧ κ ≠ 21) => (g1' κ z.2.1 z.2.2.1 z.2.2.2.1 z.2.2.2.2.1 z.2.2.2.2.2.1 z.2.2.2.2.2.2.1 z.2.2.2.2.2.2.2).trans (u κ z.1)
  -- the two sums
  have hsub : ∀ c, c ∈ res' → c ∈ row (dt s') := fun c h => acc_sub (PCk_acc hc) h
  have hrow0 : ∀ c, c < 6 → ¬ c ∈ row (dt s') → s' 13 c = 0 := fun c hc6 hn => by
    rcases q5 c hc6 with h | ⟨h1, h2, h3⟩
    · exact h.1
    · exact absurd (mem_row hc6 h1 (by show rCallOK (fc s' c); rw [fc_at hc6]; exact h3)) hn
  have hcl : ∀ c, c ∈ row (dt s') → s' 13 c = 1 ∧ s' (14 + c) 7 = t1 17 (8 * c + 7) ∧ s' (14 + c) 0 = t1 17 (8 * c + 0) := fun c hcr => by
    obtain ⟨hc6, hc1⟩ := row_mem hcr
    rcases q5 c hc6 with h | ⟨h1, h2, h3⟩
    · have hc1 : s' 13 c = 1 := hc1
      rw [h.1] at hc1
      exact absurd hc1 (by decide)
    · rw [u 17 (by decide)]
      exact ⟨h1, h2 7 (by decide), h2 0 (by decide)⟩
  have e1 : s' 7 1 = t1 10 1 := by rw [u 10 (by decide)]; exact hw.1 1 (by decide)
  have e3 : s' 7 3 = t1 10 3 := by rw [u 10 (by decide)]; exact hw.1 3 (by decide)
  have e22 : s' 7 2 = t1 10 2 := by rw [u 10 (by decide)]; exact hw.1 2 (by decide)
  have eh : ∀ p, p < 6 → s' 11 p = t1 14 p := fun p hp => by rw [u 14 (by decide)]; exact (p5 p hp).1
  have hr6 : ∀ c, c ∈ row (dt s') → c < 6 := fun c h => (row_mem h).1
  have eF : F = F' := by
    rw [f1, f1', day_fu (row_nodup (dt s')) hr6 hsub hrow0 hcl e1 e3 (fun p hp => eh p (by omega)), u 4 (by decide), q8]
  have eW : ∀ p, p < 6 → W p = W' p := fun p hp6 => by
    have e15 : s' 12 p = t1 15 p := by rw [u 15 (by decide)]; exact (p5 p hp6).2.1
    by_cases z : p < P
    · have hsh : ∀ c, c ∈ res' → shS (dt s') s' res' g c p = shM (dt s') t1 res' g' c p := fun c hcr => by
        unfold shS shM
        rw [(hcl c (hsub c hcr)).2.1, e1, wl_congr (g := g) (g' := g') _ 0 0 (fun i _ h2 => eg i (by omega)), wl_congr (g := g) (g' := g') _ 1 0 (fun i _ h2 => eg i (by omega))]
        exact shV_congr p1 (f_ok hM hc.2.2.2.2.2.2.2 hcr) z (fun i hi => by rw [u 12 (by decide)]; exact (p4 i hi).1)
      rw [f2 p z, f2' p z, e15, day_wg (row_nodup (dt s')) hr6 hsub hrow0 hcl e3 (eh p hp6) hsh]
    · rw [f3 p (by omega), f3' p (by omega), e15]
  have hK := yrK_le Dd P
  have e30 : s' 30 = tfin (fitS s') (6 * Dd) res' 0 v0 := by
    have := ht.2.2
    rw [e2] at this
    exact this
  have no := fun c => fit_no q6 c
  refine ⟨q1.of (k 5 (by decide)) (k 6 (by decide)) (k' 0 (by decide)) (k' 9 (by decide)), hw.of (k 7 (by decide)) (k' 10 (by decide)), ⟨P, p1, by rw [k 0 (by decide)]; exact p2, by rw [k' 2 (by decide)]; exact p3, fun i hi => ?_, fun i hi => ?_, fun i h1 h2 => ?_⟩, q4.of (k 23 (by decide)) (k' 16 (by decide)), fun c hc6 => Or.inl ⟨g4 c hc6, g3' c hc6⟩, ⟨T, Dd + 1, ⟨q6.1, by rw [k 1 (by decide)]; exact q6.2.1, by rw [k' 3 (by decide)]; exact q6.2.2.1, fun i hi => ?_, fun i h1 h2 => ?_⟩, ?_⟩, ?_⟩
  · rw [k 9 (by decide), k 10 (by decide), k' 12 (by decide), k' 13 (by decide)]
    exact p4 i hi
  · rw [k 11 (by decide), k' 14 (by decide), g7 i, g6' i]
    refine ⟨(p5 i hi).1, ?_, (p5 i hi).2.2⟩
    rw [e22, eF]
    exact pyW_congr (fun j hj => eh j (by omega)) (eW i hi)
  · rw [k 10 (by decide), k 11 (by decide)]
    exact p6 i h1 h2
  · rw [k 20 (by decide), k 21 (by decide), k' 18 (by decide), k' 19 (by decide)]
    exact q6.2.2.2.1 i hi
  · rw [k 20 (by decide), k 21 (by decide), g5 i h2, e30, tfin_out q6.1 h1 no, ht.1 i h2]
    exact q6.2.2.2.2 i h1 h2
  · obtain ⟨N, n1, n2⟩ := g4'
    rw [PCk_acc hc] at n2
    have n3 := OI_congr (v' := sF 22) (OI_up (K' := 6 * (Dd + 1)) n2 (by omega)) (fun i hi => by rw [g5 i (by have := q6.1; omega), e30]) (fun _ _ => rfl) (fun _ _ => rfl)
    exact ⟨by omega, g2, g2', ⟨N, n3.1, n1, n3.2.1⟩, n3.2.2⟩
  · rw [g6, g5', e22, eF]
    exact pyF_congr _ (fun j hj => eh j (by omega))
/-! the whole -/
theorem tPure1 : lwPure (tRel PO) := ⟨p_feed (fun s s' h hp => PO_keep (fun κ _ _ k5 k6 _ _ => h κ k5 k6) hp), p_word PO, p_piper PO, p_ill PO, p_old PO, p_pieces PO, p_call (fun s s' h hp => PO_keep (fun κ _ _ _ _ _ k24 => h κ k24) hp), p_off PO, p_played, p_who, p_tune PO, p_heard, p_share, p_day, p_lasts PO, p_look, p_wages PO, p_about PO, p_count PO⟩
theorem tRel1_0 : tRel PO st0C st0M := by
  refine ⟨⟨⟨0, by decide, rfl, rfl, fun i hi => absurd hi (by omega)⟩, ⟨fun i hi => ?_, 1, 10, 100, 50, by decide, by decide, by decide, by decide, rfl, rfl, rfl, rfl⟩, ⟨0, by decide, rfl, rfl, fun i hi => absurd hi (by omega), fun i hi => ⟨rfl, rfl, Or.inl rfl⟩, fun i h1 h2 => ⟨rfl, rfl⟩⟩, fun i hi => ?_, fun c hc => Or.inl ⟨rfl, ?_⟩, ⟨0, 0, ⟨by decide, rfl, rfl, fun i hi => absurd hi (by omega), fun i h1 h2 => ⟨rfl, rfl, rfl⟩⟩, ⟨by decide, rfl, rfl, ⟨0, by decide, rfl, fun i hi => absurd hi (by omega)⟩, fun i j hi => absurd hi (by omega)⟩⟩, rfl⟩, Or.inl rfl⟩
  · match i, hi with
    | 0, _ => rfl
    | 1, _ => rfl
    | 2, _ => rfl
    | 3, _ => rfl
    | _ + 4, h => exact absurd h (by omega)
  · match i, hi with
    | 0, _ => exact ⟨rfl, 1, by decide, rfl⟩
    | 1, _ => exact ⟨rfl, 1, by decide, rfl⟩
    | 2, _ => exact ⟨rfl, 1, by decide, rfl⟩
    | 3, _ => exact ⟨rfl, 1, by decide, rfl⟩
    | 4, _ => exact ⟨rfl, 1, by decide, rfl⟩
    | _ + 5, h => exact absurd h (by omega)
  · match c, hc with
    | 0, _ => rfl
    | 1, _ => rfl
    | 2, _ => rfl
    | 3, _ => rfl
    | 4, _ => rfl
    | 5, _ => rfl
    | _ + 6, h => exact absurd h (by omega)
