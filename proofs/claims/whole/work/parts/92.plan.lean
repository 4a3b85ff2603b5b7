/-! the plan of today -/
def PO (s : tSt) : Prop := ∃ (res : List Nat) (g : Nat → Nat) (v0 : Nat → Int32), PCk (dt s) s res g ∧ PTk s res v0
theorem fc_keep {s s' : tSt} (h : ∀ κ, 14 ≤ κ → κ < 20 → s' κ = s κ) : fc s' = fc s := by
  funext c
  unfold fc
  by_cases z : c < 6
  · rw [if_pos z, if_pos z, h _ (by omega) (by omega)]
  · rw [if_neg z, if_neg z]
theorem fitS_keep {s s' : tSt} (h2 : s' 2 = s 2) (hf : ∀ κ, 14 ≤ κ → κ < 22 → s' κ = s κ) : fitS s' = fitS s := by
  funext c t
  unfold fitS
  rw [fc_keep (fun κ h1 h3 => hf κ h1 (by omega)), hf 20 (by decide) (by decide), hf 21 (by decide) (by decide), h2]
theorem PCk_keep {D : Dt} {s s' : tSt} {res : List Nat} {g : Nat → Nat} (h : PCk D s res g) (h26 : s' 26 = s 26) (h27 : s' 27 = s 27) (h33 : s' 33 = s 33) (h34 : s' 34 = s 34) : PCk D s' res g := by
  unfold PCk at h ⊢
  rw [h26, h27, h33, h34]
  exact h
theorem PTk_keep {s s' : tSt} {res : List Nat} {v0 : Nat → Int32} (h : PTk s res v0) (h2 : s' 2 = s 2) (hf : ∀ κ, 14 ≤ κ → κ < 23 → s' κ = s κ) (h29 : s' 29 = s 29) (h30 : s' 30 = s 30) : PTk s' res v0 := by
  unfold PTk at h ⊢
  rw [fitS_keep h2 (fun κ h1 h3 => hf κ h1 (by omega)), h2, hf 22 (by decide) (by decide), h29, h30]
  exact h
def oSame (s s' : tSt) : Prop := ∀ κ, κ ≠ 3 → κ ≠ 4 → κ ≠ 5 → κ ≠ 6 → κ ≠ 12 → κ ≠ 24 → s' κ = s κ
theorem oSame_dt {s s' : tSt} (h : oSame s s') : dt s' = dt s := dt_eq (h 7 (by decide) (by decide) (by decide) (by decide) (by decide) (by decide)) (h 10 (by decide) (by decide) (by decide) (by decide) (by decide) (by decide)) (h 11 (by decide) (by decide) (by decide) (by decide) (by decide) (by decide)) (h 13 (by decide) (by decide) (by decide) (by decide) (by decide) (by decide)) (h 23 (by decide) (by decide) (by decide) (by decide) (by decide) (by decide)) (fun c hc => h _ (by omega) (by omega) (by omega) (by omega) (by omega) (by omega))
theorem oSame_PCk {D : Dt} {s s' : tSt} {res : List Nat} {g : Nat → Nat} (h : oSame s s') (hp : PCk D s res g) : PCk D s' res g := PCk_keep hp (h 26 (by decide) (by decide) (by decide) (by decide) (by decide) (by decide)) (h 27 (by decide) (by decide) (by decide) (by decide) (by decide) (by decide)) (h 33 (by decide) (by decide) (by decide) (by decide) (by decide) (by decide)) (h 34 (by decide) (by decide) (by decide) (by decide) (by decide) (by decide))
theorem PO_keep {s s' : tSt} (h : oSame s s') (hp : PO s) : PO s' := by
  obtain ⟨res, g, v0, h1, h2⟩ := hp
  refine ⟨res, g, v0, ?_, PTk_keep h2 (h 2 (by decide) (by decide) (by decide) (by decide) (by decide) (by decide)) (fun κ k1 k2 => h κ (by omega) (by omega) (by omega) (by omega) (by omega) (by omega)) (h 29 (by decide) (by decide) (by decide) (by decide) (by decide) (by decide)) (h 30 (by decide) (by decide) (by decide) (by decide) (by decide) (by decide))⟩
  rw [oSame_dt h]
  exact oSame_PCk h h1
theorem rBase_c {s s' t : tSt} (h : ∀ κ, κ < 24 → κ ≠ 4 → κ ≠ 8 → s' κ = s κ) (hB : rBase s t) : rBase s' t := by
  obtain ⟨q1, q2, ⟨P, q3⟩, q4, q5, ⟨T, D, q6, q7⟩, q8⟩ := hB
  have k := fun κ (z : κ < 24 ∧ κ ≠ 4 ∧ κ ≠ 8) => h κ z.1 z.2.1 z.2.2
  exact ⟨q1.of (k 5 (by decide)) (k 6 (by decide)) rfl rfl, q2.of (k 7 (by decide)) rfl, ⟨P, q3.of (k 0 (by decide)) (k 9 (by decide)) (k 10 (by decide)) (k 11 (by decide)) (k 12 (by decide)) rfl rfl rfl rfl rfl⟩, q4.of (k 23 (by decide)) rfl, q5.of (k 13 (by decide)) (fun c hc => k _ (by omega)) rfl, ⟨T, D, q6.of (k 1 (by decide)) (k 20 (by decide)) (k 21 (by decide)) (k 22 (by decide)) rfl rfl rfl, q7.of (k 2 (by decide)) (k 22 (by decide)) rfl rfl rfl rfl⟩, by rw [k 3 (by decide)]; exact q8⟩
theorem rBase_m {s t t' : tSt} (h : uSame t t') (hB : rBase s t) : rBase s t' := by
  obtain ⟨q1, q2, ⟨P, q3⟩, q4, q5, ⟨T, D, q6, q7⟩, q8⟩ := hB
  have k := fun κ (z : κ < 6 ∨ (8 < κ ∧ κ < 22)) => h κ (by omega) (by omega) (by omega) (by omega) (by omega) (by omega) (by omega) (by omega) (by omega) (by omega)
  exact ⟨q1.of rfl rfl (k 0 (by decide)) (k 9 (by decide)), q2.of rfl (k 10 (by decide)), ⟨P, q3.of rfl rfl rfl rfl rfl (k 2 (by decide)) (k 12 (by decide)) (k 13 (by decide)) (k 14 (by decide)) (k 15 (by decide))⟩, q4.of rfl (k 16 (by decide)), q5.of rfl (fun _ _ => rfl) (k 17 (by decide)), ⟨T, D, q6.of rfl rfl rfl rfl (k 3 (by decide)) (k 18 (by decide)) (k 19 (by decide)), q7.of rfl rfl (k 1 (by decide)) (k 5 (by decide)) (k 20 (by decide)) (k 21 (by decide))⟩, by rw [k 4 (by decide)]; exact q8⟩
theorem wS_uS {t t' : tSt} (h : wSame t t') : uSame t t' := fun κ z1 z2 z3 z4 z5 z6 z7 z8 _ _ => h κ z1 z2 z3 z4 z5 z6 z7 z8
theorem PCk_acc {D : Dt} {s : tSt} {res : List Nat} {g : Nat → Nat} (h : PCk D s res g) : accOf res (row D) = res := by
  have := Gr_filter (row D) [] (by rw [List.nil_append]; exact row_nodup D) h.1
  rw [List.nil_append] at this
  exact this.symm
theorem acc_sub {res r : List Nat} (h : accOf res r = res) {c : Nat} (hc : c ∈ res) : c ∈ r := by
  rw [← h] at hc
  exact (List.mem_filter.mp hc).1
theorem pl_uniq {D : Dt} {s t : tSt} {res res' : List Nat} {g g' : Nat → Nat} (h : PCk D s res g) (h' : MWk D t res' g') : res' = res ∧ ∀ j, j < (pts (dF D) res).length → g' j = g j := by
  have e : res' = res := Gr_uniq (row D) [] h'.1 h.1
  subst e
  exact ⟨rfl, fun j hj => Lst_uniq h'.2.2.2.2.2.2 h.2.2.2.2.2.2.2 j hj⟩
theorem c_plan {s t : tSt} {post : tSt → Prop} (hR : tRel PO s t) (hQ : ∀ s' : tSt, (∀ κ, κ < 25 → κ ≠ 4 → s' κ = s κ) → s' 4 0 = 1 → PO s' → post s') : wp_T_planOfToday s post := by
  obtain ⟨hB, hp⟩ := hR
  rcases hp with h0 | ⟨h1, hp⟩
  · refine b_t h0 (c_num (k := 0) (by decide) ?_)
    obtain ⟨P, hM⟩ := rB_MD hB
    obtain ⟨q1, ⟨-, w, -, -, -, w1, -, -, -, w2, -⟩, -, -, -, ⟨T, Dd, -, hh⟩, -⟩ := hB
    have ew : s 7 0 = nI (dw (dt s)) := by
      show s 7 0 = nI (s 7 0).toNatClampNeg
      rw [w2, n_cl (by omega)]
    rw [ew]
    refine c_castCalls rfl (MD_bOK hM) (fun s3 res g k3 p3 => ?_)
    have k := fun κ (z : κ < 25 ∨ κ = 29 ∨ κ = 30) => k3 κ (by omega) (by omega) (by omega) (by omega) (by omega) (by omega) (by omega) (by omega)
    have s32 : s3 2 0 = nI Dd := by rw [k 2 (by omega)]; exact hh.2.1
    refine c_mon s32 hh.1 ?_
    rw [s32, show nI Dd * (6 : Int32) = nI (6 * Dd) from by rw [Nat.mul_comm]; exact pk_mul Dd 6]
    refine c_chooseTunes (kSame_dt k3) (MD_bOK hM) s32 hh.1 p3.2.2.2.1 (PCk_acc p3) (fun s6 v0 t6 p6 s7 e7 => ?_)
    · have s7o : ∀ κ, κ ≠ 4 → s7 κ = s6 κ := fun κ hκ => by rw [e7, tUp_ne _ _ _ hκ]
      have d6 : dt s6 = dt s := by
        rw [← kSame_dt k3]
        exact dt_eq (t6 7 (by decide) (by decide)) (t6 10 (by decide) (by decide)) (t6 11 (by decide) (by decide)) (t6 13 (by decide) (by decide)) (t6 23 (by decide) (by decide)) (fun c hc => t6 _ (by omega) (by omega))
      refine hQ s7 (fun κ k1 k2 => by rw [s7o κ k2, t6 κ (by omega) (by omega), k κ (by omega)]) (by rw [e7]; simp [tUp_ap]) (PO_keep (s := s6) (fun κ _ k2 _ _ _ _ => s7o κ k2) ⟨res, g, v0, ?_, p6⟩)
      rw [d6]
      exact PCk_keep p3 (t6 26 (by decide) (by decide)) (t6 27 (by decide) (by decide)) (t6 33 (by decide) (by decide)) (t6 34 (by decide) (by decide))
  · refine b_f (by rw [h1]; decide) (hQ s (fun _ _ _ => rfl) h1 hp)
theorem rel_of {s s' t t' : tSt} (hB : rBase s t) (hs : ∀ κ, κ < 25 → κ ≠ 4 → s' κ = s κ) (h4 : s' 4 0 = 1) (hp : PO s') (ht : uSame t t') : tRel PO s' t' := ⟨rBase_m ht (rBase_c (fun κ k1 k2 _ => hs κ (by omega) k2) hB), Or.inr ⟨h4, hp⟩⟩
theorem p_played : lwP_played (tRel PO) := by
  intro st sm hR
  refine c_plan hR (fun s' k4 h4 hp => ?_)
  have hB' := rBase_c (fun κ k1 k2 _ => k4 κ (by omega) k2) hR.1
  obtain ⟨P, hM⟩ := rB_MD hB'
  obtain ⟨res, g, v0, hc, -⟩ := id hp
  refine m_works hM (fun t' res' g' w1 k1 => ⟨?_, rel_of hR.1 k4 h4 hp (wS_uS w1)⟩)
  obtain ⟨e, -⟩ := pl_uniq hc k1
  subst e
  refine inB_ext (fun k => ?_)
  by_cases z : k < 32
  · rw [hc.2.2.2.1 k z, k1.2.2.2.1 k z]
  · unfold inB
    rw [b_big (by omega), b_big (by omega)]
