/-! the reference: which calls are played -/
theorem filt_out {l acc : List Nat} (h : ∀ d, d ∈ l → ¬ d ∈ acc) : l.filter (fun d => decide (d ∈ acc)) = [] := by
  refine List.filter_eq_nil_iff.mpr (fun d hd => ?_)
  simp [h d hd]
theorem filt_snoc {pre rem acc : List Nat} {c : Nat} (hn : (pre ++ c :: rem).Nodup) (hs : ∀ d, d ∈ acc → d ∈ pre) (ha : pre.filter (fun d => decide (d ∈ acc)) = acc) : (pre ++ [c]).filter (fun d => decide (d ∈ acc ++ [c])) = acc ++ [c] ∧ (pre ++ c :: rem).filter (fun d => decide (d ∈ acc ++ [c])) = acc ++ [c] ∧ (pre ++ [c]).filter (fun d => decide (d ∈ acc)) = acc := by
  have hn' := List.pairwise_append.mp hn
  have hc := List.nodup_cons.mp hn'.2.1
  have hcp : ¬ c ∈ pre := fun z => hn'.2.2 c z c List.mem_cons_self rfl
  have e1 : pre.filter (fun d => decide (d ∈ acc ++ [c])) = acc := by
    rw [← ha]
    refine (List.filter_congr (fun d hd => ?_)).trans rfl
    have : d ≠ c := fun e => hcp (by rw [← e]; exact hd)
    simp only [ha]
    simp [this]
  have e2 : rem.filter (fun d => decide (d ∈ acc ++ [c])) = [] := filt_out (fun d hd z => by
    rcases List.mem_append.mp z with w | w
    · exact hn'.2.2 d (hs d w) d (List.mem_cons_of_mem c hd) rfl
    · rw [List.mem_singleton.mp w] at hd; exact hc.1 hd)
  have hcm : decide (c ∈ acc ++ [c]) = true := by simp
  have hcn : ¬ decide (c ∈ acc) = true := fun z => hcp (hs c (of_decide_eq_true z))
  refine ⟨?_, ?_, ?_⟩
  · rw [List.filter_append, e1, List.filter_cons, if_pos hcm, List.filter_nil]
  · rw [List.filter_append, e1, List.filter_cons, if_pos hcm, e2]
  · rw [List.filter_append, ha, List.filter_cons, if_neg hcn, List.filter_nil, List.append_nil]
theorem filt_bits {R acc : List Nat} {S : Int32} (h6 : ∀ c, c ∈ R → c < 6) (hS : ∀ k, k < 32 → (inB S k ↔ k ∈ acc)) : R.filter (fun c => bt S c) = R.filter (fun d => decide (d ∈ acc)) := by
  refine List.filter_congr (fun d hd => ?_)
  have := hS d (by have := h6 d hd; omega)
  unfold inB at this
  by_cases z : bt S d = true
  · rw [z, decide_eq_true (this.mp z)]
  · have z' : ¬ d ∈ acc := fun w => z (this.mpr w)
    rw [decide_eq_false z']
    cases hb : bt S d with
    | true => exact absurd hb z
    | false => rfl
def wSame (t t' : tSt) : Prop := ∀ κ, κ ≠ 6 → κ ≠ 7 → κ ≠ 8 → κ ≠ 22 → κ ≠ 23 → κ ≠ 24 → κ ≠ 25 → κ ≠ 26 → t' κ = t κ
theorem wSame_MD {D : Dt} {t t' : tSt} {P : Nat} (h : wSame t t') (hM : MD D t P) : MD D t' P := MD_of hM (h 17 (by decide) (by decide) (by decide) (by decide) (by decide) (by decide) (by decide) (by decide)) (h 10 (by decide) (by decide) (by decide) (by decide) (by decide) (by decide) (by decide) (by decide)) (h 16 (by decide) (by decide) (by decide) (by decide) (by decide) (by decide) (by decide) (by decide)) (h 2 (by decide) (by decide) (by decide) (by decide) (by decide) (by decide) (by decide) (by decide)) (h 13 (by decide) (by decide) (by decide) (by decide) (by decide) (by decide) (by decide) (by decide)) (h 14 (by decide) (by decide) (by decide) (by decide) (by decide) (by decide) (by decide) (by decide))
def WI (D : Dt) (t st : tSt) (acc : List Nat) : Prop := wSame t st ∧ st 6 0 = nI (row D).length ∧ (∀ j, j < (row D).length → st 22 j = nI (lAt (row D) j)) ∧ ∀ k, k < 32 → (inB (st 7 0) k ↔ k ∈ acc)
/-- what the reference's works leave -/
def MWk (D : Dt) (t : tSt) (res : List Nat) (g : Nat → Nat) : Prop := Gr (Pl D) (row D) [] res ∧ t 6 0 = nI (row D).length ∧ (∀ j, j < (row D).length → t 22 j = nI (lAt (row D) j)) ∧ (∀ k, k < 32 → (inB (t 7 0) k ↔ k ∈ res)) ∧ MP D t (pts (dF D) res) ∧ (∀ i, i < (pts (dF D) res).length → t 25 i = nI (g i)) ∧ plL D res g
theorem m_works11 {D : Dt} {t : tSt} {P : Nat} {post : Int32 → tSt → Prop} (hM : MD D t P) (hQ : ∀ (t' : tSt) (res : List Nat) (g : Nat → Nat), wSame t t' → MWk D t' res g → post (t' 7 0) t') : ∀ (rem pre acc : List Nat) (st : tSt), row D = pre ++ rem → WI D t st acc → (∀ d, d ∈ acc → d ∈ pre) → pre.filter (fun d => decide (d ∈ acc)) = acc → Pl D acc → (∀ res, Gr (Pl D) rem acc res → Gr (Pl D) (row D) [] res) → wp_M_works_11 post (wp_M_works_68 post) (rem.length + 1) (nI pre.length) st
  | [], pre, acc, st, hr, hW, hs, ha, hPl, hG => by
    have e : row D = pre := by rw [hr, List.append_nil]
    refine b_t (by rw [hW.2.1, e]; exact Int32.le_refl _) ?_
    have hl : acc = (row D).filter (fun c => bt (st 7 0) c) := by rw [filt_bits (fun c hc => (row_mem hc).1) hW.2.2.2, e, ha]
    refine m_canBePlayed (R := row D) (l := acc) (wSame_MD hW.1 hM) (fun c hc => row_mem hc) (row_len D) hW.2.1 hW.2.2.1 hl (fun s1 g q1 p1 h25 hL hP => ?_) (fun s1 q1 hno => absurd hPl hno)
    refine hQ s1 acc g (fun κ k1 k2 k3 k4 k5 k6 k7 k8 => by rw [q1 κ k3 k5 k6 k7 k8]; exact hW.1 κ k1 k2 k3 k4 k5 k6 k7 k8) ⟨hG acc rfl, by rw [q1 6 (by decide) (by decide) (by decide) (by decide) (by decide)]; exact hW.2.1, by rw [q1 22 (by decide) (by decide) (by decide) (by decide) (by decide)]; exact hW.2.2.1, by rw [q1 7 (by decide) (by decide) (by decide) (by decide) (by decide)]; exact hW.2.2.2, p1, h25, hL⟩
  | c :: rem, pre, acc, st, hr, hW, hs, ha, hPl, hG => by
    have hl : pre.length + (rem.length + 1) = (row D).length := by rw [hr, List.length_append, List.length_cons]
    have h6 := row_len D
    have hcR : c ∈ row D := by rw [hr]; simp
    have hc := row_mem hcR
    have e22 : st 22 pre.length = nI c := by rw [hW.2.2.1 pre.length (by omega), hr, lAt_end]
    have hn := row_nodup D
    rw [hr] at hn
    obtain ⟨f1, f2, f3⟩ := filt_snoc hn hs ha
    have hin : vp_in (nI pre.length) 6 := vp_in_nI (by omega) (by decide)
    have hcp : ¬ c ∈ acc := fun z => (List.pairwise_append.mp hn).2.2 c (hs c z) c List.mem_cons_self rfl
    refine b_f (by rw [hW.2.1]; exact nI_ge (by omega) (by omega)) ⟨hin, ?_⟩
    rw [n_cl (show pre.length < 2 ^ 31 by omega), e22]
    intro s1 e1
    have one : ∀ k, k < 32 → (inB ((1 : Int32) <<< (nI c &&& 31)) k ↔ k = c) := fun k hk => by
      unfold inB
      rw [bt_shl (by omega) hk, decide_eq_true_eq]
    have s1o : ∀ κ, κ ≠ 7 → s1 κ = st κ := fun κ hκ => by rw [e1, tUp_ne _ _ _ hκ]
    have s17 : s1 7 0 = st 7 0 ||| ((1 : Int32) <<< (nI c &&& 31)) := by rw [e1]; simp [tUp_ap]
    have b17 : ∀ k, k < 32 → (inB (s1 7 0) k ↔ k ∈ acc ++ [c]) := fun k hk => by rw [s17, inB_or, hW.2.2.2 k hk, one k hk, List.mem_append, List.mem_singleton]
    have hW1 : wSame t s1 := fun κ k1 k2 k3 k4 k5 k6 k7 k8 => by rw [s1o κ k2]; exact hW.1 κ k1 k2 k3 k4 k5 k6 k7 k8
    have hl1 : acc ++ [c] = (row D).filter (fun c => bt (s1 7 0) c) := by rw [filt_bits (fun c hc => (row_mem hc).1) b17, hr, f2]
    have hr' : row D = (pre ++ [c]) ++ rem := by rw [hr]; simp
    have g6 : s1 6 0 = nI (row D).length := by rw [s1o 6 (by decide)]; exact hW.2.1
    have g22 : ∀ j, j < (row D).length → s1 22 j = nI (lAt (row D) j) := fun j hj => by rw [s1o 22 (by decide)]; exact hW.2.2.1 j hj
    refine m_canBePlayed (R := row D) (l := acc ++ [c]) (wSame_MD hW1 hM) (fun c hc => row_mem hc) (row_len D) g6 g22 hl1 (fun s2 g q1 p1 h25 hL hP => ?_) (fun s2 q1 hno => ?_)
    · refine b_f (by decide) (fun y e => ?_)
      rw [nI_1] at e
      subst e
      have hPl' : Pl D (acc ++ [c]) := ⟨hP, g, hL.1⟩
      have := m_works11 hM hQ rem (pre ++ [c]) (acc ++ [c]) s2 hr' ⟨fun κ k1 k2 k3 k4 k5 k6 k7 k8 => by rw [q1 κ k3 k5 k6 k7 k8]; exact hW1 κ k1 k2 k3 k4 k5 k6 k7 k8, by rw [q1 6 (by decide) (by decide) (by decide) (by decide) (by decide)]; exact g6, by rw [q1 22 (by decide) (by decide) (by decide) (by decide) (by decide)]; exact g22, by rw [q1 7 (by decide) (by decide) (by decide) (by decide) (by decide)]; exact b17⟩ (fun d hd => by
        rcases List.mem_append.mp hd with z | z
        · exact List.mem_append.mpr (Or.inl (hs d z))
        · exact List.mem_append.mpr (Or.inr z)) f1 hPl' (fun res h => hG res ⟨fun _ => h, fun z => absurd hPl' z⟩)
      rw [List.length_append] at this
      exact this
    · refine b_t rfl ⟨hin, ?_⟩
      have e22' : s2 22 pre.length = nI c := by rw [q1 22 (by decide) (by decide) (by decide) (by decide) (by decide), s1o 22 (by decide)]; exact e22
      rw [e22']
      intro s4 e4 y e
      rw [nI_1] at e
      subst e
      have s4o : ∀ κ, κ ≠ 7 → s4 κ = s2 κ := fun κ hκ => by rw [e4, tUp_ne _ _ _ hκ]
      have s47 : s4 7 0 = s1 7 0 &&& (((1 : Int32) <<< (nI c &&& 31)) ^^^ -1) := by
        rw [e4, q1 7 (by decide) (by decide) (by decide) (by decide) (by decide)]
        simp [tUp_ap]
      have := m_works11 hM hQ rem (pre ++ [c]) acc s4 hr' ⟨fun κ k1 k2 k3 k4 k5 k6 k7 k8 => by rw [s4o κ k2, q1 κ k3 k5 k6 k7 k8]; exact hW1 κ k1 k2 k3 k4 k5 k6 k7 k8, by rw [s4o 6 (by decide), q1 6 (by decide) (by decide) (by decide) (by decide) (by decide)]; exact g6, by rw [s4o 22 (by decide), q1 22 (by decide) (by decide) (by decide) (by decide) (by decide)]; exact g22, fun k hk => by
        have hb := b17 k hk
        rw [s47]
        unfold inB at hb ⊢
        rw [bt_del (by omega) hk, Bool.and_eq_true, Bool.not_eq_true', decide_eq_false_iff_not, hb, List.mem_append, List.mem_singleton]
        constructor
        · rintro ⟨v | v, w⟩
          · exact v
          · exact absurd v w
        · intro v
          exact ⟨Or.inl v, fun e => hcp (by rw [← e]; exact v)⟩⟩ (fun d hd => List.mem_append.mpr (Or.inl (hs d hd))) f3 hPl (fun res h => hG res ⟨fun z => absurd z hno, fun _ => h⟩)
      rw [List.length_append] at this
      exact this
theorem Pl_nil {D : Dt} (hC : ∀ i, i < 5 → ∃ n : Nat, n ≤ 3 ∧ dC D i = nI n) : Pl D [] := by
  refine ⟨fun i hi q hq => ?_, fun _ => 0, fun i hi => absurd hi (by show ¬ i < 0; omega), fun i j _ hj => absurd hj (by show ¬ j < 0; omega)⟩
  obtain ⟨n, n1, n2⟩ := hC i hi
  rw [n2]
  exact nI_le (a := 0) (by omega) (by omega)
theorem m_works {D : Dt} {t : tSt} {P : Nat} {post : Int32 → tSt → Prop} (hM : MD D t P) (hQ : ∀ (t' : tSt) (res : List Nat) (g : Nat → Nat), wSame t t' → MWk D t' res g → post (t' 7 0) t') : wp_M_works t post := by
  refine m_sorts hM (fun s1 h1 s2 e2 => ⟨(row D).length + 1, m_works11 hM hQ (row D) [] [] s2 rfl ⟨fun κ k1 k2 k3 k4 k5 k6 k7 k8 => by rw [e2, tUp_ne _ _ _ k2]; exact h1.1 κ k1 k4, by rw [e2, tUp_ne _ _ _ (by decide)]; exact h1.2.1, by rw [e2, tUp_ne _ _ _ (by decide)]; exact h1.2.2, fun k hk => ?_⟩ (fun d hd => hd) rfl (Pl_nil (MD_bOK hM).2.1) (fun res h => h)⟩)
  rw [e2]
  simp only [tUp_ap]
  refine ⟨fun v => ?_, fun v => by cases v⟩
  unfold inB at v
  simp at v
  rw [b_0] at v
  cases v
