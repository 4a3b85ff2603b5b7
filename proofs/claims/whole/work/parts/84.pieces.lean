/-! pieces: what is in use at a quarter -/
theorem c_onAt {st : tSt} {c q : Nat} {post : Int32 → tSt → Prop} (hq : q ≤ 200) (hok : rCallOK (st (14 + c))) (h : post (if onB (st (14 + c)) q = true then 1 else 0) st) : wp_Call_isOnAt c (nI q) st post := by
  obtain ⟨a1, a2, a3, a4, a5, a6⟩ := callOK_nat hok
  unfold onB at h
  unfold wp_Call_isOnAt wp_Call_end
  rw [a1, a2, nI_add]
  by_cases g1 : fFr (st (14 + c)) ≤ q
  · refine b_f (nI_nlt g1 (by omega)) ?_
    rw [decide_eq_true g1, Bool.true_and] at h
    by_cases g2 : q < fFr (st (14 + c)) + fLe (st (14 + c))
    · rw [decide_eq_true g2] at h
      exact b_f (nI_ge g2 (by omega)) h
    · rw [decide_eq_false g2] at h
      exact b_t (nI_le (by omega) (by omega)) h
  · rw [decide_eq_false g1, Bool.false_and] at h
    exact b_t (nI_lt (by omega) (by omega)) h
theorem c_pw {st : tSt} {c i : Nat} {post : Int32 → tSt → Prop} (h : post (nI (pw (st (14 + c)) i)) st) : wp_Call_partsWith c (nI i) st post := by
  unfold pw at h
  by_cases g1 : st (14 + c) 5 = nI i
  · rw [if_pos g1] at h
    refine b_t g1 ?_
    by_cases g2 : st (14 + c) 6 = nI i
    · rw [if_pos g2] at h
      exact b_t g2 h
    · rw [if_neg g2] at h
      exact b_f g2 h
  · rw [if_neg g1] at h
    refine b_f g1 ?_
    by_cases g2 : st (14 + c) 6 = nI i
    · rw [if_pos g2] at h
      exact b_t g2 h
    · rw [if_neg g2] at h
      exact b_f g2 h
theorem c_use {st : tSt} {l : List Nat} {T : Int32} {i q : Nat} {post : Int32 → tSt → Prop} {k62 : Int32 → Int32 → Int32 → Int32 → tSt → Prop} (hq : q ≤ 200) (hT : ∀ k, k < 32 → (inB T k ↔ k ∈ l)) (hok : ∀ c, c ∈ l → c < 6 ∧ rCallOK (st (14 + c))) (h : k62 T (nI q) (nI i) (nI (sN (fun c => if c ∈ l then tm (fc st) i q c else 0) 6)) st) : ∀ m k : Nat, k + m = 6 → wp_Plan_hasPiecesAt_15 post k62 (m + 1) T (nI q) (nI i) (nI (sN (fun c => if c ∈ l then tm (fc st) i q c else 0) k)) (nI k) st
  | 0, k, hk => by
    have e : k = 6 := by omega
    subst e
    exact b_t (by decide) h
  | m + 1, k, hk => by
    have hin : vp_in (nI k) 6 := vp_in_nI (by omega) (by decide)
    have ek := n_cl (show k < 2 ^ 31 by omega)
    refine b_f (nI_ge (a := k) (b := 6) (by omega) (by decide)) (c_has (by omega) ?_)
    have ih := c_use (post := post) hq hT hok h m (k + 1) (by omega)
    have eS : sN (fun c => if c ∈ l then tm (fc st) i q c else 0) (k + 1) = sN (fun c => if c ∈ l then tm (fc st) i q c else 0) k + (if k ∈ l then tm (fc st) i q k else 0) := rfl
    by_cases g : bt T k = true
    · have gm : k ∈ l := (hT k (by omega)).mp g
      rw [if_pos g]
      rw [if_pos gm] at eS
      have ef : fc st k = st (14 + k) := fc_at (by omega)
      refine b_f (by decide) ⟨hin, ?_⟩
      rw [ek]
      refine c_onAt hq (hok k gm).2 ?_
      have et : tm (fc st) i q k = if onB (st (14 + k)) q = true then pw (st (14 + k)) i else 0 := by
        unfold tm
        rw [ef]
      rw [et] at eS
      by_cases g2 : onB (st (14 + k)) q = true
      · rw [if_pos g2] at eS ⊢
        refine b_f (by decide) ⟨hin, c_pw (fun y e y2 e2 => ?_)⟩
        rw [nI_add] at e
        rw [nI_1] at e2
        subst e; subst e2
        rw [eS] at ih
        exact ih
      · rw [if_neg g2] at eS ⊢
        refine b_t rfl (fun y2 e2 => ?_)
        rw [nI_1] at e2
        subst e2
        rw [eS] at ih
        exact ih
    · have gm : ¬ k ∈ l := fun z => g ((hT k (by omega)).mpr z)
      rw [if_neg g]
      rw [if_neg gm] at eS
      refine b_t rfl (fun y2 e2 => ?_)
      rw [nI_1] at e2
      subst e2
      rw [eS] at ih
      exact ih
theorem c_piecesAt {st : tSt} {l : List Nat} {T : Int32} {q : Nat} {post : Int32 → tSt → Prop} (hq : q ≤ 200) (hT : ∀ k, k < 32 → (inB T k ↔ k ∈ l)) (hnd : l.Nodup) (hok : ∀ c, c ∈ l → c < 6 ∧ rCallOK (st (14 + c))) (h1 : (∀ i, i < 5 → nI (us (fc st) i q l) ≤ st 23 i) → post 1 st) (h0 : (¬ ∀ i, i < 5 → nI (us (fc st) i q l) ≤ st 23 i) → post 0 st) : ∀ m i : Nat, i + m = 5 → (∀ j, j < i → nI (us (fc st) j q l) ≤ st 23 j) → wp_Plan_hasPiecesAt_3 post (m + 1) T (nI q) (nI i) st
  | 0, i, hi, ha => by
    have e : i = 5 := by omega
    subst e
    exact b_t (by decide) (h1 ha)
  | m + 1, i, hi, ha => by
    refine b_f (nI_ge (a := i) (b := 5) (by omega) (by decide)) ⟨7, c_use hq hT hok ?_ 6 0 rfl⟩
    rw [sL_sN l hnd (fun c hc => (hok c hc).1)]
    refine ⟨vp_in_nI (by omega) (by decide), ?_⟩
    rw [n_cl (show i < 2 ^ 31 by omega)]
    by_cases g : nI (us (fc st) i q l) ≤ st 23 i
    · refine b_t g (fun y e => ?_)
      rw [nI_1] at e
      subst e
      refine c_piecesAt hq hT hnd hok h1 h0 m (i + 1) (by omega) (fun j hj => ?_)
      by_cases z : j = i
      · rw [z]; exact g
      · exact ha j (by omega)
    · exact b_f g (h0 (fun z => g (z i (by omega))))
theorem c_piecesL {st : tSt} {l : List Nat} {T : Int32} {post : Int32 → tSt → Prop} (hT : ∀ k, k < 32 → (inB T k ↔ k ∈ l)) (hnd : l.Nodup) (hok : ∀ c, c ∈ l → c < 6 ∧ rCallOK (st (14 + c))) (h1 : (∀ d, d ∈ l → ∀ i, i < 5 → nI (us (fc st) i (fFr (st (14 + d))) l) ≤ st 23 i) → post 1 st) (h0 : (¬ ∀ d, d ∈ l → ∀ i, i < 5 → nI (us (fc st) i (fFr (st (14 + d))) l) ≤ st 23 i) → post 0 st) : ∀ m k : Nat, k + m = 6 → (∀ d, d < k → d ∈ l → ∀ i, i < 5 → nI (us (fc st) i (fFr (st (14 + d))) l) ≤ st 23 i) → wp_Plan_hasPieces_13 post (m + 1) T (nI k) st
  | 0, k, hk, ha => by
    have e : k = 6 := by omega
    subst e
    exact b_t (by decide) (h1 (fun d hd => ha d (hok d hd).1 hd))
  | m + 1, k, hk, ha => by
    refine b_f (nI_ge (a := k) (b := 6) (by omega) (by decide)) (c_has (by omega) ?_)
    have next : (k ∈ l → ∀ i, i < 5 → nI (us (fc st) i (fFr (st (14 + k))) l) ≤ st 23 i) → ∀ y : Int32, y = nI k + 1 → wp_Plan_hasPieces_13 post (m + 1) T y st := by
      intro hx y e
      rw [nI_1] at e
      subst e
      refine c_piecesL hT hnd hok h1 h0 m (k + 1) (by omega) (fun d hd => ?_)
      by_cases z : d = k
      · rw [z]; exact hx
      · exact ha d (by omega)
    by_cases g : bt T k = true
    · have gm : k ∈ l := (hT k (by omega)).mp g
      rw [if_pos g]
      refine b_f (by decide) ⟨vp_in_nI (by omega) (by decide), ?_⟩
      rw [n_cl (show k < 2 ^ 31 by omega)]
      obtain ⟨a1, a2, a3, a4, a5, a6⟩ := callOK_nat (hok k gm).2
      refine c_fact (k := 1) (by decide) ?_
      rw [a1]
      refine ⟨6, c_piecesAt (by omega) hT hnd hok (fun z => b_f (by decide) (next (fun _ => z))) (fun z => b_t rfl (h0 (fun w => z (w k gm)))) 5 0 rfl (fun j hj => absurd hj (by omega))⟩
    · have gm : ¬ k ∈ l := fun z => g ((hT k (by omega)).mpr z)
      rw [if_neg g]
      exact b_t rfl (next (fun z => absurd z gm))
theorem pw_le (f : Nat → Int32) (i : Nat) : pw f i ≤ 2 := by
  unfold pw
  by_cases z : f 5 = nI i <;> by_cases y : f 6 = nI i <;> simp [z, y]
theorem tm_le (F : Nat → Nat → Int32) (i q c : Nat) : tm F i q c ≤ 2 := by
  unfold tm
  by_cases z : onB (F c) q = true
  · rw [if_pos z]; exact pw_le _ _
  · rw [if_neg z]; omega
theorem us_le (F : Nat → Nat → Int32) (i q : Nat) : ∀ l : List Nat, us F i q l ≤ 2 * l.length
  | [] => Nat.le_refl 0
  | c :: l => by
    have := us_le F i q l
    have := tm_le F i q c
    show tm F i q c + us F i q l ≤ 2 * (l.length + 1)
    omega
theorem us_mono {F : Nat → Nat → Int32} {i q q' : Nat} : ∀ l : List Nat, (∀ c, c ∈ l → onB (F c) q = true → onB (F c) q' = true) → us F i q l ≤ us F i q' l
  | [], _ => Nat.le_refl 0
  | c :: l, h => by
    have ih := us_mono (F := F) (i := i) l (fun d hd => h d (List.mem_cons_of_mem c hd))
    have : tm F i q c ≤ tm F i q' c := by
      unfold tm
      by_cases z : onB (F c) q = true
      · rw [if_pos z, if_pos (h c List.mem_cons_self z)]; exact Nat.le_refl _
      · rw [if_neg z]; exact Nat.zero_le _
    show tm F i q c + us F i q l ≤ tm F i q' c + us F i q' l
    omega
theorem us_0 {F : Nat → Nat → Int32} {i q : Nat} : ∀ l : List Nat, (∀ c, c ∈ l → ¬ onB (F c) q = true) → us F i q l = 0
  | [], _ => rfl
  | c :: l, h => by
    show tm F i q c + us F i q l = 0
    rw [us_0 l (fun d hd => h d (List.mem_cons_of_mem c hd))]
    unfold tm
    rw [if_neg (h c List.mem_cons_self)]
theorem on_max {F : Nat → Nat → Int32} {q : Nat} : ∀ l : List Nat, (∃ c, c ∈ l ∧ onB (F c) q = true) → ∃ d, d ∈ l ∧ onB (F d) q = true ∧ ∀ c, c ∈ l → onB (F c) q = true → fFr (F c) ≤ fFr (F d)
  | [], ⟨c, h, _⟩ => by cases h
  | e :: l, ⟨c, h, hc⟩ => by
    by_cases zl : ∃ c, c ∈ l ∧ onB (F c) q = true
    · obtain ⟨d, d1, d2, d3⟩ := on_max l zl
      by_cases ze : onB (F e) q = true ∧ fFr (F d) ≤ fFr (F e)
      · refine ⟨e, List.mem_cons_self, ze.1, fun x hx hox => ?_⟩
        rcases List.mem_cons.mp hx with w | w
        · rw [w]; exact Nat.le_refl _
        · exact Nat.le_trans (d3 x w hox) ze.2
      · refine ⟨d, List.mem_cons_of_mem e d1, d2, fun x hx hox => ?_⟩
        rcases List.mem_cons.mp hx with w | w
        · rw [w] at hox ⊢
          exact Nat.le_of_lt (Nat.lt_of_not_le (fun z => ze ⟨hox, z⟩))
        · exact d3 x w hox
    · rcases List.mem_cons.mp h with w | w
      · rw [w] at hc
        refine ⟨e, List.mem_cons_self, hc, fun x hx hox => ?_⟩
        rcases List.mem_cons.mp hx with v | v
        · rw [v]; exact Nat.le_refl _
        · exact absurd ⟨x, v, hox⟩ zl
      · exact absurd ⟨c, w, hc⟩ zl
theorem onB_iff {f : Nat → Int32} {q : Nat} : onB f q = true ↔ (fFr f ≤ q ∧ q < fFr f + fLe f) := by
  unfold onB
  rw [Bool.and_eq_true, decide_eq_true_eq, decide_eq_true_eq]
theorem plP_iff {D : Dt} {l : List Nat} (hok : ∀ c, c ∈ l → rCallOK (dF D c)) (h6 : l.length ≤ 6) (hC : ∀ i, i < 5 → ∃ n : Nat, n ≤ 3 ∧ dC D i = nI n) : (∀ d, d ∈ l → ∀ i, i < 5 → nI (us (dF D) i (fFr (dF D d)) l) ≤ dC D i) ↔ plP D l := by
  constructor
  · intro h i hi q hq
    obtain ⟨n, n1, n2⟩ := hC i hi
    by_cases z : ∃ c, c ∈ l ∧ onB (dF D c) q = true
    · obtain ⟨d, d1, d2, d3⟩ := on_max l z
      have hd := h d d1 i hi
      have hm : us (dF D) i q l ≤ us (dF D) i (fFr (dF D d)) l := us_mono l (fun c hc ho => onB_iff.mpr ⟨d3 c hc ho, by
        have a := onB_iff.mp ho
        have b := onB_iff.mp d2
        omega⟩)
      have l1 := us_le (dF D) i (fFr (dF D d)) l
      rw [n2] at hd ⊢
      have := (nI_leI (by omega) (by omega)).mp hd
      exact nI_le (by omega) (by omega)
    · rw [us_0 l (fun c hc ho => z ⟨c, hc, ho⟩), n2]
      exact nI_le (by omega) (by omega)
  · intro h d hd i hi
    have := callOK_nat (hok d hd)
    exact h i hi _ (by omega)
theorem c_hasPieces {D : Dt} {st : tSt} {l : List Nat} {c : Nat} {post : Int32 → tSt → Prop} (hD : dt st = D) (hc : c < 6) (hl : okL D (l ++ [c])) (hnd : (l ++ [c]).Nodup) (h26 : ∀ k, k < 32 → (inB (st 26 0) k ↔ k ∈ l)) (hC : ∀ i, i < 5 → ∃ n : Nat, n ≤ 3 ∧ dC D i = nI n) (h1 : plP D (l ++ [c]) → post 1 st) (h0 : ¬ plP D (l ++ [c]) → post 0 st) : wp_Plan_hasPieces (nI c) st post := by
  intro y e
  have hT : ∀ k, k < 32 → (inB y k ↔ k ∈ l ++ [c]) := fun k hk => by
    rw [e, inB_or, h26 k hk, List.mem_append, List.mem_singleton]
    have : inB ((1 : Int32) <<< (nI c &&& 31)) k ↔ k = c := by
      unfold inB
      rw [bt_shl (by omega) hk, decide_eq_true_eq]
    rw [this]
  have hok : ∀ d, d ∈ l ++ [c] → d < 6 ∧ rCallOK (st (14 + d)) := fun d hd => by
    have := hl d hd
    rw [← hD] at this
    have e : dF (dt st) d = st (14 + d) := fc_at this.1
    rw [e] at this
    exact ⟨this.1, this.2.2⟩
  have len := len6 hnd (fun d hd => (hok d hd).1)
  have iff := plP_iff (D := D) (l := l ++ [c]) (fun d hd => (hl d hd).2.2) len hC
  have ed : ∀ d, d ∈ l ++ [c] → dF D d = st (14 + d) := fun d hd => by rw [← hD]; exact fc_at (hok d hd).1
  have eF : dF D = fc st := by rw [← hD]; rfl
  have eC : dC D = st 23 := by rw [← hD]; rfl
  have conv : (∀ d, d ∈ l ++ [c] → ∀ i, i < 5 → nI (us (fc st) i (fFr (st (14 + d))) (l ++ [c])) ≤ st 23 i) ↔ plP D (l ++ [c]) := by
    rw [← iff]
    constructor
    · intro h d hd i hi
      rw [ed d hd, eC, eF]
      exact h d hd i hi
    · intro h d hd i hi
      have := h d hd i hi
      rw [ed d hd, eC, eF] at this
      exact this
  exact ⟨7, c_piecesL hT hnd hok (fun z => h1 (conv.mp z)) (fun z => h0 (fun w => z (conv.mpr w))) 6 0 rfl (fun d hd => absurd hd (by omega))⟩
