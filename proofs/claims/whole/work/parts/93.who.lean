/-! who has which part -/
def wl (g : Nat → Nat) (c : Nat) : List (Nat × Nat) → Nat → Nat → Int32
  | [], _, _ => -1
  | x :: ps, k, j => if x.1 = c then (if k = 0 then nI (g j) else wl g c ps (k - 1) (j + 1)) else wl g c ps k (j + 1)
def nP (c : Nat) : List (Nat × Nat) → Nat
  | [] => 0
  | x :: ps => (if x.1 = c then 1 else 0) + nP c ps
theorem nP_app (c : Nat) (qs : List (Nat × Nat)) : ∀ ps, nP c (ps ++ qs) = nP c ps + nP c qs
  | [] => by show nP c qs = 0 + nP c qs; omega
  | x :: ps => by
    show (if x.1 = c then 1 else 0) + nP c (ps ++ qs) = (if x.1 = c then 1 else 0) + nP c ps + nP c qs
    rw [nP_app c qs ps]
    omega
theorem nP_of (F : Nat → Nat → Int32) (c d : Nat) : nP c (ptsOf F d) ≤ 2 ∧ (d = c → 1 ≤ nP c (ptsOf F d)) ∧ (d ≠ c → nP c (ptsOf F d) = 0) := by
  unfold ptsOf
  by_cases z : F d 6 = -1
  · rw [if_pos z]
    show (if d = c then 1 else 0) + 0 ≤ 2 ∧ (d = c → 1 ≤ (if d = c then 1 else 0) + 0) ∧ (d ≠ c → (if d = c then 1 else 0) + 0 = 0)
    by_cases w : d = c
    · rw [if_pos w]; exact ⟨by omega, fun _ => by omega, fun h => absurd w h⟩
    · rw [if_neg w]; exact ⟨by omega, fun h => absurd h w, fun _ => rfl⟩
  · rw [if_neg z]
    show (if d = c then 1 else 0) + ((if d = c then 1 else 0) + 0) ≤ 2 ∧ (d = c → 1 ≤ (if d = c then 1 else 0) + ((if d = c then 1 else 0) + 0)) ∧ (d ≠ c → (if d = c then 1 else 0) + ((if d = c then 1 else 0) + 0) = 0)
    by_cases w : d = c
    · rw [if_pos w]; exact ⟨by omega, fun _ => by omega, fun h => absurd w h⟩
    · rw [if_neg w]; exact ⟨by omega, fun h => absurd h w, fun _ => rfl⟩
theorem nP_out (F : Nat → Nat → Int32) (c : Nat) : ∀ l : List Nat, ¬ c ∈ l → nP c (pts F l) = 0
  | [], _ => rfl
  | d :: l, h => by
    show nP c (ptsOf F d ++ pts F l) = 0
    rw [nP_app, nP_out F c l (fun w => h (List.mem_cons_of_mem d w)), (nP_of F c d).2.2 (fun e => h (by rw [e]; exact List.mem_cons_self))]
theorem nP_two (F : Nat → Nat → Int32) (c : Nat) : ∀ l : List Nat, l.Nodup → nP c (pts F l) ≤ 2
  | [], _ => by show 0 ≤ 2; omega
  | d :: l, h => by
    have hd := List.nodup_cons.mp h
    show nP c (ptsOf F d ++ pts F l) ≤ 2
    rw [nP_app]
    have a := nP_of F c d
    by_cases z : d = c
    · have := nP_out F c l (by rw [← z]; exact hd.1)
      omega
    · have := nP_two F c l hd.2
      have := a.2.2 z
      omega
theorem nP_in (F : Nat → Nat → Int32) (c : Nat) : ∀ l : List Nat, c ∈ l → 1 ≤ nP c (pts F l)
  | [], h => by cases h
  | d :: l, h => by
    show 1 ≤ nP c (ptsOf F d ++ pts F l)
    rw [nP_app]
    by_cases z : d = c
    · have := (nP_of F c d).2.1 z
      omega
    · have := nP_in F c l ((List.mem_cons.mp h).elim (fun e => absurd e.symm z) id)
      omega
theorem wl_none {g : Nat → Nat} {c : Nat} : ∀ (ps : List (Nat × Nat)) (k j : Nat), nP c ps ≤ k → wl g c ps k j = -1
  | [], k, j, _ => rfl
  | x :: ps, k, j, h => by
    have h : (if x.1 = c then 1 else 0) + nP c ps ≤ k := h
    show (if x.1 = c then (if k = 0 then nI (g j) else wl g c ps (k - 1) (j + 1)) else wl g c ps k (j + 1)) = -1
    by_cases z : x.1 = c
    · rw [if_pos z] at h ⊢
      rw [if_neg (by omega), wl_none ps (k - 1) (j + 1) (by omega)]
    · rw [if_neg z] at h ⊢
      exact wl_none ps k (j + 1) (by omega)
theorem wl_val {g : Nat → Nat} {c : Nat} : ∀ (ps : List (Nat × Nat)) (k j : Nat), wl g c ps k j = -1 ∨ ∃ i, j ≤ i ∧ i < j + ps.length ∧ wl g c ps k j = nI (g i)
  | [], k, j => Or.inl rfl
  | x :: ps, k, j => by
    show (if x.1 = c then (if k = 0 then nI (g j) else wl g c ps (k - 1) (j + 1)) else wl g c ps k (j + 1)) = -1 ∨ ∃ i, j ≤ i ∧ i < j + (ps.length + 1) ∧ (if x.1 = c then (if k = 0 then nI (g j) else wl g c ps (k - 1) (j + 1)) else wl g c ps k (j + 1)) = nI (g i)
    have up : ∀ k', (wl g c ps k' (j + 1) = -1 ∨ ∃ i, j ≤ i ∧ i < j + (ps.length + 1) ∧ wl g c ps k' (j + 1) = nI (g i)) := fun k' => by
      rcases wl_val ps k' (j + 1) with h | ⟨i, h1, h2, h3⟩
      · exact Or.inl h
      · exact Or.inr ⟨i, by omega, by omega, h3⟩
    by_cases z : x.1 = c
    · rw [if_pos z]
      by_cases w : k = 0
      · rw [if_pos w]
        exact Or.inr ⟨j, Nat.le_refl j, by omega, rfl⟩
      · rw [if_neg w]
        exact up (k - 1)
    · rw [if_neg z]
      exact up k
theorem wl_some {g : Nat → Nat} {c : Nat} : ∀ (ps : List (Nat × Nat)) (j : Nat), 1 ≤ nP c ps → ∃ i, j ≤ i ∧ i < j + ps.length ∧ wl g c ps 0 j = nI (g i)
  | [], j, h => absurd (show 1 ≤ 0 from h) (by omega)
  | x :: ps, j, h => by
    have h : 1 ≤ (if x.1 = c then 1 else 0) + nP c ps := h
    show ∃ i, j ≤ i ∧ i < j + (ps.length + 1) ∧ (if x.1 = c then (if 0 = 0 then nI (g j) else wl g c ps (0 - 1) (j + 1)) else wl g c ps 0 (j + 1)) = nI (g i)
    by_cases z : x.1 = c
    · rw [if_pos z, if_pos rfl]
      exact ⟨j, Nat.le_refl j, by omega, rfl⟩
    · rw [if_neg z] at h ⊢
      obtain ⟨i, h1, h2, h3⟩ := wl_some (g := g) (c := c) ps (j + 1) (by omega)
      exact ⟨i, by omega, by omega, h3⟩
theorem wl_congr {g g' : Nat → Nat} {c : Nat} : ∀ (ps : List (Nat × Nat)) (k j : Nat), (∀ i, j ≤ i → i < j + ps.length → g' i = g i) → wl g' c ps k j = wl g c ps k j
  | [], k, j, _ => rfl
  | x :: ps, k, j, h => by
    have h : ∀ i, j ≤ i → i < j + (ps.length + 1) → g' i = g i := h
    show (if x.1 = c then (if k = 0 then nI (g' j) else wl g' c ps (k - 1) (j + 1)) else wl g' c ps k (j + 1)) = (if x.1 = c then (if k = 0 then nI (g j) else wl g c ps (k - 1) (j + 1)) else wl g c ps k (j + 1))
    rw [h j (Nat.le_refl j) (by omega), wl_congr ps (k - 1) (j + 1) (fun i h1 h2 => h i (by omega) (by omega)), wl_congr ps k (j + 1) (fun i h1 h2 => h i (by omega) (by omega))]
theorem pAt_end {ps qs : List (Nat × Nat)} {x : Nat × Nat} : pAt (ps ++ x :: qs) ps.length = x := by unfold pAt; rw [List.getElem?_append_right (Nat.le_refl _)]; simp
theorem nI_m1 (k : Nat) : nI (k + 1) + (-1) = nI k := by
  rw [← nI_1, Int32.add_assoc, show (1 + -1 : Int32) = 0 by decide, Int32.add_zero]
theorem c_pon {st : tSt} {n : Nat} {x1 x2 : Int32} {post : Int32 → tSt → Prop} (hn : n ≤ 12) (h27 : st 27 0 = nI n) (hm : (∀ j, j < n → ¬ st 33 j = x1) ∨ x2 < 0) (h : post (-1) st) : ∀ m k : Nat, k + m = n → wp_Cast_piperOf_5 post (m + 1) x1 x2 (nI k) st
  | 0, k, hk => by
    have e : k = n := by omega
    subst e
    exact b_t (by rw [h27]; exact Int32.le_refl _) h
  | m + 1, k, hk => by
    refine b_f (by rw [h27]; exact nI_ge (by omega) (by omega)) ?_
    by_cases z : x2 < 0
    · exact b_t z h
    · refine b_f z ⟨vp_in_nI (by omega) (by decide), ?_⟩
      rw [n_cl (show k < 2 ^ 31 by omega)]
      refine b_f (hm.elim (fun w => w k (by omega)) (fun w => absurd w z)) (fun y e => ?_)
      rw [nI_1] at e
      subst e
      exact c_pon hn h27 hm h m (k + 1) (by omega)
theorem c_pow {st : tSt} {ps : List (Nat × Nat)} {g : Nat → Nat} {c : Nat} {post : Int32 → tSt → Prop} (hc : c < 6) (hn : ps.length ≤ 12) (h6 : ∀ x, x ∈ ps → x.1 < 6) (h27 : st 27 0 = nI ps.length) (h33 : ∀ j, j < ps.length → st 33 j = nI (pAt ps j).1 ∧ st 34 j = nI (g j)) : ∀ (rem pre : List (Nat × Nat)) (k : Nat), ps = pre ++ rem → k < 2 ^ 31 → post (wl g c rem k pre.length) st → wp_Cast_piperOf_5 post (rem.length + 1) (nI c) (nI k) (nI pre.length) st
  | [], pre, k, hr, hk, h => by
    have e : ps.length = pre.length := by rw [hr, List.append_nil]
    exact b_t (by rw [h27, e]; exact Int32.le_refl _) h
  | x :: rem, pre, k, hr, hk, h => by
    have hl : pre.length + (rem.length + 1) = ps.length := by rw [hr, List.length_append, List.length_cons]
    have hx : pAt ps pre.length = x := by rw [hr]; exact pAt_end
    obtain ⟨e33, e34⟩ := h33 pre.length (by omega)
    rw [hx] at e33
    have hx6 : x.1 < 6 := h6 x (by rw [hr]; simp)
    have hr' : ps = (pre ++ [x]) ++ rem := by rw [hr]; simp
    have hin : vp_in (nI pre.length) 12 := vp_in_nI (by omega) (by decide)
    have h : post (if x.1 = c then (if k = 0 then nI (g pre.length) else wl g c rem (k - 1) (pre.length + 1)) else wl g c rem k (pre.length + 1)) st := h
    have go : ∀ k', k' < 2 ^ 31 → post (wl g c rem k' (pre.length + 1)) st → wp_Cast_piperOf_44 post (wp_Cast_piperOf_5 post (rem.length + 1)) (nI c) (nI k') (nI pre.length) st := by
      intro k' hk' hp y e
      rw [nI_1] at e
      subst e
      have hp' : post (wl g c rem k' (pre ++ [x]).length) st := by rw [List.length_append]; exact hp
      have := c_pow (post := post) hc hn h6 h27 h33 rem (pre ++ [x]) k' hr' hk' hp'
      rw [List.length_append] at this
      exact this
    refine b_f (by rw [h27]; exact nI_ge (by omega) (by omega)) (b_f (nI_pos hk) ⟨hin, ?_⟩)
    rw [n_cl (show pre.length < 2 ^ 31 by omega), e33, e34]
    by_cases z : x.1 = c
    · rw [if_pos z] at h
      refine b_t (by rw [z]) ?_
      by_cases w : k = 0
      · rw [if_pos w] at h
        exact b_t (by rw [w]; rfl) ⟨hin, h⟩
      · rw [if_neg w] at h
        refine b_f (fun e => w ((nI_eq (b := 0) hk (by decide)).mp e)) (fun y e => ?_)
        rw [show k = (k - 1) + 1 by omega, nI_m1] at e
        subst e
        exact go (k - 1) (by omega) h
    · rw [if_neg z] at h
      exact b_f (fun e => z ((nI_eq (by omega) (by omega)).mp e)) (go k hk h)
theorem m_whoL {t : tSt} {ps : List (Nat × Nat)} {g : Nat → Nat} {c k : Nat} {post : Int32 → tSt → Prop} (hc : c < 6) (hk : k < 2 ^ 31) (hn : ps.length ≤ 12) (h6 : ∀ x, x ∈ ps → x.1 < 6) (h8 : t 8 0 = nI ps.length) (h23 : ∀ j, j < ps.length → t 23 j = nI (pAt ps j).1) (h25 : ∀ j, j < ps.length → t 25 j = nI (g j)) : ∀ (rem pre : List (Nat × Nat)) (i : Nat), ps = pre ++ rem → i ≤ k → post (wl g c rem (k - i) pre.length) t → wp_M_whoHas_5 post (rem.length + 1) (nI c) (nI k) (nI i) (nI pre.length) t
  | [], pre, i, hr, hi, h => by
    have e : ps.length = pre.length := by rw [hr, List.append_nil]
    exact b_t (by rw [h8, e]; exact Int32.le_refl _) h
  | x :: rem, pre, i, hr, hi, h => by
    have hl : pre.length + (rem.length + 1) = ps.length := by rw [hr, List.length_append, List.length_cons]
    have hx : pAt ps pre.length = x := by rw [hr]; exact pAt_end
    have e23 := h23 pre.length (by omega)
    have e25 := h25 pre.length (by omega)
    rw [hx] at e23
    have hx6 : x.1 < 6 := h6 x (by rw [hr]; simp)
    have hr' : ps = (pre ++ [x]) ++ rem := by rw [hr]; simp
    have hin : vp_in (nI pre.length) 12 := vp_in_nI (by omega) (by decide)
    have h : post (if x.1 = c then (if k - i = 0 then nI (g pre.length) else wl g c rem (k - i - 1) (pre.length + 1)) else wl g c rem (k - i) (pre.length + 1)) t := h
    have go : ∀ i', i' ≤ k → post (wl g c rem (k - i') (pre.length + 1)) t → wp_M_whoHas_44 post (wp_M_whoHas_5 post (rem.length + 1)) (nI c) (nI k) (nI i') (nI pre.length) t := by
      intro i' hi' hp y e
      rw [nI_1] at e
      subst e
      have hp' : post (wl g c rem (k - i') (pre ++ [x]).length) t := by rw [List.length_append]; exact hp
      have := m_whoL (post := post) hc hk hn h6 h8 h23 h25 rem (pre ++ [x]) i' hr' hi' hp'
      rw [List.length_append] at this
      exact this
    refine b_f (by rw [h8]; exact nI_ge (by omega) (by omega)) ⟨hin, ?_⟩
    rw [n_cl (show pre.length < 2 ^ 31 by omega), e23, e25]
    by_cases z : x.1 = c
    · rw [if_pos z] at h
      refine b_t (by rw [z]) ?_
      by_cases w : k - i = 0
      · rw [if_pos w] at h
        exact b_t (by rw [show i = k by omega]) ⟨hin, h⟩
      · rw [if_neg w] at h
        refine b_f (fun e => w (by have := (nI_eq (by omega) hk).mp e; omega)) (fun y e => ?_)
        rw [nI_1] at e
        subst e
        exact go (i + 1) (by omega) (by rw [show k - (i + 1) = k - i - 1 by omega]; exact h)
    · rw [if_neg z] at h
      exact b_f (fun e => z ((nI_eq (by omega) (by omega)).mp e)) (go i hi h)
/-- what a plan and a base give together -/
theorem pl_ok {D : Dt} (hB : bOK D) {res : List Nat} (ha : accOf res (row D) = res) (hn : res.Nodup) : res.length ≤ 6 ∧ (∀ c, c ∈ res → c < 6 ∧ dT D c = 1 ∧ rCallOK (dF D c)) ∧ (pts (dF D) res).length ≤ 12 ∧ ∀ x, x ∈ pts (dF D) res → x.1 < 6 := by
  have h1 : ∀ c, c ∈ res → c < 6 ∧ dT D c = 1 ∧ rCallOK (dF D c) := fun c hc => bOK_row hB c (acc_sub ha hc)
  have h2 := len6 hn (fun c hc => (h1 c hc).1)
  have h3 := pts_len (dF D) res
  exact ⟨h2, h1, by omega, fun x hx => (h1 _ (pts_mem res (fun c hc => (h1 c hc).2.2) hx).1).1⟩
theorem c_pipO {D : Dt} {st : tSt} {res : List Nat} {g : Nat → Nat} {c k : Nat} {post : Int32 → tSt → Prop} (hB : bOK D) (hp : PCk D st res g) (hc : c < 6) (hk : k < 2 ^ 31) (h : post (wl g c (pts (dF D) res) k 0) st) : wp_Plan_piperOf (nI c) (nI k) st post := by
  obtain ⟨-, -, o3, o4⟩ := pl_ok hB (PCk_acc hp) hp.2.1
  exact ⟨(pts (dF D) res).length + 1, c_pow hc o3 o4 hp.2.2.2.2.2.1 hp.2.2.2.2.2.2.1 (pts (dF D) res) [] k rfl hk h⟩
theorem m_whoH {D : Dt} {t : tSt} {res : List Nat} {g : Nat → Nat} {c k : Nat} {post : Int32 → tSt → Prop} (hp : MWk D t res g) (hc : c < 6) (hk : k < 2 ^ 31) (h : post (wl g c (pts (dF D) res) k 0) t) : wp_M_whoHas (nI c) (nI k) t post := by
  obtain ⟨-, -, -, -, ⟨p1, p2, p3, p4⟩, p5, -⟩ := hp
  exact ⟨(pts (dF D) res).length + 1, m_whoL hc hk p1 (fun x hx => (p4 x hx).1) p2 (fun j hj => (p3 j hj).1) p5 (pts (dF D) res) [] 0 rfl (Nat.zero_le k) h⟩
theorem c_phas {D : Dt} {st : tSt} {res : List Nat} {g : Nat → Nat} {c : Nat} {post : Int32 → tSt → Prop} (hp : PCk D st res g) (hc : c < 6) (h1 : c ∈ res → post 1 st) (h0 : ¬ c ∈ res → post 0 st) : wp_Plan_has (nI c) st post := by
  refine c_w1 (c_in5 hc).1 (c_in5 hc).2 (b_f (by decide) (c_has (by omega) ?_))
  by_cases z : c ∈ res
  · rw [if_pos (show bt (st 26 0) c = true from (hp.2.2.2.1 c (by omega)).mpr z)]
    exact b_f (by decide) (h1 z)
  · rw [if_neg (show ¬ bt (st 26 0) c = true from fun w => z ((hp.2.2.2.1 c (by omega)).mp w))]
    exact b_t rfl (h0 z)
theorem c_phas0 {st : tSt} {x : Int32} {post : Int32 → tSt → Prop} (hx : x < 0 ∨ (5 : Int32) < x) (h : post 0 st) : wp_Plan_has x st post := c_w0 hx (b_t rfl h)
theorem p_who : lwP_who (tRel PO) := by
  intro st sm x1 x2 hR
  refine c_plan hR (fun s' k4 h4 hp => ?_)
  have hB' := rBase_c (fun κ k1 k2 _ => k4 κ (by omega) k2) hR.1
  obtain ⟨P, hM⟩ := rB_MD hB'
  obtain ⟨res, g, v0, hc, -⟩ := id hp
  have hbo := MD_bOK hM
  obtain ⟨o1, o2, o3, o4⟩ := pl_ok hbo (PCk_acc hc) hc.2.1
  have rel0 : tRel PO s' sm := rel_of hR.1 k4 h4 hp (fun _ _ _ _ _ _ _ _ _ _ _ => rfl)
  have none1 : ∀ {Q : Int32 → tSt → Prop}, ((∀ j, j < (pts (dF (dt s')) res).length → ¬ s' 33 j = x1) ∨ x2 < 0) → Q (-1) s' → wp_Plan_piperOf x1 x2 s' Q := fun h hq => ⟨_, c_pon o3 hc.2.2.2.2.2.1 h hq (pts (dF (dt s')) res).length 0 (by omega)⟩
  have at33 : ∀ j, j < (pts (dF (dt s')) res).length → s' 33 j = nI (pAt (pts (dF (dt s')) res) j).1 ∧ (pAt (pts (dF (dt s')) res) j).1 ∈ res := fun j hj => ⟨(hc.2.2.2.2.2.2.1 j hj).1, (pts_mem res (fun c hc => (o2 c hc).2.2) (pAt_mem hj)).1⟩
  rcases q_ix x1 with hx | ⟨c, hc6, rfl⟩
  · refine none1 (Or.inl (fun j hj e => ?_)) (m_isCo hx (b_t rfl ⟨rfl, rel0⟩))
    obtain ⟨a1, a2⟩ := at33 j hj
    have a3 := c_in5 (o2 _ a2).1
    rw [← e, a1] at hx
    exact hx.elim a3.1 a3.2
  have nores : ¬ c ∈ res → ∀ j, j < (pts (dF (dt s')) res).length → ¬ s' 33 j = nI c := fun hn j hj e => by
    obtain ⟨a1, a2⟩ := at33 j hj
    have := (o2 _ a2).1
    rw [a1] at e
    have := (nI_eq (by omega) (by omega)).mp e
    rw [this] at a2
    exact hn a2
  rcases call_there (hB'.2.2.2.2.1 c hc6) with ⟨h0, g0⟩ | ⟨h0, g0⟩
  · refine none1 (Or.inl (nores (fun z => ?_))) (m_isC0 hc6 g0 (b_t rfl ⟨rfl, rel0⟩))
    have e1 : s' 13 c = 1 := (o2 c z).2.1
    rw [h0] at e1
    exact absurd e1 (by decide)
  rcases w_dec x2 0 1 with g1 | ⟨g1, g2⟩
  · have fin : wp_M_who (nI c) x2 sm (fun r1 sm1 => (-1 : Int32) = r1 ∧ tRel PO s' sm1) := m_isC1 hc6 g0 (b_f (by decide) (m_w0 g1 (b_t rfl ⟨rfl, rel0⟩)))
    by_cases z : x2 < 0
    · exact none1 (Or.inr z) fin
    · obtain ⟨k, k1, rfl⟩ := nI_of z
      have k2 : 2 ≤ k := by
        rcases g1 with w | w
        · exact absurd w z
        · have := (nI_ltI (a := 1) (by decide) k1).mp w
          omega
      refine c_pipO hbo hc hc6 k1 ?_
      rw [wl_none _ _ _ (by have := nP_two (dF (dt s')) c res hc.2.1; omega)]
      exact fin
  obtain ⟨k, -, hk, rfl⟩ := n_btw (a := 0) (b := 1) (by decide) (by decide) g1 g2
  refine c_pipO hbo hc hc6 (by omega) (m_isC1 hc6 g0 (b_f (by decide) (m_w1 g1 g2 (b_f (by decide) (m_works hM (fun t' res' g' w1 m1 => ?_))))))
  obtain ⟨e, eg⟩ := pl_uniq hc m1
  subst e
  have relw := rel_of hR.1 k4 h4 hp (wS_uS w1)
  refine m_has (by omega) ?_
  by_cases z : c ∈ res'
  · rw [if_pos (show bt (t' 7 0) c = true from (m1.2.2.2.1 c (by omega)).mpr z)]
    refine b_f (by decide) (m_whoH m1 hc6 (by omega) ⟨?_, relw⟩)
    exact (wl_congr _ _ _ (fun i _ h2 => eg i (by omega))).symm
  · rw [if_neg (show ¬ bt (t' 7 0) c = true from fun w => z ((m1.2.2.2.1 c (by omega)).mp w))]
    refine b_t rfl ⟨?_, relw⟩
    exact wl_none _ _ _ (by rw [nP_out _ _ _ z]; omega)
theorem p_heard : lwP_heard (tRel PO) := by
  intro st sm x1 hR
  refine c_plan hR (fun s' k4 h4 hp => ?_)
  have hB' := rBase_c (fun κ k1 k2 _ => k4 κ (by omega) k2) hR.1
  obtain ⟨P, hM⟩ := rB_MD hB'
  obtain ⟨res, g, v0, hc, ht⟩ := id hp
  have hbo := MD_bOK hM
  obtain ⟨o1, o2, o3, o4⟩ := pl_ok hbo (PCk_acc hc) hc.2.1
  have rel0 : tRel PO s' sm := rel_of hR.1 k4 h4 hp (fun _ _ _ _ _ _ _ _ _ _ _ => rfl)
  rcases q_ix x1 with hx | ⟨c, hc6, rfl⟩
  · refine c_phas0 hx (b_t rfl ?_)
    exact m_isCo hx (b_t rfl ⟨rfl, rel0⟩)
  have ec := n_cl (show c < 2 ^ 31 by omega)
  have hin : vp_in (nI c) 6 := vp_in_nI hc6 (by decide)
  obtain ⟨-, -, -, -, q5, ⟨T, Dd, q6, q7⟩, -⟩ := id hB'
  rcases q5 c hc6 with ⟨h0, g0⟩ | ⟨h0, h2, h3⟩
  · have no : ¬ c ∈ res := fun z => by
      have e1 : s' 13 c = 1 := (o2 c z).2.1
      rw [h0] at e1
      exact absurd e1 (by decide)
    refine c_phas hc hc6 (fun z => absurd z no) (fun _ => b_t rfl ?_)
    exact m_isC0 hc6 g0 (b_t rfl ⟨rfl, rel0⟩)
  have g0 : ¬ sm 17 (8 * c) = -1 := by
    have e : s' (14 + c) 0 = sm 17 (8 * c) := h2 0 (by decide)
    rw [← e]
    exact call0_ne h3
  have hrow : c ∈ row (dt s') := mem_row hc6 h0 (by show rCallOK (fc s' c); rw [fc_at hc6]; exact h3)
  have e2 : (s' 2 0).toNatClampNeg = Dd := by rw [q7.2.1]; exact n_cl (by have := q7.1; omega)
  have fin : ∀ r : Int32, (c ∈ res → r = oI (tch (fitS s') (6 * Dd) res 0 v0 c)) → (¬ c ∈ res → r = -1) → wp_M_heard (nI c) sm (fun r1 sm1 => r = r1 ∧ tRel PO s' sm1) := by
    intro r r1 r2
    refine m_isC1 hc6 g0 (b_f (by decide) (m_tunesOf hM q6 q7 ht.1 (fun t' res' g' u1 m1 m2 => ⟨hin, ?_⟩)))
    rw [ec]
    obtain ⟨e, -⟩ := pl_uniq hc m1
    subst e
    refine ⟨?_, rel_of hR.1 k4 h4 hp u1⟩
    rw [m2 c hrow]
    by_cases z : c ∈ res'
    · rw [if_pos z]; exact r1 z
    · rw [if_neg z]; exact r2 z
  refine c_phas hc hc6 (fun z => b_f (by decide) ⟨hin, ?_⟩) (fun z => b_t rfl (fin _ (fun w => absurd w z) (fun _ => rfl)))
  rw [ec]
  refine fin _ (fun _ => ?_) (fun w => absurd z w)
  have := ht.2.1 c z
  rw [e2] at this
  exact this
theorem c_cntP {st : tSt} {n : Nat} {x1 : Int32} {post : Int32 → tSt → Prop} (hn : n ≤ 12) (h27 : st 27 0 = nI n) (h : post (nI (cntb (fun j => decide (st 34 j = x1)) n)) st) : ∀ m k : Nat, k + m = n → wp_Cast_partsOf_4 post (m + 1) x1 (nI (cntb (fun j => decide (st 34 j = x1)) k)) (nI k) st
  | 0, k, hk => by
    have e : k = n := by omega
    subst e
    exact b_t (by rw [h27]; exact Int32.le_refl _) h
  | m + 1, k, hk => by
    have ih := c_cntP hn h27 h m (k + 1) (by omega)
    refine b_f (by rw [h27]; exact nI_ge (by omega) (by omega)) ⟨vp_in_nI (by omega) (by decide), ?_⟩
    rw [n_cl (show k < 2 ^ 31 by omega)]
    by_cases z : st 34 k = x1
    · have e2 : cntb (fun j => decide (st 34 j = x1)) (k + 1) = cntb (fun j => decide (st 34 j = x1)) k + 1 := by
        show cntb _ k + (if decide (st 34 k = x1) = true then 1 else 0) = _
        simp [z]
      rw [e2] at ih
      refine b_t z (fun y e y2 e3 => ?_)
      rw [nI_1] at e e3
      subst e; subst e3
      exact ih
    · have e2 : cntb (fun j => decide (st 34 j = x1)) (k + 1) = cntb (fun j => decide (st 34 j = x1)) k := by
        show cntb _ k + (if decide (st 34 k = x1) = true then 1 else 0) = _
        simp [z]
      rw [e2] at ih
      refine b_f z (fun y2 e3 => ?_)
      rw [nI_1] at e3
      subst e3
      exact ih
theorem m_cntP {st : tSt} {n : Nat} {x1 : Int32} {post : Int32 → tSt → Prop} (hn : n ≤ 12) (h8 : st 8 0 = nI n) (h : post (nI (cntb (fun j => decide (st 25 j = x1)) n)) st) : ∀ m k : Nat, k + m = n → wp_M_look_72 post (m + 1) x1 (nI (cntb (fun j => decide (st 25 j = x1)) k)) (nI k) st
  | 0, k, hk => by
    have e : k = n := by omega
    subst e
    exact b_t (by rw [h8]; exact Int32.le_refl _) h
  | m + 1, k, hk => by
    have ih := m_cntP hn h8 h m (k + 1) (by omega)
    refine b_f (by rw [h8]; exact nI_ge (by omega) (by omega)) ⟨vp_in_nI (by omega) (by decide), ?_⟩
    rw [n_cl (show k < 2 ^ 31 by omega)]
    by_cases z : st 25 k = x1
    · have e2 : cntb (fun j => decide (st 25 j = x1)) (k + 1) = cntb (fun j => decide (st 25 j = x1)) k + 1 := by
        show cntb _ k + (if decide (st 25 k = x1) = true then 1 else 0) = _
        simp [z]
      rw [e2] at ih
      refine b_t z (fun y e y2 e3 => ?_)
      rw [nI_1] at e e3
      subst e; subst e3
      exact ih
    · have e2 : cntb (fun j => decide (st 25 j = x1)) (k + 1) = cntb (fun j => decide (st 25 j = x1)) k := by
        show cntb _ k + (if decide (st 25 k = x1) = true then 1 else 0) = _
        simp [z]
      rw [e2] at ih
      refine b_f z (fun y e y2 e3 => ?_)
      rw [nI_1] at e3
      subst e3
      rw [show y = nI (cntb (fun j => decide (st 25 j = x1)) k) by rw [e]; exact nI_add _ 0]
      exact ih
theorem p_look : lwP_look (tRel PO) := by
  intro st sm x1 x2 hR
  obtain ⟨P, p1, p2, p3, p4, p5, p6⟩ := hR.1.2.2.1
  rcases p_ix x1 p1 with hx | ⟨i, hi, rfl⟩
  · exact c_isP0 p2 p1 hx (b_t rfl (m_isP0 p3 p1 hx (b_t rfl ⟨rfl, hR⟩)))
  have hc : (nI i).toNatClampNeg = i := nI_clamp (by omega)
  have hin : vp_in (nI i) 6 := vp_in_nI (by omega) (by decide)
  refine c_isP1 p2 p1 hi (b_f (by decide) ?_)
  rw [hc]
  by_cases z0 : x2 = 0
  · refine b_t z0 ⟨hin, m_isP1 p3 p1 hi (b_f (by decide) ?_)⟩
    rw [hc]
    exact b_t z0 ⟨hin, (p4 i hi).1, hR⟩
  by_cases z1 : x2 = 1
  · refine b_f z0 (b_t z1 ⟨hin, m_isP1 p3 p1 hi (b_f (by decide) ?_)⟩)
    rw [hc]
    exact b_f z0 (b_t z1 ⟨hin, (p4 i hi).2.1, hR⟩)
  by_cases z2 : x2 = 2
  · refine b_f z0 (b_f z1 (b_t z2 ⟨hin, m_isP1 p3 p1 hi (b_f (by decide) ?_)⟩))
    rw [hc]
    exact b_f z0 (b_f z1 (b_t z2 ⟨hin, (p5 i (by omega)).1, hR⟩))
  by_cases z3 : x2 = 3
  · refine b_f z0 (b_f z1 (b_f z2 (b_t z3 (c_plan hR (fun s' k4 h4 hp => ?_)))))
    have hB' := rBase_c (fun κ k1 k2 _ => k4 κ (by omega) k2) hR.1
    obtain ⟨P', hM⟩ := rB_MD hB'
    obtain ⟨res, g, v0, hc', -⟩ := id hp
    have hbo := MD_bOK hM
    obtain ⟨o1, o2, o3, o4⟩ := pl_ok hbo (PCk_acc hc') hc'.2.1
    refine ⟨_, c_cntP o3 hc'.2.2.2.2.2.1 ?_ (pts (dF (dt s')) res).length 0 (by omega)⟩
    refine m_isP1 p3 p1 hi (b_f (by decide) ?_)
    refine b_f z0 (b_f z1 (b_f z2 (b_t z3 (m_works hM (fun t' res' g' w1 m1 => ?_)))))
    obtain ⟨e, eg⟩ := pl_uniq hc' m1
    subst e
    refine ⟨_, m_cntP o3 m1.2.2.2.2.1.2.1 ⟨?_, rel_of hR.1 k4 h4 hp (wS_uS w1)⟩ (pts (dF (dt s')) res').length 0 (by omega)⟩
    refine congrArg nI (cntb_congr _ (fun j hj => ?_))
    rw [(hc'.2.2.2.2.2.2.1 j hj).2, m1.2.2.2.2.2.1 j hj, eg j hj]
  · refine b_f z0 (b_f z1 (b_f z2 (b_f z3 (m_isP1 p3 p1 hi (b_f (by decide) ?_)))))
    exact b_f z0 (b_f z1 (b_f z2 (b_f z3 ⟨rfl, hR⟩)))
