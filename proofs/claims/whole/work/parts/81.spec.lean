/-! what a day's plan is, in plain terms -/
abbrev Dt := (Nat → Nat → Int32) × (Nat → Int32) × (Nat → Int32) × (Nat → Int32) × (Nat → Int32) × Nat
abbrev dF (D : Dt) : Nat → Nat → Int32 := D.1
abbrev dH (D : Dt) : Nat → Int32 := D.2.1
abbrev dL (D : Dt) : Nat → Int32 := D.2.2.1
abbrev dC (D : Dt) : Nat → Int32 := D.2.2.2.1
abbrev dT (D : Dt) : Nat → Int32 := D.2.2.2.2.1
abbrev dw (D : Dt) : Nat := D.2.2.2.2.2
def fc (s : tSt) : Nat → Nat → Int32 := fun c => if c < 6 then s (14 + c) else fun _ => 0
def dt (s : tSt) : Dt := (fc s, s 11, s 10, s 23, s 13, (s 7 0).toNatClampNeg)
theorem fc_at {s : tSt} {c : Nat} (h : c < 6) : fc s c = s (14 + c) := if_pos h
theorem dt_eq {s s' : tSt} (h7 : s' 7 = s 7) (h10 : s' 10 = s 10) (h11 : s' 11 = s 11) (h13 : s' 13 = s 13) (h23 : s' 23 = s 23) (hf : ∀ c, c < 6 → s' (14 + c) = s (14 + c)) : dt s' = dt s := by
  have e : fc s' = fc s := by
    funext c
    unfold fc
    by_cases z : c < 6
    · rw [if_pos z, if_pos z, hf c z]
    · rw [if_neg z, if_neg z]
  unfold dt
  rw [e, h7, h10, h11, h13, h23]
def ptsOf (F : Nat → Nat → Int32) (c : Nat) : List (Nat × Nat) := (c, (F c 5).toNatClampNeg) :: (if F c 6 = -1 then [] else [(c, (F c 6).toNatClampNeg)])
def pts (F : Nat → Nat → Int32) : List Nat → List (Nat × Nat)
  | [] => []
  | c :: l => ptsOf F c ++ pts F l
theorem pts_app (F : Nat → Nat → Int32) (c : Nat) : ∀ l, pts F (l ++ [c]) = pts F l ++ ptsOf F c
  | [] => by show ptsOf F c ++ [] = [] ++ ptsOf F c; simp
  | d :: l => by
    show ptsOf F d ++ pts F (l ++ [c]) = (ptsOf F d ++ pts F l) ++ ptsOf F c
    rw [pts_app F c l, List.append_assoc]
def pAt (ps : List (Nat × Nat)) (j : Nat) : Nat × Nat := (ps[j]?).getD (0, 0)
theorem pAt_l {ps qs : List (Nat × Nat)} {j : Nat} (h : j < ps.length) : pAt (ps ++ qs) j = pAt ps j := by unfold pAt; rw [List.getElem?_append_left h]
theorem pAt_r {ps qs : List (Nat × Nat)} {j : Nat} (h : ps.length ≤ j) : pAt (ps ++ qs) j = pAt qs (j - ps.length) := by unfold pAt; rw [List.getElem?_append_right h]
theorem pAt_mem {ps : List (Nat × Nat)} {j : Nat} (h : j < ps.length) : pAt ps j ∈ ps := by
  unfold pAt
  rw [List.getElem?_eq_getElem h]
  exact List.getElem_mem h
def lAt (l : List Nat) (j : Nat) : Nat := (l[j]?).getD 0
theorem lAt_l {l r : List Nat} {j : Nat} (h : j < l.length) : lAt (l ++ r) j = lAt l j := by unfold lAt; rw [List.getElem?_append_left h]
theorem lAt_end {l r : List Nat} {c : Nat} : lAt (l ++ c :: r) l.length = c := by unfold lAt; rw [List.getElem?_append_right (Nat.le_refl _)]; simp
theorem lAt_mem {l : List Nat} {j : Nat} (h : j < l.length) : lAt l j ∈ l := by
  unfold lAt
  rw [List.getElem?_eq_getElem h]
  exact List.getElem_mem h
def onB (f : Nat → Int32) (q : Nat) : Bool := decide (fFr f ≤ q) && decide (q < fFr f + fLe f)
def pw (f : Nat → Int32) (i : Nat) : Nat := (if f 5 = nI i then 1 else 0) + (if f 6 = nI i then 1 else 0)
def tm (F : Nat → Nat → Int32) (i q c : Nat) : Nat := if onB (F c) q = true then pw (F c) i else 0
def sL (f : Nat → Nat) : List Nat → Nat
  | [] => 0
  | c :: l => f c + sL f l
def sN (f : Nat → Nat) : Nat → Nat
  | 0 => 0
  | n + 1 => sN f n + f n
theorem sN_congr {f g : Nat → Nat} : ∀ n, (∀ k, k < n → f k = g k) → sN f n = sN g n
  | 0, _ => rfl
  | n + 1, h => by
    show sN f n + f n = sN g n + g n
    rw [sN_congr n (fun k hk => h k (by omega)), h n (by omega)]
theorem sN_up {f g : Nat → Nat} {c v : Nat} : ∀ n, c < n → (∀ k, k < n → k ≠ c → g k = f k) → f c = 0 → g c = v → sN g n = v + sN f n
  | 0, h, _, _, _ => by omega
  | n + 1, h, he, h0, hv => by
    show sN g n + g n = v + (sN f n + f n)
    by_cases z : c = n
    · subst z
      rw [h0, hv, sN_congr c (fun k hk => he k (by omega) (by omega))]
      omega
    · rw [sN_up n (by omega) (fun k hk => he k (by omega)) h0 hv, he n (by omega) (by omega)]
      omega
theorem sN_0 {f : Nat → Nat} : ∀ n, (∀ k, k < n → f k = 0) → sN f n = 0
  | 0, _ => rfl
  | n + 1, h => by
    show sN f n + f n = 0
    rw [sN_0 n (fun k hk => h k (by omega)), h n (by omega)]
theorem sL_sN {f : Nat → Nat} : ∀ l : List Nat, l.Nodup → (∀ c, c ∈ l → c < 6) → sN (fun c => if c ∈ l then f c else 0) 6 = sL f l
  | [], _, _ => sN_0 6 (fun k _ => by simp)
  | d :: l, hn, h6 => by
    have hd : ¬ d ∈ l := (List.nodup_cons.mp hn).1
    have ih := sL_sN (f := f) l (List.nodup_cons.mp hn).2 (fun c hc => h6 c (List.mem_cons_of_mem d hc))
    show _ = f d + sL f l
    rw [← ih]
    refine sN_up (c := d) 6 (h6 d List.mem_cons_self) (fun k _ hk => ?_) (by simp [hd]) (by simp)
    simp [hk]
theorem sN_le1 {f : Nat → Nat} : ∀ n, (∀ k, k < n → f k ≤ 1) → sN f n ≤ n
  | 0, _ => Nat.le_refl 0
  | n + 1, h => by
    have := sN_le1 (f := f) n (fun k hk => h k (by omega))
    have := h n (by omega)
    show sN f n + f n ≤ n + 1
    omega
theorem sL_1 : ∀ l : List Nat, sL (fun _ => 1) l = l.length
  | [] => rfl
  | c :: l => by
    show 1 + sL (fun _ => 1) l = l.length + 1
    rw [sL_1 l]
    omega
theorem len6 {l : List Nat} (hn : l.Nodup) (h6 : ∀ c, c ∈ l → c < 6) : l.length ≤ 6 := by
  rw [← sL_1 l, ← sL_sN l hn h6]
  refine sN_le1 6 (fun k _ => ?_)
  by_cases z : k ∈ l <;> simp [z]
def us (F : Nat → Nat → Int32) (i q : Nat) (l : List Nat) : Nat := sL (tm F i q) l
def vOk (D : Dt) (ps : List (Nat × Nat)) (j p : Nat) : Prop := dH D p = 0 ∧ bt (dL D p) (pAt ps j).2 = true
def vCl (D : Dt) (ps : List (Nat × Nat)) (i j : Nat) : Prop := clB (dw D) (dF D (pAt ps i).1) (dF D (pAt ps j).1) = true
def plP (D : Dt) (l : List Nat) : Prop := ∀ i, i < 5 → ∀ q, q < 96 → nI (us (dF D) i q l) ≤ dC D i
def plV (D : Dt) (l : List Nat) (g : Nat → Nat) : Prop := Vd (pts (dF D) l).length 6 (vOk D (pts (dF D) l)) (vCl D (pts (dF D) l)) g
def plL (D : Dt) (l : List Nat) (g : Nat → Nat) : Prop := Lst (pts (dF D) l).length 6 (vOk D (pts (dF D) l)) (vCl D (pts (dF D) l)) g
def Pl (D : Dt) (l : List Nat) : Prop := plP D l ∧ ∃ g, plV D l g
def okL (D : Dt) (l : List Nat) : Prop := ∀ c, c ∈ l → c < 6 ∧ dT D c = 1 ∧ rCallOK (dF D c)
theorem two_ok {f : Nat → Int32} (h : rCallOK f) : (f 5).toNatClampNeg < 5 ∧ f 5 = nI (f 5).toNatClampNeg ∧ (f 6 = -1 ∨ ((f 6).toNatClampNeg < 5 ∧ f 6 = nI (f 6).toNatClampNeg ∧ ¬ f 6 = -1)) := by
  obtain ⟨o, fr, le, pl, oc, on, fe, h1, h2, h3, h4, h5, h6, h7, h8, e0, e1, e2, e3, e4, e5, e6, e7⟩ := h
  refine ⟨by rw [e5, n_cl (by omega)]; omega, by rw [e5, n_cl (by omega)], ?_⟩
  rcases e6 with e6 | ⟨tw, t1, t2⟩
  · exact Or.inl e6
  · exact Or.inr ⟨by rw [t2, n_cl (by omega)]; omega, by rw [t2, n_cl (by omega)], by rw [t2]; exact n_m1_ne (by omega)⟩
theorem ptsOf_mem {F : Nat → Nat → Int32} {c : Nat} {x : Nat × Nat} (h : rCallOK (F c)) (hx : x ∈ ptsOf F c) : x.1 = c ∧ x.2 < 5 := by
  have t := two_ok h
  unfold ptsOf at hx
  rcases List.mem_cons.mp hx with e | e
  · rw [e]; exact ⟨rfl, t.1⟩
  · rcases t.2.2 with z | z
    · rw [if_pos z] at e; cases e
    · rw [if_neg z.2.2] at e
      rw [List.mem_singleton.mp e]
      exact ⟨rfl, z.1⟩
theorem pts_mem {F : Nat → Nat → Int32} {x : Nat × Nat} : ∀ l : List Nat, (∀ c, c ∈ l → rCallOK (F c)) → x ∈ pts F l → x.1 ∈ l ∧ x.2 < 5
  | [], _, h => by cases h
  | d :: l, ho, h => by
    rcases List.mem_append.mp (show x ∈ ptsOf F d ++ pts F l from h) with e | e
    · have := ptsOf_mem (ho d List.mem_cons_self) e
      rw [this.1]
      exact ⟨List.mem_cons_self, this.2⟩
    · have := pts_mem l (fun c hc => ho c (List.mem_cons_of_mem d hc)) e
      exact ⟨List.mem_cons_of_mem d this.1, this.2⟩
theorem ptsOf_len (F : Nat → Nat → Int32) (c : Nat) : (ptsOf F c).length ≤ 2 := by
  unfold ptsOf
  by_cases z : F c 6 = -1
  · rw [if_pos z]; simp
  · rw [if_neg z]; simp
theorem pts_len (F : Nat → Nat → Int32) : ∀ l : List Nat, (pts F l).length ≤ 2 * l.length
  | [] => Nat.le_refl 0
  | d :: l => by
    have := pts_len F l
    have := ptsOf_len F d
    show (ptsOf F d ++ pts F l).length ≤ 2 * (l.length + 1)
    rw [List.length_append]
    omega
/-! the calls of the day in their order -/
def isO (D : Dt) (o c : Nat) : Bool := decide (dT D c = 1) && decide (dF D c 0 = nI o)
def rC (D : Dt) (o : Nat) : Nat → Nat → List Nat
  | 0, _ => []
  | m + 1, c => if isO D o c = true then c :: rC D o m (c + 1) else rC D o m (c + 1)
def rO (D : Dt) : Nat → Nat → List Nat
  | 0, _ => []
  | m + 1, o => rC D o 6 0 ++ rO D m (o + 1)
def row (D : Dt) : List Nat := rO D 4 0
theorem mem_rC {D : Dt} {o x : Nat} : ∀ m c, x ∈ rC D o m c ↔ (c ≤ x ∧ x < c + m ∧ isO D o x = true)
  | 0, c => by
    constructor
    · intro h; cases h
    · intro h; omega
  | m + 1, c => by
    have ih := mem_rC (D := D) (o := o) (x := x) m (c + 1)
    unfold rC
    by_cases z : isO D o c = true
    · rw [if_pos z, List.mem_cons, ih]
      constructor
      · rintro (h | h)
        · rw [h]; exact ⟨Nat.le_refl c, by omega, z⟩
        · exact ⟨by omega, by omega, h.2.2⟩
      · intro h
        by_cases e : x = c
        · exact Or.inl e
        · exact Or.inr ⟨by omega, by omega, h.2.2⟩
    · rw [if_neg z, ih]
      constructor
      · intro h; exact ⟨by omega, by omega, h.2.2⟩
      · intro h
        refine ⟨?_, by omega, h.2.2⟩
        by_cases e : x = c
        · rw [e] at h; exact absurd h.2.2 z
        · omega
theorem nodup_rC {D : Dt} {o : Nat} : ∀ m c, (rC D o m c).Nodup
  | 0, c => List.nodup_nil
  | m + 1, c => by
    have ih := nodup_rC (D := D) (o := o) m (c + 1)
    unfold rC
    by_cases z : isO D o c = true
    · rw [if_pos z]
      refine List.nodup_cons.mpr ⟨fun h => ?_, ih⟩
      have := ((mem_rC m (c + 1)).mp h).1
      omega
    · rw [if_neg z]; exact ih
theorem mem_rO {D : Dt} {x : Nat} : ∀ m o, x ∈ rO D m o ↔ (x < 6 ∧ ∃ o', o ≤ o' ∧ o' < o + m ∧ isO D o' x = true)
  | 0, o => by
    constructor
    · intro h; cases h
    · rintro ⟨-, o', h1, h2, -⟩; omega
  | m + 1, o => by
    have ih := mem_rO (D := D) (x := x) m (o + 1)
    unfold rO
    rw [List.mem_append, ih, mem_rC 6 0]
    constructor
    · rintro (h | ⟨h, o', h1, h2, h3⟩)
      · exact ⟨by omega, o, Nat.le_refl o, by omega, h.2.2⟩
      · exact ⟨h, o', by omega, by omega, h3⟩
    · rintro ⟨h, o', h1, h2, h3⟩
      by_cases e : o' = o
      · exact Or.inl ⟨by omega, by omega, by rw [← e]; exact h3⟩
      · exact Or.inr ⟨h, o', by omega, by omega, h3⟩
theorem isO_spec {D : Dt} {o c : Nat} (h : isO D o c = true) : dT D c = 1 ∧ dF D c 0 = nI o := by
  unfold isO at h
  rw [Bool.and_eq_true, decide_eq_true_eq, decide_eq_true_eq] at h
  exact h
theorem nodup_rO {D : Dt} : ∀ m o, o + m ≤ 100 → (rO D m o).Nodup
  | 0, o, _ => List.nodup_nil
  | m + 1, o, hm => by
    refine List.pairwise_append.mpr ⟨nodup_rC 6 0, nodup_rO m (o + 1) (by omega), fun a ha b hb e => ?_⟩
    have h1 := isO_spec ((mem_rC 6 0).mp ha).2.2
    obtain ⟨-, o', h2, h3, h4⟩ := (mem_rO m (o + 1)).mp hb
    have h5 := isO_spec h4
    rw [e, h5.2] at h1
    have := (nI_eq (by omega) (by omega)).mp h1.2
    omega
theorem row_nodup (D : Dt) : (row D).Nodup := nodup_rO 4 0 (by omega)
theorem row_mem {D : Dt} {c : Nat} (h : c ∈ row D) : c < 6 ∧ dT D c = 1 := by
  obtain ⟨h1, o', h2, h3, h4⟩ := (mem_rO 4 0).mp h
  exact ⟨h1, (isO_spec h4).1⟩
theorem mem_row {D : Dt} {c : Nat} (h : c < 6) (ht : dT D c = 1) (hok : rCallOK (dF D c)) : c ∈ row D := by
  obtain ⟨o, fr, le, pl, oc, on, fe, h1, h2, h3, h4, h5, h6, h7, h8, e0, e1⟩ := hok
  refine (mem_rO 4 0).mpr ⟨h, o, by omega, by omega, ?_⟩
  unfold isO
  rw [decide_eq_true ht, decide_eq_true e0]
  rfl
/-! one after the other: a call is played where it can be beside those before -/
def Gr (P : List Nat → Prop) : List Nat → List Nat → List Nat → Prop
  | [], acc, res => res = acc
  | c :: r, acc, res => (P (acc ++ [c]) → Gr P r (acc ++ [c]) res) ∧ (¬ P (acc ++ [c]) → Gr P r acc res)
theorem Gr_uniq {P : List Nat → Prop} {a b : List Nat} : ∀ (r acc : List Nat), Gr P r acc a → Gr P r acc b → a = b
  | [], acc, h1, h2 => by
    have h1 : a = acc := h1
    have h2 : b = acc := h2
    rw [h1, h2]
  | c :: r, acc, h1, h2 => by
    by_cases z : P (acc ++ [c])
    · exact Gr_uniq r (acc ++ [c]) (h1.1 z) (h2.1 z)
    · exact Gr_uniq r acc (h1.2 z) (h2.2 z)
