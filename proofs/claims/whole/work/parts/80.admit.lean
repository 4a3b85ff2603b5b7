/-! the class's cast: n parts, of the calls co, with the instruments ins -/
def fOp (st : tSt) (ins : Nat → Nat) (p k : Nat) : Prop := pOK st p (ins k)
def fBr (st : tSt) (w : Nat) (co : Nat → Nat) (j k : Nat) : Prop := clB w (st (14 + co j)) (st (14 + co k)) = true
def CI (st : tSt) (n w : Nat) (co ins : Nat → Nat) : Prop := n ≤ 12 ∧ st 27 0 = nI n ∧ (∀ j, j < n → co j < 6 ∧ ins j < 5 ∧ st 33 j = nI (co j) ∧ rCallOK (st (14 + co j))) ∧ (∀ p, p < 6 → ∀ k, (inB (st 31 p) k ↔ (k < n ∧ fOp st ins p k))) ∧ ∀ j k, j < n → k < n → (brS st j k ↔ fBr st w co j k)
def ext (f : Nat → Nat) (n v : Nat) : Nat → Nat := fun j => if j = n then v else f j
theorem CI_brOK {st : tSt} {n w : Nat} {co ins : Nat → Nat} (h : CI st n w co ins) : brOK st n := by
  refine ⟨fun k hk => (h.2.2.2.2 k k hk hk).mpr (clB_self (h.2.2.1 k hk).2.2.2), fun j k hj hk hb => (h.2.2.2.2 k j hk hj).mpr ?_⟩
  have := (h.2.2.2.2 j k hj hk).mp hb
  unfold fBr at this ⊢
  rw [clB_comm]
  exact this
theorem c_addPart {st : tSt} {n w c x : Nat} {co ins : Nat → Nat} {Q : tSt → Prop} (h : CI st n w co ins) (hn : n < 12) (hw : w ≤ 20) (hc : c < 6) (hok : rCallOK (st (14 + c))) (hx : x < 5)
    (hQ : ∀ st' : tSt, CI st' (n + 1) w (ext co n c) (ext ins n x) → (∀ κ, κ ≠ 27 → κ ≠ 31 → κ ≠ 32 → κ ≠ 33 → st' κ = st κ) → Q st') : wp_Cast_markTakers (nI x) st (fun st5 => wp_Cast_markBars (nI c) (nI w) st5 (fun st6 => ∀ st7 : tSt, st7 = tUp st6 27 0 ((st6 27 0) + (1 : Int32)) → Q st7)) := by
  obtain ⟨h1, h2, h3, h4, h5⟩ := h
  refine c_markTakers (by omega) (by omega) h2 (fun s5 a1 a2 => ?_)
  intro y4 e4
  rw [a1 27 (by decide), h2] at e4
  subst e4
  have hin : vp_in (nI n) 12 := vp_in_nI hn (by decide)
  refine ⟨hin, fun s2 e2 => ⟨hin, fun s3 e3 => ?_⟩⟩
  rw [n_cl (show n < 2 ^ 31 by omega)] at e2 e3
  have s3o : ∀ κ, κ ≠ 31 → κ ≠ 32 → κ ≠ 33 → s3 κ = st κ := fun κ k1 k2 k3 => by rw [e3, tUp_ne _ _ _ k2, e2, tUp_ne _ _ _ k3]; exact a1 κ k1
  have s331 : s3 31 = s5 31 := by rw [e3, tUp_ne _ _ _ (by decide), e2, tUp_ne _ _ _ (by decide)]
  have s333 : ∀ j, s3 33 j = if j = n then nI c else st 33 j := fun j => by
    rw [e3, tUp_ne _ _ _ (by decide), e2, tUp_self]
    unfold upd
    rw [a1 33 (by decide)]
  have s332 : ∀ j, s3 32 j = if j = n then (1 : Int32) <<< (nI n &&& 31) else st 32 j := fun j => by
    rw [e3, tUp_self]
    unfold upd
    rw [e2, tUp_ne _ _ _ (by decide), a1 32 (by decide)]
  have eF : ∀ d, d < 6 → s3 (14 + d) = st (14 + d) := fun d hd => s3o _ (by omega) (by omega) (by omega)
  refine ⟨n + 1, c_barL (st0 := s3) (co := co) hn hc hw (fun j hj => (h3 j hj).1) (fun j hj => by rw [s333, if_neg (by omega)]; exact (h3 j hj).2.2.1) (by rw [eF c hc]; exact hok) (fun j hj => by rw [eF _ (h3 j hj).1]; exact (h3 j hj).2.2.2) (fun s6 b1 b2 b3 s7 e7 => ?_) n 0 s3 (by omega) (fun _ _ => rfl) (fun j hj => absurd hj (by omega)) (fun _ _ _ => rfl) (fun k hk => ⟨Or.inl, fun v => v.elim id (fun v => absurd v.1 (by omega))⟩)⟩
  have e27 : s6 27 0 = nI n := by rw [b1 27 (by decide), s3o 27 (by decide) (by decide) (by decide)]; exact h2
  rw [e27, nI_1] at e7
  have s7o : ∀ κ, κ ≠ 27 → κ ≠ 31 → κ ≠ 32 → κ ≠ 33 → s7 κ = st κ := fun κ k1 k2 k3 k4 => by rw [e7, tUp_ne _ _ _ k1, b1 κ k3, s3o κ k2 k3 k4]
  have e31 : s7 31 = s5 31 := by rw [e7, tUp_ne _ _ _ (by decide), b1 31 (by decide), s331]
  have e32 : s7 32 = s6 32 := by rw [e7, tUp_ne _ _ _ (by decide)]
  have e33 : ∀ j, s7 33 j = if j = n then nI c else st 33 j := fun j => by rw [e7, tUp_ne _ _ _ (by decide), b1 33 (by decide)]; exact s333 j
  have gF : ∀ d, d < 6 → s7 (14 + d) = st (14 + d) := fun d hd => s7o _ (by omega) (by omega) (by omega) (by omega)
  have epo : ∀ p z, (pOK s7 p z ↔ pOK st p z) := fun p z => by unfold pOK; rw [s7o 11 (by decide) (by decide) (by decide) (by decide), s7o 10 (by decide) (by decide) (by decide) (by decide)]
  refine hQ s7 ⟨by omega, by rw [e7]; simp [tUp_ap], fun j hj => ?_, fun p hp k => ?_, fun j k hj hk => ?_⟩ s7o
  · rw [e33]
    unfold ext
    by_cases z : j = n
    · simp only [if_pos z]
      exact ⟨hc, hx, trivial, by rw [gF c hc]; exact hok⟩
    · simp only [if_neg z]
      have := h3 j (by omega)
      exact ⟨this.1, this.2.1, this.2.2.1, by rw [gF _ this.1]; exact this.2.2.2⟩
  · rw [e31]
    unfold fOp ext
    rw [epo]
    by_cases hk32 : k < 32
    · rw [a2 p hp k hk32, h4 p hp k]
      by_cases z : k = n
      · simp only [if_pos z]
        subst z
        exact ⟨fun v => ⟨by omega, v.elim (fun v => absurd v.1 (by omega)) (fun v => v.2)⟩, fun v => Or.inr ⟨rfl, v.2⟩⟩
      · simp only [if_neg z]
        exact ⟨fun v => v.elim (fun v => ⟨by omega, v.2⟩) (fun v => absurd v.1 z), fun v => Or.inl ⟨by omega, v.2⟩⟩
    · exact ⟨fun v => absurd (inB_32 v) hk32, fun v => by omega⟩
  · have hco : ∀ j, j < n + 1 → ext co n c j < 6 := fun j hj => by
      unfold ext
      by_cases z : j = n
      · rw [if_pos z]; exact hc
      · rw [if_neg z]; exact (h3 j (by omega)).1
    unfold fBr
    rw [gF _ (hco j hj), gF _ (hco k hk)]
    show inB (s7 32 j) k ↔ _
    rw [e32]
    unfold ext
    by_cases zj : j = n
    · simp only [if_pos zj]
      rw [zj, b3 k (by omega), s332, if_pos rfl]
      have one : inB ((1 : Int32) <<< (nI n &&& 31)) k ↔ k = n := by
        unfold inB
        rw [bt_shl (by omega) (by omega), decide_eq_true_eq]
      rw [one]
      by_cases zk : k = n
      · simp only [if_pos zk]
        exact ⟨fun _ => clB_self hok, fun _ => Or.inl zk⟩
      · simp only [if_neg zk]
        rw [eF c hc, eF _ (h3 k (by omega)).1]
        exact ⟨fun v => v.elim (fun v => absurd v zk) (fun v => v.2), fun v => Or.inr ⟨by omega, v⟩⟩
    · simp only [if_neg zj]
      rw [b2 j (by omega) k (by omega)]
      by_cases zk : k = n
      · rw [if_pos zk]
        simp only [if_pos zk]
        rw [eF c hc, eF _ (h3 j (by omega)).1, clB_comm]
      · rw [if_neg zk]
        simp only [if_neg zk]
        rw [s332, if_neg zj]
        exact h5 j k (by omega) (by omega)
