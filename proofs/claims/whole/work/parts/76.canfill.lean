def opS (st : tSt) (p k : Nat) : Prop := bt (st 31 p) k = true
def brS (st : tSt) (j k : Nat) : Prop := bt (st 32 j) k = true
def inB (left : Int32) (k : Nat) : Prop := bt left k = true
def nB (left : Int32) : Nat := cntb (fun k => bt left k) 12
/-- bars of n parts: each bars itself, and the other way round -/
def brOK (st : tSt) (n : Nat) : Prop := (∀ k, k < n → brS st k k) ∧ ∀ j k, j < n → k < n → brS st j k → brS st k j
theorem Fill_congr {op op' br br' : Nat → Nat → Prop} {L L' : Nat → Prop} {g : Nat → Nat} (hL : ∀ k, L' k → L k) (ho : ∀ q k, L' k → op q k → op' q k) (hb : ∀ j k, L' j → L' k → br' j k → br j k) (h : Fill op br L g) : Fill op' br' L' g := ⟨fun k hk => ⟨(h.1 k (hL k hk)).1, ho _ k hk (h.1 k (hL k hk)).2⟩, fun j k hj hk hjk hbr => h.2 j k (hL j hj) (hL k hk) hjk (hb j k hj hk hbr)⟩
theorem bt_del {left : Int32} {r k : Nat} (hr : r < 32) (hk : k < 32) : bt (left &&& (((1 : Int32) <<< (nI r &&& 31)) ^^^ -1)) k = (bt left k && !decide (k = r)) := by
  rw [b_and, bt_not hk, bt_shl hr hk]
/-- the loop over the pipers, for a part r of 'left' -/
theorem c_fillL {d n dep r : Nat} {left : Int32} {st : tSt} {post : Int32 → tSt → Prop} (hn : n ≤ 12) (hsub : ∀ k, inB left k → k < n) (hbr : brOK st n) (hr : inB left r)
    (hdep : dep < 12)
    (ih : ∀ (st2 : tSt) (post2 : Int32 → tSt → Prop), (∀ κ, κ ≠ 31 → st2 κ = st κ) →
      (∀ (st' : tSt) (g : Nat → Nat), Fill (opS st2) (brS st2) (inB (left &&& (((1 : Int32) <<< (nI r &&& 31)) ^^^ -1))) g → (∀ k, inB (left &&& (((1 : Int32) <<< (nI r &&& 31)) ^^^ -1)) k → st' 34 k = nI (g k)) → (∀ k, ¬ inB (left &&& (((1 : Int32) <<< (nI r &&& 31)) ^^^ -1)) k → st' 34 k = st2 34 k) → (∀ κ, κ ≠ 34 → st' κ = st2 κ) → post2 1 st') →
      ((¬ ∃ g, Fill (opS st2) (brS st2) (inB (left &&& (((1 : Int32) <<< (nI r &&& 31)) ^^^ -1))) g) → post2 0 st2) → wp_Cast_canFill d (left &&& (((1 : Int32) <<< (nI r &&& 31)) ^^^ -1)) (nI (dep + 1)) st2 post2)
    (hY : ∀ (st' : tSt) (g : Nat → Nat), Fill (opS st) (brS st) (inB left) g → (∀ k, inB left k → st' 34 k = nI (g k)) → (∀ k, ¬ inB left k → st' 34 k = st 34 k) → (∀ κ, κ ≠ 34 → st' κ = st κ) → post 1 st')
    (hN : (¬ ∃ g, Fill (opS st) (brS st) (inB left) g) → post 0 st) :
    ∀ m p : Nat, p + m = 6 → (∀ q, q < p → ¬ ∃ g, Fill (opS st) (brS st) (inB left) g ∧ g r = q) → wp_Cast_canFill_b_15 (wp_Cast_canGive_b (wp_Cast_canFill d)) post (m + 1) left (nI dep) (nI r) (nI p) st
  | 0, p, hp, hq => by
    have e : p = 6 := by omega
    subst e
    refine b_t (by decide) (hN (fun ⟨g, hg⟩ => ?_))
    exact hq (g r) (hg.1 r hr).1 ⟨g, hg, rfl⟩
  | m + 1, p, hp, hq => by
    have hrn := hsub r hr
    have next : (¬ ∃ g, Fill (opS st) (brS st) (inB left) g ∧ g r = p) → ∀ y : Int32, y = nI p + 1 → wp_Cast_canFill_b_15 (wp_Cast_canGive_b (wp_Cast_canFill d)) post (m + 1) left (nI dep) (nI r) y st := by
      intro hno y e
      rw [nI_1] at e
      subst e
      refine c_fillL hn hsub hbr hr hdep ih hY hN m (p + 1) (by omega) (fun q hq' => ?_)
      by_cases z : q = p
      · rw [z]; exact hno
      · exact hq q (by omega)
    refine b_f (nI_ge (a := p) (b := 6) (by omega) (by decide)) ⟨p + 1, c_worthL (by omega) (by omega) (fun _ hop => ?_) (fun hnot => ?_) p 0 (by omega) (fun q h => absurd h (by omega))⟩
    case refine_2 =>
      refine b_t rfl (next (fun ⟨g, hg, hgr⟩ => ?_))
      rcases hnot with ⟨q, q1, q2⟩ | q
      · refine hq q q1 (Fill_swap (by omega) (by omega) (fun k hk => ?_) hr hg hgr)
        have := congrArg (fun z => bt z k) q2
        simp only [b_and] at this
        have hk' : bt left k = true := hk
        rw [hk', Bool.and_true, Bool.and_true] at this
        unfold opS
        rw [this]
      · have := (hg.1 r hr).2
        rw [hgr] at this
        exact q this
    have hin6 : vp_in (nI p) 6 := vp_in_nI (by omega) (by decide)
    have hin12 : vp_in (nI r) 12 := vp_in_nI (by omega) (by decide)
    refine b_f (by decide) (b_t (nI_lt (b := 12) hdep (by decide)) ⟨hin6, fun y5 e5 => ⟨hin12, hin6, fun st2 e2 => ?_⟩⟩)
    rw [n_cl (show p < 2 ^ 31 by omega)] at e5 e2
    rw [n_cl (show r < 2 ^ 31 by omega)] at e2
    subst e5
    have s2o : ∀ κ, κ ≠ 31 → st2 κ = st κ := fun κ h => by rw [e2]; exact tUp_ne _ _ _ h
    have s2q : ∀ q, st2 31 q = if q = p then st 31 p &&& (st 32 r ^^^ -1) else st 31 q := fun q => by
      rw [e2]
      by_cases z : q = p <;> simp [tUp_ap, z]
    have ebr : ∀ j k, (brS st2 j k ↔ brS st j k) := fun j k => by unfold brS; rw [s2o 32 (by decide)]
    have eop : ∀ q k, k < 32 → (opS st2 q k ↔ (opS st q k ∧ (q = p → ¬ brS st r k))) := by
      intro q k hk
      unfold opS brS
      rw [s2q]
      by_cases z : q = p
      · rw [if_pos z, b_and, bt_not hk, z]
        rw [Bool.and_eq_true, Bool.not_eq_true']
        constructor
        · intro ⟨a, b⟩
          exact ⟨a, fun _ h => by rw [b] at h; cases h⟩
        · intro ⟨a, b⟩
          refine ⟨a, ?_⟩
          cases hc : bt (st 32 r) k with
          | true => exact absurd hc (b rfl)
          | false => rfl
      · rw [if_neg z]
        exact ⟨fun a => ⟨a, fun h => absurd h z⟩, fun a => a.1⟩
    have einb : ∀ k, k < 32 → (inB (left &&& (((1 : Int32) <<< (nI r &&& 31)) ^^^ -1)) k ↔ (inB left k ∧ k ≠ r)) := by
      intro k hk
      unfold inB
      rw [bt_del (by omega) hk]
      rw [Bool.and_eq_true, Bool.not_eq_true', decide_eq_false_iff_not]
    have lt32 : ∀ {x : Int32} {k : Nat}, inB x k → k < 32 := fun {x k} h => Nat.lt_of_not_le (fun q => by
      have := b_big (x := x) q
      unfold inB at h
      rw [this] at h
      cases h)
    have toF : ∀ g, Fill (opS st2) (brS st2) (inB (left &&& (((1 : Int32) <<< (nI r &&& 31)) ^^^ -1))) g ↔ Fill (fun q k => opS st q k ∧ (q = p → ¬ brS st r k)) (brS st) (fun k => inB left k ∧ k ≠ r) g := by
      intro g
      constructor
      · intro h
        exact Fill_congr (fun k hk => (einb k (lt32 hk.1)).mpr hk) (fun q k hk ho => (eop q k (lt32 hk.1)).mp ho) (fun j k _ _ hb => (ebr j k).mpr hb) h
      · intro h
        exact Fill_congr (fun k hk => (einb k (lt32 hk)).mp hk) (fun q k hk ho => (eop q k (lt32 hk)).mpr ho) (fun j k _ _ hb => (ebr j k).mp hb) h
    rw [show nI dep + 1 = nI (dep + 1) from nI_1 dep]
    refine ih st2 _ s2o (fun st' g hg a1 a2 a3 => ?_) (fun hno => ?_)
    · -- filled
      refine ⟨hin6, fun st5 e5 => b_f (by decide) ⟨hin12, fun st6 e6 => ⟨Or.inr rfl, b_f (by decide) ?_⟩⟩⟩
      rw [n_cl (show p < 2 ^ 31 by omega)] at e5
      rw [n_cl (show r < 2 ^ 31 by omega)] at e6
      have hF := Fill_give (by omega) hop (fun j k hj hk hb => hbr.2 j k (hsub j hj) (hsub k hk) hb) hr ((toF g).mp hg)
      have e34 : ∀ k, st6 34 k = if k = r then nI p else st' 34 k := fun k => by
        rw [e6, e5]
        by_cases z : k = r <;> simp [tUp_ap, z]
      refine hY st6 _ hF (fun k hk => ?_) (fun k hk => ?_) (fun κ hκ => ?_)
      · rw [e34]
        by_cases z : k = r
        · rw [if_pos z, if_pos z]
        · rw [if_neg z, if_neg z]
          exact a1 k ((einb k (lt32 hk)).mpr ⟨hk, z⟩)
      · have z : k ≠ r := fun z => hk (by rw [z]; exact hr)
        rw [e34, if_neg z, a2 k (fun q => hk ((einb k (lt32 q)).mp q).1), s2o 34 (by decide)]
      · rw [e6, e5, tUp_ne _ _ _ hκ]
        by_cases z : κ = 31
        · subst z
          funext q
          rw [tUp_self]
          unfold upd
          by_cases w : q = p
          · rw [if_pos w, w]
          · rw [if_neg w, a3 31 (by decide), s2q, if_neg w]
        · rw [tUp_ne _ _ _ z, a3 κ hκ, s2o κ z]
    · refine ⟨hin6, fun st5 e5 => b_t rfl ⟨Or.inl rfl, b_t rfl ?_⟩⟩
      rw [n_cl (show p < 2 ^ 31 by omega)] at e5
      have es : st5 = st := by
        funext κ q
        rw [e5]
        by_cases z : κ = 31
        · subst z
          rw [tUp_self]
          unfold upd
          by_cases w : q = p
          · rw [if_pos w, w]
          · rw [if_neg w, s2q, if_neg w]
        · rw [tUp_ne _ _ _ z, s2o κ z]
      subst es
      exact next (fun ⟨g, hg, hgr⟩ => hno ⟨g, (toF g).mpr (Fill_take hr hg hgr)⟩)
/-- canFill: whether there is a filling; if there is, one is noted -/
theorem c_canFill {n : Nat} (hn : n ≤ 12) : ∀ (d dep : Nat) (left : Int32) (st : tSt) (post : Int32 → tSt → Prop), st 27 0 = nI n → (∀ k, inB left k → k < n) → brOK st n → nB left < d → dep + nB left ≤ 12 →
    (∀ (st' : tSt) (g : Nat → Nat), Fill (opS st) (brS st) (inB left) g → (∀ k, inB left k → st' 34 k = nI (g k)) → (∀ k, ¬ inB left k → st' 34 k = st 34 k) → (∀ κ, κ ≠ 34 → st' κ = st κ) → post 1 st') →
    ((¬ ∃ g, Fill (opS st) (brS st) (inB left) g) → post 0 st) → wp_Cast_canFill d left (nI dep) st post
  | 0, dep, left, st, post, _, _, _, hd, _, _, _ => by omega
  | d + 1, dep, left, st, post, hc, hsub, hbr, hd, hdep, hY, hN => by
    show wp_Cast_canFill_b (wp_Cast_canGive_b (wp_Cast_canFill d)) left (nI dep) st post
    by_cases hz : left = 0
    · refine b_t hz (hY st (fun _ => 0) ⟨fun k hk => ?_, fun j k hj => ?_⟩ (fun k hk => ?_) (fun _ _ => rfl) (fun _ _ => rfl))
      · rw [hz] at hk; unfold inB at hk; rw [b_0] at hk; cases hk
      · rw [hz] at hj; unfold inB at hj; rw [b_0] at hj; cases hj
      · rw [hz] at hk; unfold inB at hk; rw [b_0] at hk; cases hk
    have hex : ∃ r, r < n ∧ bt left r = true := by
      refine Classical.byContradiction (fun q => hz (b_ext (fun i hi => ?_)))
      rw [b_0]
      cases hb : bt left i with
      | false => rfl
      | true => exact absurd ⟨i, hsub i hb, hb⟩ q
    refine b_f hz ⟨n + 1, c_hardL hn hc (fun r hr hbr' => ?_) hex n 0 0 7 0 (by omega) (Or.inl ⟨rfl, fun j h => absurd h (by omega)⟩)⟩
    have hdel : nB (left &&& (((1 : Int32) <<< (nI r &&& 31)) ^^^ -1)) + 1 = nB left := by
      refine cntb_del (r := r) hbr' ?_ (by omega) (fun k hk hkr => ?_)
      · rw [bt_del (by omega) (by omega)]; simp
      · rw [bt_del (by omega) (by omega)]; simp [hkr]
    have h1 : 1 ≤ nB left := cntb_pos (r := r) (by omega) hbr'
    refine ⟨7, c_fillL (d := d) hn hsub hbr hbr' (by omega) (fun st2 post2 s2o y2 n2 => ?_) hY hN 6 0 rfl (fun q h => absurd h (by omega))⟩
    refine c_canFill hn d (dep + 1) _ st2 post2 (by rw [s2o 27 (by decide)]; exact hc) (fun k hk => ?_) ?_ (by omega) (by omega) y2 n2
    · refine hsub k ?_
      have hk32 : k < 32 := Nat.lt_of_not_le (fun q => by
        have := b_big (x := left &&& (((1 : Int32) <<< (nI r &&& 31)) ^^^ -1)) q
        unfold inB at hk
        rw [this] at hk
        cases hk)
      unfold inB at hk ⊢
      rw [bt_del (by omega) hk32, Bool.and_eq_true] at hk
      exact hk.1
    · unfold brOK brS at hbr ⊢
      rw [s2o 32 (by decide)]
      exact hbr
