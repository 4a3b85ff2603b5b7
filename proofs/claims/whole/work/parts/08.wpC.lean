def wp_Tape_size (st : tSt) (post : Int32 → tSt → Prop) : Prop :=
 post (st 5 0) st
def wp_Tape_hasRoom (st : tSt) (post : Int32 → tSt → Prop) : Prop :=
 (((40 : Int32) < ((st 5 0) + (20 : Int32)) →
  post (0 : Int32) st) ∧
  (¬ (40 : Int32) < ((st 5 0) + (20 : Int32)) →
  post (1 : Int32) st))
def wp_Tape_put_3 (post : tSt → Prop) : Nat → Int32 → Int32 → tSt → Prop
  | 0 => fun _ _ _ => False
  | n + 1 => fun x1 x2 st =>
    ((x2 < 0 →
     post st) ∧
     (¬ x2 < 0 →
     (((40 : Int32) ≤ (st 5 0) →
      post st) ∧
      (¬ (40 : Int32) ≤ (st 5 0) →
      vp_in (st 5 0) 40 ∧
      (∀ st1 : tSt, st1 = tUp st 6 (st 5 0).toNatClampNeg ((x1 >>> (x2 &&& 31)) &&& (255 : Int32)) →
       (∀ st2 : tSt, st2 = tUp st1 5 0 ((st1 5 0) + (1 : Int32)) →
        (∀ y2_3 : Int32, y2_3 = x2 + (-8) →
         (wp_Tape_put_3 post n) x1 y2_3 st2)))))))
def wp_Tape_put (x1 : Int32) (st : tSt) (post : tSt → Prop) : Prop :=
 (fun z0 z1 w => ∃ q3, wp_Tape_put_3 post q3 z0 z1 w) x1 (24 : Int32) st
def wp_T_within (x0 : Int32) (x1 : Int32) (x2 : Int32) (st : tSt) (post : Int32 → tSt → Prop) : Prop :=
 ((x0 < x1 →
  post (0 : Int32) st) ∧
  (¬ x0 < x1 →
  ((x2 < x0 →
   post (0 : Int32) st) ∧
   (¬ x2 < x0 →
   post (1 : Int32) st))))
def wp_Tape_byteAt (x1 : Int32) (st : tSt) (post : Int32 → tSt → Prop) : Prop :=
 wp_T_within x1 (0 : Int32) ((st 5 0) - (1 : Int32)) st (fun r2 st1 =>
  ((r2 = 0 →
   post (-1 : Int32) st1) ∧
   (¬ r2 = 0 →
   vp_in x1 40 ∧
   post (st1 6 x1.toNatClampNeg) st1)))
def wp_Tape_empty (st : tSt) (post : tSt → Prop) : Prop :=
 (∀ st1 : tSt, st1 = tUp st 5 0 (0 : Int32) →
  post st1)
def wp_TownWord_number (x1 : Int32) (st : tSt) (post : Int32 → tSt → Prop) : Prop :=
 wp_T_within x1 (0 : Int32) (3 : Int32) st (fun r2 st1 =>
  ((r2 = 0 →
   post (-1 : Int32) st1) ∧
   (¬ r2 = 0 →
   vp_in x1 4 ∧
   post (st1 7 x1.toNatClampNeg) st1)))
def wp_TownWord_kindAt_2 (post : Int32 → tSt → Prop) : Nat → Int32 → Int32 → Int32 → tSt → Prop
  | 0 => fun _ _ _ _ => False
  | n + 1 => fun x1 x2 x3 st =>
    (((4 : Int32) ≤ x3 →
     post (-1 : Int32) st) ∧
     (¬ (4 : Int32) ≤ x3 →
     ((x2 ≤ x1 →
      post (-1 : Int32) st) ∧
      (¬ x2 ≤ x1 →
      wp_Tape_byteAt x1 st (fun r2 st1 =>
       vp_in x3 4 ∧
       ((r2 = (tab_LETTERS x3.toNatClampNeg) →
        post x3 st1) ∧
        (¬ r2 = (tab_LETTERS x3.toNatClampNeg) →
        (∀ y3_3 : Int32, y3_3 = x3 + 1 →
         (wp_TownWord_kindAt_2 post n) x1 x2 y3_3 st1))))))))
def wp_TownWord_kindAt (x1 : Int32) (x2 : Int32) (st : tSt) (post : Int32 → tSt → Prop) : Prop :=
 (fun z0 z1 z2 w => ∃ q2, wp_TownWord_kindAt_2 post q2 z0 z1 z2 w) x1 x2 (0 : Int32) st
def wp_TownWord_isDigit (x1 : Int32) (x2 : Int32) (st : tSt) (post : Int32 → tSt → Prop) : Prop :=
 ((x2 ≤ x1 →
  post (0 : Int32) st) ∧
  (¬ x2 ≤ x1 →
  wp_Tape_byteAt x1 st (fun r2 st1 =>
   wp_T_within r2 (48 : Int32) (57 : Int32) st1 (fun r4 st3 =>
    ((r4 = 0 →
     post (0 : Int32) st3) ∧
     (¬ r4 = 0 →
     post (1 : Int32) st3))))))
def wp_TownWord_endOfDigits_2 (post : Int32 → tSt → Prop) : Nat → Int32 → Int32 → Int32 → tSt → Prop
  | 0 => fun _ _ _ _ => False
  | n + 1 => fun x1 x2 x3 st =>
    (((x1 + (4 : Int32)) ≤ x3 →
     post x3 st) ∧
     (¬ (x1 + (4 : Int32)) ≤ x3 →
     wp_TownWord_isDigit x3 x2 st (fun r2 st1 =>
      ((r2 = 0 →
       post x3 st1) ∧
       (¬ r2 = 0 →
       (∀ y3_3 : Int32, y3_3 = x3 + 1 →
        (wp_TownWord_endOfDigits_2 post n) x1 x2 y3_3 st1))))))
def wp_TownWord_endOfDigits (x1 : Int32) (x2 : Int32) (st : tSt) (post : Int32 → tSt → Prop) : Prop :=
 (fun z0 z1 z2 w => ∃ q2, wp_TownWord_endOfDigits_2 post q2 z0 z1 z2 w) x1 x2 x1 st
def wp_TownWord_numberBetween_5 (post : Int32 → tSt → Prop) : Nat → Int32 → Int32 → Int32 → tSt → Prop
  | 0 => fun _ _ _ _ => False
  | n + 1 => fun x2 x3 x4 st =>
    ((x2 ≤ x4 →
     post x3 st) ∧
     (¬ x2 ≤ x4 →
     wp_Tape_byteAt x4 st (fun r2 st1 =>
      (∀ y3_3 : Int32, y3_3 = (((x3 * (10 : Int32)) + r2) - (48 : Int32)) →
       (∀ y4_4 : Int32, y4_4 = x4 + 1 →
        (wp_TownWord_numberBetween_5 post n) x2 y3_3 y4_4 st1)))))
def wp_TownWord_numberBetween (x1 : Int32) (x2 : Int32) (st : tSt) (post : Int32 → tSt → Prop) : Prop :=
 (fun z0 z1 z2 w => ∃ q5, wp_TownWord_numberBetween_5 post q5 z0 z1 z2 w) x2 (0 : Int32) x1 st
def wp_TownWord_faultOfNumber (x1 : Int32) (x2 : Int32) (x3 : Int32) (x4 : Int32) (st : tSt) (post : Int32 → tSt → Prop) : Prop :=
 ((x2 = x1 →
  post ((200 : Int32) + x1) st) ∧
  (¬ x2 = x1 →
  wp_TownWord_isDigit x2 x3 st (fun r2 st1 =>
   ((r2 = 0 →
    ((x4 = 0 →
     ((x3 ≤ x2 →
      post (0 : Int32) st1) ∧
      (¬ x3 ≤ x2 →
      wp_Tape_byteAt x2 st1 (fun r4 st3 =>
       ((r4 = (59 : Int32) →
        post (0 : Int32) st3) ∧
        (¬ r4 = (59 : Int32) →
        post ((500 : Int32) + x2) st3)))))) ∧
     (¬ x4 = 0 →
     post ((400 : Int32) + x1) st1))) ∧
    (¬ r2 = 0 →
    post ((300 : Int32) + x2) st1)))))
def wp_TownWord_read_94 (post : Int32 → tSt → Prop) (k18 : Int32 → Int32 → Int32 → tSt → Prop) (k127 : tSt → Prop) (x2 : Int32) (x4 : Int32) (x5 : Int32) (x7 : Int32) (x8 : Int32) (s1 : Int32) (s2 : Int32) (s3 : Int32) (s4 : Int32) (st : tSt) : Prop :=
 wp_TownWord_faultOfNumber s1 s2 s3 s4 st (fun r2 st1 =>
  ((r2 = 0 →
   vp_in x5 4 ∧
   (∀ st3 : tSt, st3 = tUp st1 8 x5.toNatClampNeg x8 →
    (∀ y3_4 : Int32, y3_4 = (x7 + (1 : Int32)) →
     (∀ y4_5 : Int32, y4_5 = x4 + 1 →
      k18 x2 y3_4 y4_5 st3)))) ∧
   (¬ r2 = 0 →
   post r2 st1)))
def wp_TownWord_read_127 (post : Int32 → tSt → Prop) (st : tSt) : Prop :=
 (∀ st1 : tSt, st1 = tUpA st 7 (va_cpy (st 8) (st 7) 0 0 4) →
  post (0 : Int32) st1)
def wp_TownWord_read_18 (post : Int32 → tSt → Prop) (k127 : tSt → Prop) : Nat → Int32 → Int32 → Int32 → tSt → Prop
  | 0 => fun _ _ _ _ => False
  | n + 1 => fun x2 x3 x4 st =>
    ((x2 < x4 →
     k127 st) ∧
     (¬ x2 < x4 →
     ((x2 < x3 →
      k127 st) ∧
      (¬ x2 < x3 →
      wp_TownWord_kindAt x3 x2 st (fun r2 st1 =>
       ((r2 = (-1 : Int32) →
        post ((100 : Int32) + x3) st1) ∧
        (¬ r2 = (-1 : Int32) →
        (∀ y6_3 : Int32, y6_3 = (x3 + (1 : Int32)) →
         wp_TownWord_endOfDigits y6_3 x2 st1 (fun r5 st4 =>
          wp_TownWord_numberBetween y6_3 r5 st4 (fun r7 st6 =>
           vp_in r2 4 ∧
           ((r7 ≤ (tab_HIGHEST r2.toNatClampNeg) →
            (wp_TownWord_read_94 post (wp_TownWord_read_18 post k127 n) k127) x2 x4 r2 r5 r7 y6_3 r5 x2 (0 : Int32) st6) ∧
            (¬ r7 ≤ (tab_HIGHEST r2.toNatClampNeg) →
            (wp_TownWord_read_94 post (wp_TownWord_read_18 post k127 n) k127) x2 x4 r2 r5 r7 y6_3 r5 x2 (1 : Int32) st6))))))))))))
def wp_TownWord_read (x2 : Int32) (st : tSt) (post : Int32 → tSt → Prop) : Prop :=
 (∀ st1 : tSt, st1 = tUpA st 8 (va_cpy (tab_AT_FIRST) (st 8) 0 0 4) →
  (fun z0 z1 z2 w => ∃ q18, wp_TownWord_read_18 post (wp_TownWord_read_127 post) q18 z0 z1 z2 w) x2 (0 : Int32) (0 : Int32) st1)
def wp_Piper_join (j : Nat) (x1 : Int32) (x2 : Int32) (st : tSt) (post : tSt → Prop) : Prop :=
 (∀ st1 : tSt, st1 = tUp st 9 j x1 →
  (∀ st2 : tSt, st2 = tUp st1 10 j x2 →
   post st2))
def wp_T_hasBit (x0 : Int32) (x1 : Int32) (st : tSt) (post : Int32 → tSt → Prop) : Prop :=
 ((((x0 >>> (x1 &&& 31)) &&& (1 : Int32)) = (1 : Int32) →
  post (1 : Int32) st) ∧
  (¬ ((x0 >>> (x1 &&& 31)) &&& (1 : Int32)) = (1 : Int32) →
  post (0 : Int32) st))
def wp_Piper_canPlay (j : Nat) (x1 : Int32) (st : tSt) (post : Int32 → tSt → Prop) : Prop :=
 (((st 11 j) = 0 →
  wp_T_hasBit (st 10 j) x1 st (fun r2 st1 =>
   ((r2 = 0 →
    post (0 : Int32) st1) ∧
    (¬ r2 = 0 →
    post (1 : Int32) st1)))) ∧
  (¬ (st 11 j) = 0 →
  post (0 : Int32) st))
def wp_Tune_learn (j : Nat) (x1 : Int32) (x2 : Int32) (st : tSt) (post : tSt → Prop) : Prop :=
 (∀ st1 : tSt, st1 = tUp st 20 j x1 →
  (∀ st2 : tSt, st2 = tUp st1 21 j x2 →
   post st2))
def wp_Tune_fits (j : Nat) (x1 : Int32) (x2 : Int32) (st : tSt) (post : Int32 → tSt → Prop) : Prop :=
 wp_T_hasBit (st 20 j) x1 st (fun r2 st1 =>
  ((r2 = 0 →
   post (0 : Int32) st1) ∧
   (¬ r2 = 0 →
   wp_T_hasBit (st1 21 j) x2 st1 (fun r4 st3 =>
    ((r4 = 0 →
     post (0 : Int32) st3) ∧
     (¬ r4 = 0 →
     post (1 : Int32) st3))))))
def wp_Tune_dayHeard (j : Nat) (st : tSt) (post : Int32 → tSt → Prop) : Prop :=
 (((st 22 j) = (-1 : Int32) →
  post (-1 : Int32) st) ∧
  (¬ (st 22 j) = (-1 : Int32) →
  post ((st 22 j) / (6 : Int32)) st))
def wp_Call_canBe_35 (post : Int32 → tSt → Prop) (st : tSt) : Prop :=
 (((96 : Int32) < ((st 24 1) + (st 24 2)) →
  post (0 : Int32) st) ∧
  (¬ (96 : Int32) < ((st 24 1) + (st 24 2)) →
  post (1 : Int32) st))
def wp_Call_canBe_2 (post : Int32 → tSt → Prop) (k35 : tSt → Prop) : Nat → Int32 → tSt → Prop
  | 0 => fun _ _ => False
  | n + 1 => fun x1 st =>
    (((8 : Int32) ≤ x1 →
     k35 st) ∧
     (¬ (8 : Int32) ≤ x1 →
     vp_in x1 8 ∧
     vp_in x1 8 ∧
     vp_in x1 8 ∧
     wp_T_within (st 24 x1.toNatClampNeg) (tab_LEAST x1.toNatClampNeg) (tab_MOST x1.toNatClampNeg) st (fun r2 st1 =>
      ((r2 = 0 →
       post (0 : Int32) st1) ∧
       (¬ r2 = 0 →
       (∀ y1_3 : Int32, y1_3 = x1 + 1 →
        (wp_Call_canBe_2 post k35 n) y1_3 st1))))))
def wp_Call_canBe (st : tSt) (post : Int32 → tSt → Prop) : Prop :=
 (fun z0 w => ∃ q2, wp_Call_canBe_2 post (wp_Call_canBe_35 post) q2 z0 w) (0 : Int32) st
def wp_Call_come (j : Nat) (st : tSt) (post : tSt → Prop) : Prop :=
 (∀ st1 : tSt, st1 = tUpA st (14 + j) (va_cpy (st 24) (st (14 + j)) 0 0 8) →
  (∀ st2 : tSt, st2 = tUp st1 13 j (1 : Int32) →
   post st2))
def wp_Call_go (j : Nat) (st : tSt) (post : tSt → Prop) : Prop :=
 (∀ st1 : tSt, st1 = tUp st 13 j (0 : Int32) →
  post st1)
def wp_Call_fact (j : Nat) (x1 : Int32) (st : tSt) (post : Int32 → tSt → Prop) : Prop :=
 wp_T_within x1 (0 : Int32) (7 : Int32) st (fun r2 st1 =>
  ((r2 = 0 →
   post (-1 : Int32) st1) ∧
   (¬ r2 = 0 →
   vp_in x1 8 ∧
   post (st1 (14 + j) x1.toNatClampNeg) st1)))
def wp_Call_isOfOrder (j : Nat) (x1 : Int32) (st : tSt) (post : Int32 → tSt → Prop) : Prop :=
 (((st 13 j) = 0 →
  post (0 : Int32) st) ∧
  (¬ (st 13 j) = 0 →
  (((st (14 + j) 0) = x1 →
   post (1 : Int32) st) ∧
   (¬ (st (14 + j) 0) = x1 →
   post (0 : Int32) st))))
def wp_Call_end (j : Nat) (st : tSt) (post : Int32 → tSt → Prop) : Prop :=
 post ((st (14 + j) 1) + (st (14 + j) 2)) st
def wp_Call_isOnAt (j : Nat) (x1 : Int32) (st : tSt) (post : Int32 → tSt → Prop) : Prop :=
 ((x1 < (st (14 + j) 1) →
  post (0 : Int32) st) ∧
  (¬ x1 < (st (14 + j) 1) →
  wp_Call_end j st (fun r2 st1 =>
   ((r2 ≤ x1 →
    post (0 : Int32) st1) ∧
    (¬ r2 ≤ x1 →
    post (1 : Int32) st1)))))
def wp_Call_partCount (j : Nat) (st : tSt) (post : Int32 → tSt → Prop) : Prop :=
 (((st (14 + j) 6) = (-1 : Int32) →
  post (1 : Int32) st) ∧
  (¬ (st (14 + j) 6) = (-1 : Int32) →
  post (2 : Int32) st))
def wp_Call_partsWith_15 (j : Nat) (post : Int32 → tSt → Prop) (x1 : Int32) (s0 : Int32) (st : tSt) : Prop :=
 (((st (14 + j) 6) = x1 →
  post (s0 + (1 : Int32)) st) ∧
  (¬ (st (14 + j) 6) = x1 →
  post (s0 + (0 : Int32)) st))
def wp_Call_partsWith (j : Nat) (x1 : Int32) (st : tSt) (post : Int32 → tSt → Prop) : Prop :=
 (((st (14 + j) 5) = x1 →
  (wp_Call_partsWith_15 j post) x1 (1 : Int32) st) ∧
  (¬ (st (14 + j) 5) = x1 →
  (wp_Call_partsWith_15 j post) x1 (0 : Int32) st))
def wp_Call_clashesWith (j : Nat) (j1 : Nat) (x2 : Int32) (st : tSt) (post : Int32 → tSt → Prop) : Prop :=
 (∀ y3_1 : Int32, y3_1 = (x2 * (if 0 ≤ ((st (14 + j) 3) - (st (14 + j1) 3)) then ((st (14 + j) 3) - (st (14 + j1) 3)) else 0 - ((st (14 + j) 3) - (st (14 + j1) 3)))) →
  wp_Call_end j1 st (fun r3 st2 =>
   (((r3 + y3_1) ≤ (st (14 + j) 1) →
    post (0 : Int32) st2) ∧
    (¬ (r3 + y3_1) ≤ (st (14 + j) 1) →
    wp_Call_end j st2 (fun r5 st4 =>
     (((r5 + y3_1) ≤ (st2 (14 + j1) 1) →
      post (0 : Int32) st4) ∧
      (¬ (r5 + y3_1) ≤ (st2 (14 + j1) 1) →
      post (1 : Int32) st4)))))))
def wp_Arrays_fill_5 (post : tSt → Prop) : Nat → Int32 → Int32 → Int32 → tSt → Prop
  | 0 => fun _ _ _ _ => False
  | n + 1 => fun x1 x2 x3 st =>
    ((x3 ≤ x2 →
     post st) ∧
     (¬ x3 ≤ x2 →
     vp_in x2 6 ∧
     (∀ st1 : tSt, st1 = tUp st 31 x2.toNatClampNeg x1 →
      (∀ y2_2 : Int32, y2_2 = x2 + 1 →
       (wp_Arrays_fill_5 post n) x1 y2_2 x3 st1))))
def wp_Arrays_fill (x1 : Int32) (st : tSt) (post : tSt → Prop) : Prop :=
 (fun z0 z1 z2 w => ∃ q5, wp_Arrays_fill_5 post q5 z0 z1 z2 w) x1 (0 : Int32) (6 : Int32) st
def wp_Cast_clear (st : tSt) (post : tSt → Prop) : Prop :=
 (∀ st1 : tSt, st1 = tUp st 27 0 (0 : Int32) →
  wp_Arrays_fill (0 : Int32) st1 (fun st2 =>
   post st2))
def wp_Cast_piperOf_44 (post : Int32 → tSt → Prop) (k5 : Int32 → Int32 → Int32 → tSt → Prop) (x1 : Int32) (x3 : Int32) (x4 : Int32) (st : tSt) : Prop :=
 (∀ y4_1 : Int32, y4_1 = x4 + 1 →
  k5 x1 x3 y4_1 st)
def wp_Cast_piperOf_5 (post : Int32 → tSt → Prop) : Nat → Int32 → Int32 → Int32 → tSt → Prop
  | 0 => fun _ _ _ _ => False
  | n + 1 => fun x1 x3 x4 st =>
    (((st 27 0) ≤ x4 →
     post (-1 : Int32) st) ∧
     (¬ (st 27 0) ≤ x4 →
     ((x3 < 0 →
      post (-1 : Int32) st) ∧
      (¬ x3 < 0 →
      vp_in x4 12 ∧
      (((st 33 x4.toNatClampNeg) = x1 →
       ((x3 = 0 →
        vp_in x4 12 ∧
        post (st 34 x4.toNatClampNeg) st) ∧
        (¬ x3 = 0 →
        (∀ y3_1 : Int32, y3_1 = x3 + (-1) →
         (wp_Cast_piperOf_44 post (wp_Cast_piperOf_5 post n)) x1 y3_1 x4 st)))) ∧
       (¬ (st 33 x4.toNatClampNeg) = x1 →
       (wp_Cast_piperOf_44 post (wp_Cast_piperOf_5 post n)) x1 x3 x4 st))))))
def wp_Cast_piperOf (x1 : Int32) (x2 : Int32) (st : tSt) (post : Int32 → tSt → Prop) : Prop :=
 (fun z0 z1 z2 w => ∃ q5, wp_Cast_piperOf_5 post q5 z0 z1 z2 w) x1 x2 (0 : Int32) st
def wp_Cast_partsOf_25 (post : Int32 → tSt → Prop) (k4 : Int32 → Int32 → Int32 → tSt → Prop) (x1 : Int32) (x2 : Int32) (x3 : Int32) (st : tSt) : Prop :=
 (∀ y3_1 : Int32, y3_1 = x3 + 1 →
  k4 x1 x2 y3_1 st)
def wp_Cast_partsOf_4 (post : Int32 → tSt → Prop) : Nat → Int32 → Int32 → Int32 → tSt → Prop
  | 0 => fun _ _ _ _ => False
  | n + 1 => fun x1 x2 x3 st =>
    (((st 27 0) ≤ x3 →
     post x2 st) ∧
     (¬ (st 27 0) ≤ x3 →
     vp_in x3 12 ∧
     (((st 34 x3.toNatClampNeg) = x1 →
      (∀ y2_1 : Int32, y2_1 = x2 + 1 →
       (wp_Cast_partsOf_25 post (wp_Cast_partsOf_4 post n)) x1 y2_1 x3 st)) ∧
      (¬ (st 34 x3.toNatClampNeg) = x1 →
      (wp_Cast_partsOf_25 post (wp_Cast_partsOf_4 post n)) x1 x2 x3 st))))
def wp_Cast_partsOf (x1 : Int32) (st : tSt) (post : Int32 → tSt → Prop) : Prop :=
 (fun z0 z1 z2 w => ∃ q4, wp_Cast_partsOf_4 post q4 z0 z1 z2 w) x1 (0 : Int32) (0 : Int32) st
def wp_Cast_markTakers_33 (post : tSt → Prop) (k2 : Int32 → Int32 → tSt → Prop) (x2 : Int32) (x3 : Int32) (st : tSt) : Prop :=
 (∀ y3_1 : Int32, y3_1 = x3 + 1 →
  k2 x2 y3_1 st)
def wp_Cast_markTakers_2 (post : tSt → Prop) : Nat → Int32 → Int32 → tSt → Prop
  | 0 => fun _ _ _ => False
  | n + 1 => fun x2 x3 st =>
    (((6 : Int32) ≤ x3 →
     post st) ∧
     (¬ (6 : Int32) ≤ x3 →
     vp_in x3 6 ∧
     wp_Piper_canPlay x3.toNatClampNeg x2 st (fun r2 st1 =>
      ((r2 = 0 →
       (wp_Cast_markTakers_33 post (wp_Cast_markTakers_2 post n)) x2 x3 st1) ∧
       (¬ r2 = 0 →
       vp_in x3 6 ∧
       vp_in x3 6 ∧
       (∀ st3 : tSt, st3 = tUp st1 31 x3.toNatClampNeg ((st1 31 x3.toNatClampNeg) ||| ((1 : Int32) <<< ((st1 27 0) &&& 31))) →
        (wp_Cast_markTakers_33 post (wp_Cast_markTakers_2 post n)) x2 x3 st3))))))
def wp_Cast_markTakers (x2 : Int32) (st : tSt) (post : tSt → Prop) : Prop :=
 (fun z0 z1 w => ∃ q2, wp_Cast_markTakers_2 post q2 z0 z1 w) x2 (0 : Int32) st
def wp_Cast_markBars_112 (post : tSt → Prop) (k28 : Int32 → Int32 → Int32 → Int32 → tSt → Prop) (x2 : Int32) (x3 : Int32) (x4 : Int32) (x5 : Int32) (st : tSt) : Prop :=
 (∀ y5_1 : Int32, y5_1 = x5 + 1 →
  k28 x2 x3 x4 y5_1 st)
def wp_Cast_markBars_28 (post : tSt → Prop) : Nat → Int32 → Int32 → Int32 → Int32 → tSt → Prop
  | 0 => fun _ _ _ _ _ => False
  | n + 1 => fun x2 x3 x4 x5 st =>
    ((x4 ≤ x5 →
     post st) ∧
     (¬ x4 ≤ x5 →
     vp_in x5 12 ∧
     (∀ y6_1 : Int32, y6_1 = (st 33 x5.toNatClampNeg) →
      vp_in x5 12 ∧
      vp_in x5 12 ∧
      (∀ st2 : tSt, st2 = tUp st 32 x5.toNatClampNeg ((st 32 x5.toNatClampNeg) &&& (((1 : Int32) <<< (x4 &&& 31)) ^^^ (-1 : Int32))) →
       wp_T_within y6_1 (0 : Int32) (5 : Int32) st2 (fun r4 st3 =>
        ((r4 = 0 →
         (wp_Cast_markBars_112 post (wp_Cast_markBars_28 post n)) x2 x3 x4 x5 st3) ∧
         (¬ r4 = 0 →
         vp_in x2 6 ∧
         vp_in y6_1 6 ∧
         wp_Call_clashesWith x2.toNatClampNeg y6_1.toNatClampNeg x3 st3 (fun r6 st5 =>
          ((r6 = 0 →
           (wp_Cast_markBars_112 post (wp_Cast_markBars_28 post n)) x2 x3 x4 x5 st5) ∧
           (¬ r6 = 0 →
           vp_in x5 12 ∧
           vp_in x5 12 ∧
           (∀ st7 : tSt, st7 = tUp st5 32 x5.toNatClampNeg ((st5 32 x5.toNatClampNeg) ||| ((1 : Int32) <<< (x4 &&& 31))) →
            vp_in x4 12 ∧
            vp_in x4 12 ∧
            (∀ st8 : tSt, st8 = tUp st7 32 x4.toNatClampNeg ((st7 32 x4.toNatClampNeg) ||| ((1 : Int32) <<< (x5 &&& 31))) →
             (wp_Cast_markBars_112 post (wp_Cast_markBars_28 post n)) x2 x3 x4 x5 st8))))))))))))
def wp_Cast_markBars (x2 : Int32) (x3 : Int32) (st : tSt) (post : tSt → Prop) : Prop :=
 (∀ y4_1 : Int32, y4_1 = (st 27 0) →
  vp_in y4_1 12 ∧
  (∀ st2 : tSt, st2 = tUp st 33 y4_1.toNatClampNeg x2 →
   vp_in y4_1 12 ∧
   (∀ st3 : tSt, st3 = tUp st2 32 y4_1.toNatClampNeg ((1 : Int32) <<< (y4_1 &&& 31)) →
    (fun z0 z1 z2 z3 w => ∃ q28, wp_Cast_markBars_28 post q28 z0 z1 z2 z3 w) x2 x3 y4_1 (0 : Int32) st3)))
def wp_Cast_allParts (st : tSt) (post : Int32 → tSt → Prop) : Prop :=
 post (((1 : Int32) <<< ((st 27 0) &&& 31)) - (1 : Int32)) st
def wp_Cast_tiedTo_59 (post : Int32 → tSt → Prop) (k29 : Int32 → Int32 → Int32 → Int32 → Int32 → tSt → Prop) (k65 : Int32 → Int32 → Int32 → Int32 → tSt → Prop) (x2 : Int32) (x3 : Int32) (x4 : Int32) (x5 : Int32) (x6 : Int32) (st : tSt) : Prop :=
 (∀ y6_1 : Int32, y6_1 = x6 + 1 →
  k29 x2 x3 x4 x5 y6_1 st)
def wp_Cast_tiedTo_65 (post : Int32 → tSt → Prop) (k10 : Int32 → Int32 → Int32 → Int32 → tSt → Prop) (x2 : Int32) (x3 : Int32) (x4 : Int32) (x5 : Int32) (st : tSt) : Prop :=
 (∀ y5_1 : Int32, y5_1 = x5 + 1 →
  k10 x2 x3 x4 y5_1 st)
def wp_Cast_tiedTo_29 (post : Int32 → tSt → Prop) (k65 : Int32 → Int32 → Int32 → Int32 → tSt → Prop) : Nat → Int32 → Int32 → Int32 → Int32 → Int32 → tSt → Prop
  | 0 => fun _ _ _ _ _ _ => False
  | n + 1 => fun x2 x3 x4 x5 x6 st =>
    (((st 27 0) ≤ x6 →
     k65 x2 x3 x4 x5 st) ∧
     (¬ (st 27 0) ≤ x6 →
     wp_T_hasBit x3 x6 st (fun r2 st1 =>
      ((r2 = 0 →
       (wp_Cast_tiedTo_59 post (wp_Cast_tiedTo_29 post k65 n) k65) x2 x3 x4 x5 x6 st1) ∧
       (¬ r2 = 0 →
       vp_in x6 12 ∧
       (∀ y3_3 : Int32, y3_3 = (x3 ||| ((st1 32 x6.toNatClampNeg) &&& x2)) →
        (wp_Cast_tiedTo_59 post (wp_Cast_tiedTo_29 post k65 n) k65) x2 y3_3 x4 x5 x6 st1))))))
def wp_Cast_tiedTo_10 (post : Int32 → tSt → Prop) : Nat → Int32 → Int32 → Int32 → Int32 → tSt → Prop
  | 0 => fun _ _ _ _ _ => False
  | n + 1 => fun x2 x3 x4 x5 st =>
    (((12 : Int32) ≤ x5 →
     post x3 st) ∧
     (¬ (12 : Int32) ≤ x5 →
     ((x3 = x4 →
      post x3 st) ∧
      (¬ x3 = x4 →
      (fun z0 z1 z2 z3 z4 w => ∃ q29, wp_Cast_tiedTo_29 post (wp_Cast_tiedTo_65 post (wp_Cast_tiedTo_10 post n)) q29 z0 z1 z2 z3 z4 w) x2 x3 x3 x5 (0 : Int32) st))))
def wp_Cast_tiedTo (x1 : Int32) (x2 : Int32) (st : tSt) (post : Int32 → tSt → Prop) : Prop :=
 (∀ y3_1 : Int32, y3_1 = ((1 : Int32) <<< (x1 &&& 31)) →
  (fun z0 z1 z2 z3 w => ∃ q10, wp_Cast_tiedTo_10 post q10 z0 z1 z2 z3 w) x2 y3_1 (0 : Int32) (0 : Int32) st)
def wp_Cast_takersOf_4 (post : Int32 → tSt → Prop) : Nat → Int32 → Int32 → Int32 → tSt → Prop
  | 0 => fun _ _ _ _ => False
  | n + 1 => fun x1 x2 x3 st =>
    (((6 : Int32) ≤ x3 →
     post x2 st) ∧
     (¬ (6 : Int32) ≤ x3 →
     vp_in x3 6 ∧
     (∀ y2_1 : Int32, y2_1 = (x2 + (((st 31 x3.toNatClampNeg) >>> (x1 &&& 31)) &&& (1 : Int32))) →
      (∀ y3_2 : Int32, y3_2 = x3 + 1 →
       (wp_Cast_takersOf_4 post n) x1 y2_1 y3_2 st))))
def wp_Cast_takersOf (x1 : Int32) (st : tSt) (post : Int32 → tSt → Prop) : Prop :=
 (fun z0 z1 z2 w => ∃ q4, wp_Cast_takersOf_4 post q4 z0 z1 z2 w) x1 (0 : Int32) (0 : Int32) st
def wp_Integer_bitCount (x0 : Int32) (st : tSt) (post : Int32 → tSt → Prop) : Prop :=
 (∀ y0_1 : Int32, y0_1 = (x0 - (((x0.toUInt32 >>> ((1 : Int32).toUInt32 &&& Int32.toUInt32 31)).toInt32) &&& (1431655765 : Int32))) →
  (∀ y0_2 : Int32, y0_2 = ((y0_1 &&& (858993459 : Int32)) + (((y0_1.toUInt32 >>> ((2 : Int32).toUInt32 &&& Int32.toUInt32 31)).toInt32) &&& (858993459 : Int32))) →
   (∀ y0_3 : Int32, y0_3 = ((y0_2 + ((y0_2.toUInt32 >>> ((4 : Int32).toUInt32 &&& Int32.toUInt32 31)).toInt32)) &&& (252645135 : Int32)) →
    (∀ y0_4 : Int32, y0_4 = (y0_3 + ((y0_3.toUInt32 >>> ((8 : Int32).toUInt32 &&& Int32.toUInt32 31)).toInt32)) →
     (∀ y0_5 : Int32, y0_5 = (y0_4 + ((y0_4.toUInt32 >>> ((16 : Int32).toUInt32 &&& Int32.toUInt32 31)).toInt32)) →
      post (y0_5 &&& (63 : Int32)) st)))))
def wp_Cast_hardestOf_80 (post : Int32 → tSt → Prop) (k11 : Int32 → Int32 → Int32 → Int32 → Int32 → tSt → Prop) (x1 : Int32) (x2 : Int32) (x3 : Int32) (x4 : Int32) (x5 : Int32) (st : tSt) : Prop :=
 (∀ y5_1 : Int32, y5_1 = x5 + 1 →
  k11 x1 x2 x3 x4 y5_1 st)
def wp_Cast_hardestOf_70 (post : Int32 → tSt → Prop) (k11 : Int32 → Int32 → Int32 → Int32 → Int32 → tSt → Prop) (x1 : Int32) (x5 : Int32) (x6 : Int32) (x7 : Int32) (st : tSt) : Prop :=
 (wp_Cast_hardestOf_80 post k11) x1 x5 x6 x7 x5 st
def wp_Cast_hardestOf_11 (post : Int32 → tSt → Prop) : Nat → Int32 → Int32 → Int32 → Int32 → Int32 → tSt → Prop
  | 0 => fun _ _ _ _ _ _ => False
  | n + 1 => fun x1 x2 x3 x4 x5 st =>
    (((st 27 0) ≤ x5 →
     post x2 st) ∧
     (¬ (st 27 0) ≤ x5 →
     wp_T_hasBit x1 x5 st (fun r2 st1 =>
      ((r2 = 0 →
       (wp_Cast_hardestOf_80 post (wp_Cast_hardestOf_11 post n)) x1 x2 x3 x4 x5 st1) ∧
       (¬ r2 = 0 →
       wp_Cast_takersOf x5 st1 (fun r4 st3 =>
        vp_in x5 12 ∧
        wp_Integer_bitCount ((st3 32 x5.toNatClampNeg) &&& x1) st3 (fun r6 st5 =>
         ((r4 < x3 →
          (wp_Cast_hardestOf_70 post (wp_Cast_hardestOf_11 post n)) x1 x5 r4 r6 st5) ∧
          (¬ r4 < x3 →
          ((r4 = x3 →
           ((r6 ≤ x4 →
            (wp_Cast_hardestOf_80 post (wp_Cast_hardestOf_11 post n)) x1 x2 x3 x4 x5 st5) ∧
            (¬ r6 ≤ x4 →
            (wp_Cast_hardestOf_70 post (wp_Cast_hardestOf_11 post n)) x1 x5 r4 r6 st5))) ∧
           (¬ r4 = x3 →
           (wp_Cast_hardestOf_80 post (wp_Cast_hardestOf_11 post n)) x1 x2 x3 x4 x5 st5)))))))))))
def wp_Cast_hardestOf (x1 : Int32) (st : tSt) (post : Int32 → tSt → Prop) : Prop :=
 (fun z0 z1 z2 z3 z4 w => ∃ q11, wp_Cast_hardestOf_11 post q11 z0 z1 z2 z3 z4 w) x1 (0 : Int32) (7 : Int32) (0 : Int32) (0 : Int32) st
def wp_Cast_isWorthTrying_37 (post : Int32 → tSt → Prop) (x1 : Int32) (x2 : Int32) (st : tSt) : Prop :=
 vp_in x1 6 ∧
 wp_T_hasBit (st 31 x1.toNatClampNeg) x2 st (fun r2 st1 =>
  (r2 = 0 ∨ r2 = 1) ∧
  post r2 st1)
def wp_Cast_isWorthTrying_3 (post : Int32 → tSt → Prop) (k37 : Int32 → Int32 → tSt → Prop) : Nat → Int32 → Int32 → Int32 → Int32 → tSt → Prop
  | 0 => fun _ _ _ _ _ => False
  | n + 1 => fun x1 x2 x3 x4 st =>
    ((x1 ≤ x4 →
     k37 x1 x2 st) ∧
     (¬ x1 ≤ x4 →
     vp_in x4 6 ∧
     vp_in x1 6 ∧
     ((((st 31 x4.toNatClampNeg) &&& x3) = ((st 31 x1.toNatClampNeg) &&& x3) →
      post (0 : Int32) st) ∧
      (¬ ((st 31 x4.toNatClampNeg) &&& x3) = ((st 31 x1.toNatClampNeg) &&& x3) →
      (∀ y4_1 : Int32, y4_1 = x4 + 1 →
       (wp_Cast_isWorthTrying_3 post k37 n) x1 x2 x3 y4_1 st)))))
def wp_Cast_isWorthTrying (x1 : Int32) (x2 : Int32) (x3 : Int32) (st : tSt) (post : Int32 → tSt → Prop) : Prop :=
 (fun z0 z1 z2 z3 w => ∃ q3, wp_Cast_isWorthTrying_3 post (wp_Cast_isWorthTrying_37 post) q3 z0 z1 z2 z3 w) x1 x2 x3 (0 : Int32) st
def wp_Cast_canGive_b (cf : Int32 → Int32 → tSt → (Int32 → tSt → Prop) → Prop) (x1 : Int32) (x2 : Int32) (x3 : Int32) (x4 : Int32) (st : tSt) (post : Int32 → tSt → Prop) : Prop :=
 ((x4 < (12 : Int32) →
  vp_in x2 6 ∧
  (∀ y5_1 : Int32, y5_1 = (st 31 x2.toNatClampNeg) →
   vp_in x1 12 ∧
   vp_in x2 6 ∧
   (∀ st2 : tSt, st2 = tUp st 31 x2.toNatClampNeg (y5_1 &&& ((st 32 x1.toNatClampNeg) ^^^ (-1 : Int32))) →
    cf (x3 &&& (((1 : Int32) <<< (x1 &&& 31)) ^^^ (-1 : Int32))) (x4 + (1 : Int32)) st2 (fun r4 st3 =>
     vp_in x2 6 ∧
     (∀ st5 : tSt, st5 = tUp st3 31 x2.toNatClampNeg y5_1 →
      ((r4 = 0 →
       (r4 = 0 ∨ r4 = 1) ∧
       post r4 st5) ∧
       (¬ r4 = 0 →
       vp_in x1 12 ∧
       (∀ st6 : tSt, st6 = tUp st5 34 x1.toNatClampNeg x2 →
        (r4 = 0 ∨ r4 = 1) ∧
        post r4 st6)))))))) ∧
  (¬ x4 < (12 : Int32) →
  post (0 : Int32) st))
def wp_Cast_canFill_b_47 (cg : Int32 → Int32 → Int32 → Int32 → tSt → (Int32 → tSt → Prop) → Prop) (post : Int32 → tSt → Prop) (k15 : Int32 → Int32 → Int32 → Int32 → tSt → Prop) (x1 : Int32) (x2 : Int32) (x3 : Int32) (x4 : Int32) (st : tSt) : Prop :=
 (∀ y4_1 : Int32, y4_1 = x4 + 1 →
  k15 x1 x2 x3 y4_1 st)
def wp_Cast_canFill_b_15 (cg : Int32 → Int32 → Int32 → Int32 → tSt → (Int32 → tSt → Prop) → Prop) (post : Int32 → tSt → Prop) : Nat → Int32 → Int32 → Int32 → Int32 → tSt → Prop
  | 0 => fun _ _ _ _ _ => False
  | n + 1 => fun x1 x2 x3 x4 st =>
    (((6 : Int32) ≤ x4 →
     post (0 : Int32) st) ∧
     (¬ (6 : Int32) ≤ x4 →
     wp_Cast_isWorthTrying x4 x3 x1 st (fun r2 st1 =>
      ((r2 = 0 →
       (wp_Cast_canFill_b_47 cg post (wp_Cast_canFill_b_15 cg post n)) x1 x2 x3 x4 st1) ∧
       (¬ r2 = 0 →
       cg x3 x4 x1 x2 st1 (fun r4 st3 =>
        ((r4 = 0 →
         (wp_Cast_canFill_b_47 cg post (wp_Cast_canFill_b_15 cg post n)) x1 x2 x3 x4 st3) ∧
         (¬ r4 = 0 →
         post (1 : Int32) st3))))))))
def wp_Cast_canFill_b (cg : Int32 → Int32 → Int32 → Int32 → tSt → (Int32 → tSt → Prop) → Prop) (x1 : Int32) (x2 : Int32) (st : tSt) (post : Int32 → tSt → Prop) : Prop :=
 ((x1 = 0 →
  post (1 : Int32) st) ∧
  (¬ x1 = 0 →
  wp_Cast_hardestOf x1 st (fun r2 st1 =>
   (fun z0 z1 z2 z3 w => ∃ q15, wp_Cast_canFill_b_15 cg post q15 z0 z1 z2 z3 w) x1 x2 r2 (0 : Int32) st1)))
def wp_Cast_canFill : Nat → Int32 → Int32 → tSt → (Int32 → tSt → Prop) → Prop
  | 0 => fun _ _ _ _ => False
  | d + 1 => wp_Cast_canFill_b (wp_Cast_canGive_b (wp_Cast_canFill d))
def wp_Cast_canGive (d : Nat) : Int32 → Int32 → Int32 → Int32 → tSt → (Int32 → tSt → Prop) → Prop := wp_Cast_canGive_b (wp_Cast_canFill d)
def wp_Cast_admit_97 (post : Int32 → tSt → Prop) : Nat → Int32 → tSt → Prop
  | 0 => fun _ _ => False
  | n + 1 => fun x6 st =>
    (((6 : Int32) ≤ x6 →
     post (0 : Int32) st) ∧
     (¬ (6 : Int32) ≤ x6 →
     vp_in x6 6 ∧
     wp_Cast_allParts st (fun r2 st1 =>
      vp_in x6 6 ∧
      (∀ st3 : tSt, st3 = tUp st1 31 x6.toNatClampNeg ((st 31 x6.toNatClampNeg) &&& r2) →
       (∀ y6_4 : Int32, y6_4 = x6 + 1 →
        (wp_Cast_admit_97 post n) y6_4 st3)))))
def wp_Cast_admit_68 (post : Int32 → tSt → Prop) (x5 : Int32) (st : tSt) : Prop :=
 wp_Cast_allParts st (fun r2 st1 =>
  wp_Cast_tiedTo x5 r2 st1 (fun r4 st3 =>
   wp_Cast_canFill 13 r4 (0 : Int32) st3 (fun r6 st5 =>
    ((r6 = 0 →
     (∀ st7 : tSt, st7 = tUp st5 27 0 x5 →
      (fun z0 w => ∃ q97, wp_Cast_admit_97 post q97 z0 w) (0 : Int32) st7)) ∧
     (¬ r6 = 0 →
     post (1 : Int32) st5)))))
def wp_Cast_admit_9 (post : Int32 → tSt → Prop) (k68 : Int32 → tSt → Prop) : Nat → Int32 → Int32 → Int32 → Int32 → tSt → Prop
  | 0 => fun _ _ _ _ _ => False
  | n + 1 => fun x2 x4 x5 x6 st =>
    vp_in x2 6 ∧
    wp_Call_partCount x2.toNatClampNeg st (fun r2 st1 =>
     ((r2 ≤ x6 →
      k68 x5 st1) ∧
      (¬ r2 ≤ x6 →
      (((12 : Int32) ≤ (st1 27 0) →
       k68 x5 st1) ∧
       (¬ (12 : Int32) ≤ (st1 27 0) →
       vp_in x2 6 ∧
       wp_Call_fact x2.toNatClampNeg ((5 : Int32) + x6) st1 (fun r4 st3 =>
        wp_Cast_markTakers r4 st3 (fun st5 =>
         wp_Cast_markBars x2 x4 st5 (fun st6 =>
          (∀ st7 : tSt, st7 = tUp st6 27 0 ((st6 27 0) + (1 : Int32)) →
           (∀ y6_8 : Int32, y6_8 = x6 + 1 →
            (wp_Cast_admit_9 post k68 n) x2 x4 x5 y6_8 st7))))))))))
def wp_Cast_admit (x2 : Int32) (x4 : Int32) (st : tSt) (post : Int32 → tSt → Prop) : Prop :=
 (∀ y5_1 : Int32, y5_1 = (st 27 0) →
  (fun z0 z1 z2 z3 w => ∃ q9, wp_Cast_admit_9 post (wp_Cast_admit_68 post) q9 z0 z1 z2 z3 w) x2 x4 y5_1 (0 : Int32) st)
def wp_Cast_close (x1 : Int32) (x2 : Int32) (st : tSt) (post : tSt → Prop) : Prop :=
 wp_T_within x1 (0 : Int32) (5 : Int32) st (fun r2 st1 =>
  ((r2 = 0 →
   post st1) ∧
   (¬ r2 = 0 →
   vp_in x1 6 ∧
   vp_in x1 6 ∧
   (∀ st3 : tSt, st3 = tUp st1 31 x1.toNatClampNeg ((st1 31 x1.toNatClampNeg) &&& (x2 ^^^ (-1 : Int32))) →
    post st3))))
def wp_Cast_lowerAll_83 (post : tSt → Prop) (k36 : Int32 → Int32 → Int32 → Int32 → Int32 → Int32 → tSt → Prop) (k91 : Int32 → Int32 → tSt → Prop) (x1 : Int32) (x2 : Int32) (x3 : Int32) (x4 : Int32) (x6 : Int32) (s0 : Int32) (st : tSt) : Prop :=
 (∀ y6_1 : Int32, y6_1 = x6 + 1 →
  k36 x1 x2 x3 x4 s0 y6_1 st)
def wp_Cast_lowerAll_82 (post : tSt → Prop) (k36 : Int32 → Int32 → Int32 → Int32 → Int32 → Int32 → tSt → Prop) (k91 : Int32 → Int32 → tSt → Prop) (x1 : Int32) (x2 : Int32) (x3 : Int32) (x4 : Int32) (x6 : Int32) (st : tSt) : Prop :=
 (wp_Cast_lowerAll_83 post k36 k91) x1 x2 x3 x4 x6 (0 : Int32) st
def wp_Cast_lowerAll_91 (post : tSt → Prop) (k7 : Int32 → Int32 → tSt → Prop) (x1 : Int32) (x2 : Int32) (st : tSt) : Prop :=
 vp_in x2 12 ∧
 vp_in x2 12 ∧
 wp_Cast_close (st 34 x2.toNatClampNeg) (st 32 x2.toNatClampNeg) st (fun st1 =>
  (∀ y1_2 : Int32, y1_2 = (x1 &&& (((1 : Int32) <<< (x2 &&& 31)) ^^^ (-1 : Int32))) →
   (∀ y2_3 : Int32, y2_3 = x2 + 1 →
    k7 y1_2 y2_3 st1)))
def wp_Cast_lowerAll_36 (post : tSt → Prop) (k91 : Int32 → Int32 → tSt → Prop) : Nat → Int32 → Int32 → Int32 → Int32 → Int32 → Int32 → tSt → Prop
  | 0 => fun _ _ _ _ _ _ _ => False
  | n + 1 => fun x1 x2 x3 x4 x5 x6 st =>
    (((6 : Int32) ≤ x6 →
     k91 x1 x2 st) ∧
     (¬ (6 : Int32) ≤ x6 →
     ((x4 ≤ x6 →
      k91 x1 x2 st) ∧
      (¬ x4 ≤ x6 →
      ((x5 = 0 →
       wp_Cast_isWorthTrying x6 x2 x3 st (fun r2 st1 =>
        ((r2 = 0 →
         (wp_Cast_lowerAll_82 post (wp_Cast_lowerAll_36 post k91 n) k91) x1 x2 x3 x4 x6 st1) ∧
         (¬ r2 = 0 →
         wp_Cast_canGive 13 x2 x6 x3 x2 st1 (fun r4 st3 =>
          ((r4 = 0 →
           (wp_Cast_lowerAll_82 post (wp_Cast_lowerAll_36 post k91 n) k91) x1 x2 x3 x4 x6 st3) ∧
           (¬ r4 = 0 →
           (wp_Cast_lowerAll_83 post (wp_Cast_lowerAll_36 post k91 n) k91) x1 x2 x3 x4 x6 (1 : Int32) st3))))))) ∧
       (¬ x5 = 0 →
       k91 x1 x2 st))))))
def wp_Cast_lowerAll_7 (post : tSt → Prop) : Nat → Int32 → Int32 → tSt → Prop
  | 0 => fun _ _ _ => False
  | n + 1 => fun x1 x2 st =>
    (((st 27 0) ≤ x2 →
     post st) ∧
     (¬ (st 27 0) ≤ x2 →
     wp_Cast_tiedTo x2 x1 st (fun r2 st1 =>
      vp_in x2 12 ∧
      (∀ y4_3 : Int32, y4_3 = (st1 34 x2.toNatClampNeg) →
       (fun z0 z1 z2 z3 z4 z5 w => ∃ q36, wp_Cast_lowerAll_36 post (wp_Cast_lowerAll_91 post (wp_Cast_lowerAll_7 post n)) q36 z0 z1 z2 z3 z4 z5 w) x1 x2 r2 y4_3 (0 : Int32) (0 : Int32) st1))))
def wp_Cast_lowerAll (st : tSt) (post : tSt → Prop) : Prop :=
 wp_Cast_allParts st (fun r2 st1 =>
  (fun z0 z1 w => ∃ q7, wp_Cast_lowerAll_7 post q7 z0 z1 w) r2 (0 : Int32) st1)
def wp_Plan_playedBits (st : tSt) (post : Int32 → tSt → Prop) : Prop :=
 post (st 26 0) st
def wp_Plan_has (x1 : Int32) (st : tSt) (post : Int32 → tSt → Prop) : Prop :=
 wp_T_within x1 (0 : Int32) (5 : Int32) st (fun r2 st1 =>
  ((r2 = 0 →
   post (0 : Int32) st1) ∧
   (¬ r2 = 0 →
   wp_T_hasBit (st1 26 0) x1 st1 (fun r4 st3 =>
    ((r4 = 0 →
     post (0 : Int32) st3) ∧
     (¬ r4 = 0 →
     post (1 : Int32) st3))))))
def wp_Plan_piperOf (x1 : Int32) (x2 : Int32) (st : tSt) (post : Int32 → tSt → Prop) : Prop :=
 wp_Cast_piperOf x1 x2 st (fun r2 st1 =>
  post r2 st1)
def wp_Plan_tuneOf (x1 : Int32) (st : tSt) (post : Int32 → tSt → Prop) : Prop :=
 wp_Plan_has x1 st (fun r2 st1 =>
  ((r2 = 0 →
   post (-1 : Int32) st1) ∧
   (¬ r2 = 0 →
   vp_in x1 6 ∧
   post (st1 29 x1.toNatClampNeg) st1)))
def wp_Plan_partsOf (x1 : Int32) (st : tSt) (post : Int32 → tSt → Prop) : Prop :=
 wp_Cast_partsOf x1 st (fun r2 st1 =>
  post r2 st1)
def wp_Plan_hasPiecesAt_56 (post : Int32 → tSt → Prop) (k15 : Int32 → Int32 → Int32 → Int32 → Int32 → tSt → Prop) (k62 : Int32 → Int32 → Int32 → Int32 → tSt → Prop) (x2 : Int32) (x3 : Int32) (x4 : Int32) (x5 : Int32) (x6 : Int32) (st : tSt) : Prop :=
 (∀ y6_1 : Int32, y6_1 = x6 + 1 →
  k15 x2 x3 x4 x5 y6_1 st)
def wp_Plan_hasPiecesAt_62 (post : Int32 → tSt → Prop) (k3 : Int32 → Int32 → Int32 → tSt → Prop) (x2 : Int32) (x3 : Int32) (x4 : Int32) (x5 : Int32) (st : tSt) : Prop :=
 vp_in x4 5 ∧
 ((x5 ≤ (st 23 x4.toNatClampNeg) →
  (∀ y4_1 : Int32, y4_1 = x4 + 1 →
   k3 x2 x3 y4_1 st)) ∧
  (¬ x5 ≤ (st 23 x4.toNatClampNeg) →
  post (0 : Int32) st))
def wp_Plan_hasPiecesAt_15 (post : Int32 → tSt → Prop) (k62 : Int32 → Int32 → Int32 → Int32 → tSt → Prop) : Nat → Int32 → Int32 → Int32 → Int32 → Int32 → tSt → Prop
  | 0 => fun _ _ _ _ _ _ => False
  | n + 1 => fun x2 x3 x4 x5 x6 st =>
    (((6 : Int32) ≤ x6 →
     k62 x2 x3 x4 x5 st) ∧
     (¬ (6 : Int32) ≤ x6 →
     wp_T_hasBit x2 x6 st (fun r2 st1 =>
      ((r2 = 0 →
       (wp_Plan_hasPiecesAt_56 post (wp_Plan_hasPiecesAt_15 post k62 n) k62) x2 x3 x4 x5 x6 st1) ∧
       (¬ r2 = 0 →
       vp_in x6 6 ∧
       wp_Call_isOnAt x6.toNatClampNeg x3 st1 (fun r4 st3 =>
        ((r4 = 0 →
         (wp_Plan_hasPiecesAt_56 post (wp_Plan_hasPiecesAt_15 post k62 n) k62) x2 x3 x4 x5 x6 st3) ∧
         (¬ r4 = 0 →
         vp_in x6 6 ∧
         wp_Call_partsWith x6.toNatClampNeg x4 st3 (fun r6 st5 =>
          (∀ y5_7 : Int32, y5_7 = (x5 + r6) →
           (wp_Plan_hasPiecesAt_56 post (wp_Plan_hasPiecesAt_15 post k62 n) k62) x2 x3 x4 y5_7 x6 st5))))))))))
def wp_Plan_hasPiecesAt_3 (post : Int32 → tSt → Prop) : Nat → Int32 → Int32 → Int32 → tSt → Prop
  | 0 => fun _ _ _ _ => False
  | n + 1 => fun x2 x3 x4 st =>
    (((5 : Int32) ≤ x4 →
     post (1 : Int32) st) ∧
     (¬ (5 : Int32) ≤ x4 →
     (fun z0 z1 z2 z3 z4 w => ∃ q15, wp_Plan_hasPiecesAt_15 post (wp_Plan_hasPiecesAt_62 post (wp_Plan_hasPiecesAt_3 post n)) q15 z0 z1 z2 z3 z4 w) x2 x3 x4 (0 : Int32) (0 : Int32) st))
def wp_Plan_hasPiecesAt (x2 : Int32) (x3 : Int32) (st : tSt) (post : Int32 → tSt → Prop) : Prop :=
 (fun z0 z1 z2 w => ∃ q3, wp_Plan_hasPiecesAt_3 post q3 z0 z1 z2 w) x2 x3 (0 : Int32) st
def wp_Plan_hasPieces_50 (post : Int32 → tSt → Prop) (k13 : Int32 → Int32 → tSt → Prop) (x4 : Int32) (x5 : Int32) (st : tSt) : Prop :=
 (∀ y5_1 : Int32, y5_1 = x5 + 1 →
  k13 x4 y5_1 st)
def wp_Plan_hasPieces_13 (post : Int32 → tSt → Prop) : Nat → Int32 → Int32 → tSt → Prop
  | 0 => fun _ _ _ => False
  | n + 1 => fun x4 x5 st =>
    (((6 : Int32) ≤ x5 →
     post (1 : Int32) st) ∧
     (¬ (6 : Int32) ≤ x5 →
     wp_T_hasBit x4 x5 st (fun r2 st1 =>
      ((r2 = 0 →
       (wp_Plan_hasPieces_50 post (wp_Plan_hasPieces_13 post n)) x4 x5 st1) ∧
       (¬ r2 = 0 →
       vp_in x5 6 ∧
       wp_Call_fact x5.toNatClampNeg (1 : Int32) st1 (fun r4 st3 =>
        wp_Plan_hasPiecesAt x4 r4 st3 (fun r6 st5 =>
         ((r6 = 0 →
          post (0 : Int32) st5) ∧
          (¬ r6 = 0 →
          (wp_Plan_hasPieces_50 post (wp_Plan_hasPieces_13 post n)) x4 x5 st5)))))))))
def wp_Plan_hasPieces (x3 : Int32) (st : tSt) (post : Int32 → tSt → Prop) : Prop :=
 (∀ y4_1 : Int32, y4_1 = ((st 26 0) ||| ((1 : Int32) <<< (x3 &&& 31))) →
  (fun z0 z1 w => ∃ q13, wp_Plan_hasPieces_13 post q13 z0 z1 w) y4_1 (0 : Int32) st)
def wp_Plan_castCalls_83 (post : tSt → Prop) (k24 : Int32 → Int32 → Int32 → tSt → Prop) (k89 : Int32 → Int32 → tSt → Prop) (x4 : Int32) (x5 : Int32) (x6 : Int32) (st : tSt) : Prop :=
 (∀ y6_1 : Int32, y6_1 = x6 + 1 →
  k24 x4 x5 y6_1 st)
def wp_Plan_castCalls_89 (post : tSt → Prop) (k15 : Int32 → Int32 → tSt → Prop) (k95 : tSt → Prop) (x4 : Int32) (x5 : Int32) (st : tSt) : Prop :=
 (∀ y5_1 : Int32, y5_1 = x5 + 1 →
  k15 x4 y5_1 st)
def wp_Plan_castCalls_24 (post : tSt → Prop) (k89 : Int32 → Int32 → tSt → Prop) : Nat → Int32 → Int32 → Int32 → tSt → Prop
  | 0 => fun _ _ _ _ => False
  | n + 1 => fun x4 x5 x6 st =>
    (((6 : Int32) ≤ x6 →
     k89 x4 x5 st) ∧
     (¬ (6 : Int32) ≤ x6 →
     vp_in x6 6 ∧
     wp_Call_isOfOrder x6.toNatClampNeg x5 st (fun r2 st1 =>
      ((r2 = 0 →
       (wp_Plan_castCalls_83 post (wp_Plan_castCalls_24 post k89 n) k89) x4 x5 x6 st1) ∧
       (¬ r2 = 0 →
       wp_Plan_hasPieces x6 st1 (fun r4 st3 =>
        ((r4 = 0 →
         (wp_Plan_castCalls_83 post (wp_Plan_castCalls_24 post k89 n) k89) x4 x5 x6 st3) ∧
         (¬ r4 = 0 →
         wp_Cast_admit x6 x4 st3 (fun r6 st5 =>
          ((r6 = 0 →
           (wp_Plan_castCalls_83 post (wp_Plan_castCalls_24 post k89 n) k89) x4 x5 x6 st5) ∧
           (¬ r6 = 0 →
           (∀ st7 : tSt, st7 = tUp st5 26 0 ((st5 26 0) ||| ((1 : Int32) <<< (x6 &&& 31))) →
            (wp_Plan_castCalls_83 post (wp_Plan_castCalls_24 post k89 n) k89) x4 x5 x6 st7))))))))))))
def wp_Plan_castCalls_95 (post : tSt → Prop) (st : tSt) : Prop :=
 wp_Cast_lowerAll st (fun st1 =>
  post st1)
def wp_Plan_castCalls_15 (post : tSt → Prop) (k95 : tSt → Prop) : Nat → Int32 → Int32 → tSt → Prop
  | 0 => fun _ _ _ => False
  | n + 1 => fun x4 x5 st =>
    (((3 : Int32) < x5 →
     k95 st) ∧
     (¬ (3 : Int32) < x5 →
     (fun z0 z1 z2 w => ∃ q24, wp_Plan_castCalls_24 post (wp_Plan_castCalls_89 post (wp_Plan_castCalls_15 post k95 n) k95) q24 z0 z1 z2 w) x4 x5 (0 : Int32) st))
def wp_Plan_castCalls (x4 : Int32) (st : tSt) (post : tSt → Prop) : Prop :=
 wp_Cast_clear st (fun st1 =>
  (∀ st2 : tSt, st2 = tUp st1 26 0 (0 : Int32) →
   (fun z0 z1 w => ∃ q15, wp_Plan_castCalls_15 post (wp_Plan_castCalls_95 post) q15 z0 z1 w) x4 (0 : Int32) st2))
def wp_Plan_longestUnheard_52 (post : Int32 → tSt → Prop) (k6 : Int32 → Int32 → Int32 → Int32 → tSt → Prop) (x2 : Int32) (x3 : Int32) (x4 : Int32) (x5 : Int32) (st : tSt) : Prop :=
 (∀ y5_1 : Int32, y5_1 = x5 + 1 →
  k6 x2 x3 x4 y5_1 st)
def wp_Plan_longestUnheard_48 (post : Int32 → tSt → Prop) (k6 : Int32 → Int32 → Int32 → Int32 → tSt → Prop) (x2 : Int32) (x3 : Int32) (x5 : Int32) (st : tSt) : Prop :=
 (wp_Plan_longestUnheard_52 post k6) x2 x3 x5 x5 st
def wp_Plan_longestUnheard_6 (post : Int32 → tSt → Prop) : Nat → Int32 → Int32 → Int32 → Int32 → tSt → Prop
  | 0 => fun _ _ _ _ _ => False
  | n + 1 => fun x2 x3 x4 x5 st =>
    (((10 : Int32) ≤ x5 →
     post x4 st) ∧
     (¬ (10 : Int32) ≤ x5 →
     vp_in x5 10 ∧
     wp_Tune_fits x5.toNatClampNeg x2 x3 st (fun r2 st1 =>
      ((r2 = 0 →
       (wp_Plan_longestUnheard_52 post (wp_Plan_longestUnheard_6 post n)) x2 x3 x4 x5 st1) ∧
       (¬ r2 = 0 →
       ((x4 = (-1 : Int32) →
        (wp_Plan_longestUnheard_48 post (wp_Plan_longestUnheard_6 post n)) x2 x3 x5 st1) ∧
        (¬ x4 = (-1 : Int32) →
        vp_in x5 10 ∧
        vp_in x4 10 ∧
        (((st1 30 x4.toNatClampNeg) ≤ (st1 30 x5.toNatClampNeg) →
         (wp_Plan_longestUnheard_52 post (wp_Plan_longestUnheard_6 post n)) x2 x3 x4 x5 st1) ∧
         (¬ (st1 30 x4.toNatClampNeg) ≤ (st1 30 x5.toNatClampNeg) →
         (wp_Plan_longestUnheard_48 post (wp_Plan_longestUnheard_6 post n)) x2 x3 x5 st1)))))))))
def wp_Plan_longestUnheard (x2 : Int32) (x3 : Int32) (st : tSt) (post : Int32 → tSt → Prop) : Prop :=
 (fun z0 z1 z2 z3 w => ∃ q6, wp_Plan_longestUnheard_6 post q6 z0 z1 z2 z3 w) x2 x3 (-1 : Int32) (0 : Int32) st
def wp_Plan_takeTurn (x1 : Int32) (x2 : Int32) (st : tSt) (post : tSt → Prop) : Prop :=
 wp_T_within x1 (0 : Int32) (9 : Int32) st (fun r2 st1 =>
  ((r2 = 0 →
   post st1) ∧
   (¬ r2 = 0 →
   vp_in x1 10 ∧
   (∀ st3 : tSt, st3 = tUp st1 30 x1.toNatClampNeg x2 →
    post st3))))
def wp_Plan_chooseTunes_111 (post : tSt → Prop) (k46 : Int32 → Int32 → Int32 → Int32 → tSt → Prop) (k117 : Int32 → Int32 → Int32 → tSt → Prop) (x3 : Int32) (x5 : Int32) (x6 : Int32) (x7 : Int32) (st : tSt) : Prop :=
 (∀ y7_1 : Int32, y7_1 = x7 + 1 →
  k46 x3 x5 x6 y7_1 st)
def wp_Plan_chooseTunes_117 (post : tSt → Prop) (k37 : Int32 → Int32 → Int32 → tSt → Prop) (x3 : Int32) (x5 : Int32) (x6 : Int32) (st : tSt) : Prop :=
 (∀ y6_1 : Int32, y6_1 = x6 + 1 →
  k37 x3 x5 y6_1 st)
def wp_Plan_chooseTunes_46 (post : tSt → Prop) (k117 : Int32 → Int32 → Int32 → tSt → Prop) : Nat → Int32 → Int32 → Int32 → Int32 → tSt → Prop
  | 0 => fun _ _ _ _ _ => False
  | n + 1 => fun x3 x5 x6 x7 st =>
    (((6 : Int32) ≤ x7 →
     k117 x3 x5 x6 st) ∧
     (¬ (6 : Int32) ≤ x7 →
     wp_Plan_has x7 st (fun r2 st1 =>
      ((r2 = 0 →
       (wp_Plan_chooseTunes_111 post (wp_Plan_chooseTunes_46 post k117 n) k117) x3 x5 x6 x7 st1) ∧
       (¬ r2 = 0 →
       vp_in x7 6 ∧
       wp_Call_isOfOrder x7.toNatClampNeg x6 st1 (fun r4 st3 =>
        ((r4 = 0 →
         (wp_Plan_chooseTunes_111 post (wp_Plan_chooseTunes_46 post k117 n) k117) x3 x5 x6 x7 st3) ∧
         (¬ r4 = 0 →
         vp_in x7 6 ∧
         wp_Call_fact x7.toNatClampNeg (4 : Int32) st3 (fun r6 st5 =>
          wp_Plan_longestUnheard r6 x3 st5 (fun r8 st7 =>
           vp_in x7 6 ∧
           (∀ st9 : tSt, st9 = tUp st7 29 x7.toNatClampNeg r8 →
            vp_in x7 6 ∧
            wp_Plan_takeTurn (st9 29 x7.toNatClampNeg) x5 st9 (fun st10 =>
             (∀ y5_11 : Int32, y5_11 = x5 + 1 →
              (wp_Plan_chooseTunes_111 post (wp_Plan_chooseTunes_46 post k117 n) k117) x3 y5_11 x6 x7 st10)))))))))))))
def wp_Plan_chooseTunes_37 (post : tSt → Prop) : Nat → Int32 → Int32 → Int32 → tSt → Prop
  | 0 => fun _ _ _ _ => False
  | n + 1 => fun x3 x5 x6 st =>
    (((3 : Int32) < x6 →
     post st) ∧
     (¬ (3 : Int32) < x6 →
     (fun z0 z1 z2 z3 w => ∃ q46, wp_Plan_chooseTunes_46 post (wp_Plan_chooseTunes_117 post (wp_Plan_chooseTunes_37 post n)) q46 z0 z1 z2 z3 w) x3 x5 x6 (0 : Int32) st))
def wp_Plan_chooseTunes_30 (post : tSt → Prop) (x3 : Int32) (x4 : Int32) (st : tSt) : Prop :=
 (fun z0 z1 z2 w => ∃ q37, wp_Plan_chooseTunes_37 post q37 z0 z1 z2 w) x3 x4 (0 : Int32) st
def wp_Plan_chooseTunes_3 (post : tSt → Prop) (k30 : Int32 → Int32 → tSt → Prop) : Nat → Int32 → Int32 → Int32 → tSt → Prop
  | 0 => fun _ _ _ _ => False
  | n + 1 => fun x3 x4 x5 st =>
    (((10 : Int32) ≤ x5 →
     k30 x3 x4 st) ∧
     (¬ (10 : Int32) ≤ x5 →
     vp_in x5 10 ∧
     vp_in x5 10 ∧
     (∀ st1 : tSt, st1 = tUp st 30 x5.toNatClampNeg (st 22 x5.toNatClampNeg) →
      (∀ y5_2 : Int32, y5_2 = x5 + 1 →
       (wp_Plan_chooseTunes_3 post k30 n) x3 x4 y5_2 st1))))
def wp_Plan_chooseTunes (x3 : Int32) (x4 : Int32) (st : tSt) (post : tSt → Prop) : Prop :=
 (fun z0 z1 z2 w => ∃ q3, wp_Plan_chooseTunes_3 post (wp_Plan_chooseTunes_30 post) q3 z0 z1 z2 w) x3 x4 (0 : Int32) st
def wp_Plan_hearTunes_2 (post : tSt → Prop) : Nat → Int32 → tSt → Prop
  | 0 => fun _ _ => False
  | n + 1 => fun x2 st =>
    (((10 : Int32) ≤ x2 →
     post st) ∧
     (¬ (10 : Int32) ≤ x2 →
     vp_in x2 10 ∧
     vp_in x2 10 ∧
     (∀ st1 : tSt, st1 = tUp st 22 x2.toNatClampNeg (st 30 x2.toNatClampNeg) →
      (∀ y2_2 : Int32, y2_2 = x2 + 1 →
       (wp_Plan_hearTunes_2 post n) y2_2 st1))))
def wp_Plan_hearTunes (st : tSt) (post : tSt → Prop) : Prop :=
 (fun z0 w => ∃ q2, wp_Plan_hearTunes_2 post q2 z0 w) (0 : Int32) st
def wp_T_feed (x1 : Int32) (x2 : Int32) (x3 : Int32) (x4 : Int32) (x5 : Int32) (st : tSt) (post : Int32 → tSt → Prop) : Prop :=
 wp_Tape_hasRoom st (fun r2 st1 =>
  ((r2 = 0 →
   post (-1 : Int32) st1) ∧
   (¬ r2 = 0 →
   wp_Tape_put x1 st1 (fun st3 =>
    wp_Tape_put x2 st3 (fun st4 =>
     wp_Tape_put x3 st4 (fun st5 =>
      wp_Tape_put x4 st5 (fun st6 =>
       wp_Tape_put x5 st6 (fun st7 =>
        wp_Tape_size st7 (fun r9 st8 =>
         post r9 st8)))))))))
def wp_T_word (x1 : Int32) (st : tSt) (post : Int32 → tSt → Prop) : Prop :=
 ((x1 < 0 →
  post (-1 : Int32) st) ∧
  (¬ x1 < 0 →
  wp_Tape_size st (fun r2 st1 =>
   ((x1 ≤ r2 →
    wp_TownWord_read x1 st1 (fun r4 st3 =>
     wp_Tape_empty st3 (fun st5 =>
      (∀ st6 : tSt, st6 = tUp st5 4 0 (0 : Int32) →
       post r4 st6)))) ∧
    (¬ x1 ≤ r2 →
    post (-1 : Int32) st1)))))
def wp_T_piper (x1 : Int32) (x2 : Int32) (st : tSt) (post : Int32 → tSt → Prop) : Prop :=
 (((6 : Int32) ≤ (st 0 0) →
  post (-1 : Int32) st) ∧
  (¬ (6 : Int32) ≤ (st 0 0) →
  wp_T_within x1 (1 : Int32) (9 : Int32) st (fun r2 st1 =>
   ((r2 = 0 →
    post (-1 : Int32) st1) ∧
    (¬ r2 = 0 →
    wp_T_within x2 (1 : Int32) (31 : Int32) st1 (fun r4 st3 =>
     ((r4 = 0 →
      post (-1 : Int32) st3) ∧
      (¬ r4 = 0 →
      (∀ y3_5 : Int32, y3_5 = (st3 0 0) →
       vp_in y3_5 6 ∧
       wp_Piper_join y3_5.toNatClampNeg x1 x2 st3 (fun st6 =>
        (∀ st7 : tSt, st7 = tUp st6 0 0 ((st6 0 0) + (1 : Int32)) →
         (∀ st8 : tSt, st8 = tUp st7 4 0 (0 : Int32) →
          post y3_5 st8))))))))))))
def wp_T_isPiper (x1 : Int32) (st : tSt) (post : Int32 → tSt → Prop) : Prop :=
 wp_T_within x1 (0 : Int32) ((st 0 0) - (1 : Int32)) st (fun r2 st1 =>
  (r2 = 0 ∨ r2 = 1) ∧
  post r2 st1)
def wp_T_ill_9 (post : Int32 → tSt → Prop) (x1 : Int32) (s0 : Int32) (st : tSt) : Prop :=
 wp_T_isPiper x1 st (fun r2 st1 =>
  ((r2 = 0 →
   post (0 : Int32) st1) ∧
   (¬ r2 = 0 →
   vp_in x1 6 ∧
   (((st1 11 x1.toNatClampNeg) = (2 : Int32) →
    post (0 : Int32) st1) ∧
    (¬ (st1 11 x1.toNatClampNeg) = (2 : Int32) →
    vp_in x1 6 ∧
    (((st1 11 x1.toNatClampNeg) = s0 →
     post (0 : Int32) st1) ∧
     (¬ (st1 11 x1.toNatClampNeg) = s0 →
     vp_in x1 6 ∧
     (∀ st3 : tSt, st3 = tUp st1 11 x1.toNatClampNeg s0 →
      (∀ st4 : tSt, st4 = tUp st3 4 0 (0 : Int32) →
       post (1 : Int32) st4)))))))))
def wp_T_ill (x1 : Int32) (x2 : Int32) (st : tSt) (post : Int32 → tSt → Prop) : Prop :=
 ((x2 = 0 →
  (wp_T_ill_9 post) x1 (0 : Int32) st) ∧
  (¬ x2 = 0 →
  (wp_T_ill_9 post) x1 (1 : Int32) st))
def wp_T_old (x1 : Int32) (st : tSt) (post : Int32 → tSt → Prop) : Prop :=
 wp_T_isPiper x1 st (fun r2 st1 =>
  ((r2 = 0 →
   post (0 : Int32) st1) ∧
   (¬ r2 = 0 →
   vp_in x1 6 ∧
   (((st1 11 x1.toNatClampNeg) = (2 : Int32) →
    post (0 : Int32) st1) ∧
    (¬ (st1 11 x1.toNatClampNeg) = (2 : Int32) →
    vp_in x1 6 ∧
    (∀ st3 : tSt, st3 = tUp st1 11 x1.toNatClampNeg (2 : Int32) →
     (∀ st4 : tSt, st4 = tUp st3 4 0 (0 : Int32) →
      post (1 : Int32) st4)))))))
def wp_T_pieces (x1 : Int32) (x2 : Int32) (st : tSt) (post : Int32 → tSt → Prop) : Prop :=
 wp_T_within x1 (0 : Int32) (4 : Int32) st (fun r2 st1 =>
  ((r2 = 0 →
   post (0 : Int32) st1) ∧
   (¬ r2 = 0 →
   wp_T_within x2 (0 : Int32) (3 : Int32) st1 (fun r4 st3 =>
    ((r4 = 0 →
     post (0 : Int32) st3) ∧
     (¬ r4 = 0 →
     vp_in x1 5 ∧
     (∀ st5 : tSt, st5 = tUp st3 23 x1.toNatClampNeg x2 →
      (∀ st6 : tSt, st6 = tUp st5 4 0 (0 : Int32) →
       post (1 : Int32) st6))))))))
def wp_T_freeCall_2 (post : Int32 → tSt → Prop) : Nat → Int32 → tSt → Prop
  | 0 => fun _ _ => False
  | n + 1 => fun x1 st =>
    (((6 : Int32) ≤ x1 →
     post (-1 : Int32) st) ∧
     (¬ (6 : Int32) ≤ x1 →
     vp_in x1 6 ∧
     (((st 13 x1.toNatClampNeg) = 0 →
      post x1 st) ∧
      (¬ (st 13 x1.toNatClampNeg) = 0 →
      (∀ y1_1 : Int32, y1_1 = x1 + 1 →
       (wp_T_freeCall_2 post n) y1_1 st)))))
def wp_T_freeCall (st : tSt) (post : Int32 → tSt → Prop) : Prop :=
 (fun z0 w => ∃ q2, wp_T_freeCall_2 post q2 z0 w) (0 : Int32) st
def wp_T_call (x1 : Int32) (x2 : Int32) (x3 : Int32) (x4 : Int32) (x5 : Int32) (x6 : Int32) (x7 : Int32) (x8 : Int32) (st : tSt) (post : Int32 → tSt → Prop) : Prop :=
 (∀ st1 : tSt, st1 = tUp st 24 0 x1 →
  (∀ st2 : tSt, st2 = tUp st1 24 1 x2 →
   (∀ st3 : tSt, st3 = tUp st2 24 2 x3 →
    (∀ st4 : tSt, st4 = tUp st3 24 3 x4 →
     (∀ st5 : tSt, st5 = tUp st4 24 4 x5 →
      (∀ st6 : tSt, st6 = tUp st5 24 5 x6 →
       (∀ st7 : tSt, st7 = tUp st6 24 6 x7 →
        (∀ st8 : tSt, st8 = tUp st7 24 7 x8 →
         wp_T_freeCall st8 (fun r10 st9 =>
          ((r10 = (-1 : Int32) →
           post (-1 : Int32) st9) ∧
           (¬ r10 = (-1 : Int32) →
           wp_Call_canBe st9 (fun r12 st11 =>
            ((r12 = 0 →
             post (-1 : Int32) st11) ∧
             (¬ r12 = 0 →
             vp_in r10 6 ∧
             wp_Call_come r10.toNatClampNeg st11 (fun st13 =>
              (∀ st14 : tSt, st14 = tUp st13 4 0 (0 : Int32) →
               post r10 st14))))))))))))))))
def wp_T_isCall (x1 : Int32) (st : tSt) (post : Int32 → tSt → Prop) : Prop :=
 wp_T_within x1 (0 : Int32) (5 : Int32) st (fun r2 st1 =>
  ((r2 = 0 →
   post (0 : Int32) st1) ∧
   (¬ r2 = 0 →
   vp_in x1 6 ∧
   (((st1 13 x1.toNatClampNeg) = 0 →
    post (0 : Int32) st1) ∧
    (¬ (st1 13 x1.toNatClampNeg) = 0 →
    post (1 : Int32) st1)))))
def wp_T_off (x1 : Int32) (st : tSt) (post : Int32 → tSt → Prop) : Prop :=
 wp_T_isCall x1 st (fun r2 st1 =>
  ((r2 = 0 →
   post (0 : Int32) st1) ∧
   (¬ r2 = 0 →
   vp_in x1 6 ∧
   wp_Call_go x1.toNatClampNeg st1 (fun st3 =>
    (∀ st4 : tSt, st4 = tUp st3 4 0 (0 : Int32) →
     post (1 : Int32) st4)))))
def wp_T_monthOfToday (st : tSt) (post : Int32 → tSt → Prop) : Prop :=
 post (((st 2 0) / (30 : Int32)) - ((st 2 0) / (30 : Int32)) / (12 : Int32) * (12 : Int32)) st
def wp_T_planOfToday (st : tSt) (post : tSt → Prop) : Prop :=
 (((st 4 0) = 0 →
  wp_TownWord_number (0 : Int32) st (fun r2 st1 =>
   wp_Plan_castCalls r2 st1 (fun st3 =>
    wp_T_monthOfToday st3 (fun r5 st4 =>
     wp_Plan_chooseTunes r5 ((st4 2 0) * (6 : Int32)) st4 (fun st6 =>
      (∀ st7 : tSt, st7 = tUp st6 4 0 (1 : Int32) →
       post st7)))))) ∧
  (¬ (st 4 0) = 0 →
  post st))
def wp_T_played (st : tSt) (post : Int32 → tSt → Prop) : Prop :=
 wp_T_planOfToday st (fun st1 =>
  wp_Plan_playedBits st1 (fun r3 st2 =>
   post r3 st2))
def wp_T_who (x1 : Int32) (x2 : Int32) (st : tSt) (post : Int32 → tSt → Prop) : Prop :=
 wp_T_planOfToday st (fun st1 =>
  wp_Plan_piperOf x1 x2 st1 (fun r3 st2 =>
   post r3 st2))
def wp_T_tune (x1 : Int32) (x2 : Int32) (st : tSt) (post : Int32 → tSt → Prop) : Prop :=
 (((10 : Int32) ≤ (st 1 0) →
  post (-1 : Int32) st) ∧
  (¬ (10 : Int32) ≤ (st 1 0) →
  wp_T_within x1 (0 : Int32) (63 : Int32) st (fun r2 st1 =>
   ((r2 = 0 →
    post (-1 : Int32) st1) ∧
    (¬ r2 = 0 →
    wp_T_within x2 (0 : Int32) (4095 : Int32) st1 (fun r4 st3 =>
     ((r4 = 0 →
      post (-1 : Int32) st3) ∧
      (¬ r4 = 0 →
      (∀ y3_5 : Int32, y3_5 = (st3 1 0) →
       vp_in y3_5 10 ∧
       wp_Tune_learn y3_5.toNatClampNeg x1 x2 st3 (fun st6 =>
        (∀ st7 : tSt, st7 = tUp st6 1 0 ((st6 1 0) + (1 : Int32)) →
         (∀ st8 : tSt, st8 = tUp st7 4 0 (0 : Int32) →
          post y3_5 st8))))))))))))
def wp_T_heard (x1 : Int32) (st : tSt) (post : Int32 → tSt → Prop) : Prop :=
 wp_T_planOfToday st (fun st1 =>
  wp_Plan_tuneOf x1 st1 (fun r3 st2 =>
   post r3 st2))
def wp_T_fundShare (x1 : Int32) (st : tSt) (post : Int32 → tSt → Prop) : Prop :=
 vp_in x1 6 ∧
 wp_Call_fact x1.toNatClampNeg (7 : Int32) st (fun r2 st1 =>
  wp_TownWord_number (1 : Int32) st1 (fun r4 st3 =>
   post ((r2 * r4) / (100 : Int32)) st3))
def wp_T_partOfTwo_120 (post : Int32 → tSt → Prop) (x4 : Int32) (x5 : Int32) (x7 : Int32) (s0 : Int32) (st : tSt) : Prop :=
 ¬ x4 = 0 ∧
 ((s0 = 0 →
  post ((x5 / x4) + (0 : Int32)) st) ∧
  (¬ s0 = 0 →
  post ((x5 / x4) + x7) st))
def wp_T_partOfTwo_115 (post : Int32 → tSt → Prop) (x4 : Int32) (x5 : Int32) (x7 : Int32) (st : tSt) : Prop :=
 (wp_T_partOfTwo_120 post) x4 x5 x7 (1 : Int32) st
def wp_T_partOfTwo_119 (post : Int32 → tSt → Prop) (x4 : Int32) (x5 : Int32) (x7 : Int32) (st : tSt) : Prop :=
 (wp_T_partOfTwo_120 post) x4 x5 x7 (0 : Int32) st
def wp_T_partOfTwo (x1 : Int32) (x2 : Int32) (x3 : Int32) (st : tSt) (post : Int32 → tSt → Prop) : Prop :=
 wp_T_isPiper x2 st (fun r2 st1 =>
  ((r2 = 0 →
   post (0 : Int32) st1) ∧
   (¬ r2 = 0 →
   wp_T_isPiper x3 st1 (fun r4 st3 =>
    ((r4 = 0 →
     post (0 : Int32) st3) ∧
     (¬ r4 = 0 →
     vp_in x2 6 ∧
     vp_in x3 6 ∧
     (∀ y4_5 : Int32, y4_5 = (if (1 : Int32) < ((st3 9 x2.toNatClampNeg) + (st3 9 x3.toNatClampNeg)) then ((st3 9 x2.toNatClampNeg) + (st3 9 x3.toNatClampNeg)) else (1 : Int32)) →
      vp_in x2 6 ∧
      (∀ y5_6 : Int32, y5_6 = (x1 * (st3 9 x2.toNatClampNeg)) →
       vp_in x3 6 ∧
       (∀ y6_7 : Int32, y6_7 = (x1 * (st3 9 x3.toNatClampNeg)) →
        ¬ y4_5 = 0 ∧
        ¬ y4_5 = 0 ∧
        (∀ y7_8 : Int32, y7_8 = ((x1 - (y5_6 / y4_5)) - (y6_7 / y4_5)) →
         ¬ y4_5 = 0 ∧
         ¬ y4_5 = 0 ∧
         (((y6_7 - y6_7 / y4_5 * y4_5) < (y5_6 - y5_6 / y4_5 * y4_5) →
          (wp_T_partOfTwo_115 post) y4_5 y5_6 y7_8 st3) ∧
          (¬ (y6_7 - y6_7 / y4_5 * y4_5) < (y5_6 - y5_6 / y4_5 * y4_5) →
          ¬ y4_5 = 0 ∧
          ¬ y4_5 = 0 ∧
          (((y5_6 - y5_6 / y4_5 * y4_5) = (y6_7 - y6_7 / y4_5 * y4_5) →
           ((x3 ≤ x2 →
            (wp_T_partOfTwo_119 post) y4_5 y5_6 y7_8 st3) ∧
            (¬ x3 ≤ x2 →
            (wp_T_partOfTwo_115 post) y4_5 y5_6 y7_8 st3))) ∧
           (¬ (y5_6 - y5_6 / y4_5 * y4_5) = (y6_7 - y6_7 / y4_5 * y4_5) →
           (wp_T_partOfTwo_119 post) y4_5 y5_6 y7_8 st3))))))))))))))
def wp_T_piperShare (x2 : Int32) (x3 : Int32) (st : tSt) (post : Int32 → tSt → Prop) : Prop :=
 wp_Plan_piperOf x2 (0 : Int32) st (fun r2 st1 =>
  wp_Plan_piperOf x2 (1 : Int32) st1 (fun r4 st3 =>
   vp_in x2 6 ∧
   wp_Call_fact x2.toNatClampNeg (7 : Int32) st3 (fun r6 st5 =>
    wp_T_fundShare x2 st5 (fun r8 st7 =>
     (∀ y6_9 : Int32, y6_9 = (r6 - r8) →
      ((x3 = r2 →
       ((r4 = (-1 : Int32) →
        post y6_9 st7) ∧
        (¬ r4 = (-1 : Int32) →
        wp_T_partOfTwo y6_9 x3 r4 st7 (fun r13 st12 =>
         post r13 st12)))) ∧
       (¬ x3 = r2 →
       ((x3 = r4 →
        wp_T_partOfTwo y6_9 x3 r2 st7 (fun r11 st10 =>
         post r11 st10)) ∧
        (¬ x3 = r4 →
        post (0 : Int32) st7)))))))))
def wp_T_share (x1 : Int32) (x2 : Int32) (st : tSt) (post : Int32 → tSt → Prop) : Prop :=
 wp_T_planOfToday st (fun st1 =>
  wp_Plan_has x1 st1 (fun r3 st2 =>
   ((r3 = 0 →
    post (-1 : Int32) st2) ∧
    (¬ r3 = 0 →
    ((x2 = (-1 : Int32) →
     wp_T_fundShare x1 st2 (fun r9 st8 =>
      post r9 st8)) ∧
     (¬ x2 = (-1 : Int32) →
     wp_T_isPiper x2 st2 (fun r5 st4 =>
      ((r5 = 0 →
       post (-1 : Int32) st4) ∧
       (¬ r5 = 0 →
       wp_T_piperShare x1 x2 st4 (fun r7 st6 =>
        post r7 st6))))))))))
def wp_T_settle_37 (post : tSt → Prop) (x2 : Int32) (st : tSt) : Prop :=
 wp_T_fundShare x2 st (fun r2 st1 =>
  (∀ st3 : tSt, st3 = tUp st1 3 0 ((st 3 0) + r2) →
   post st3))
def wp_T_settle_2 (post : tSt → Prop) (k37 : Int32 → tSt → Prop) : Nat → Int32 → Int32 → tSt → Prop
  | 0 => fun _ _ _ => False
  | n + 1 => fun x2 x3 st =>
    (((st 0 0) ≤ x3 →
     k37 x2 st) ∧
     (¬ (st 0 0) ≤ x3 →
     vp_in x3 6 ∧
     wp_T_piperShare x2 x3 st (fun r2 st1 =>
      (∀ st3 : tSt, st3 = tUp st1 12 x3.toNatClampNeg ((st 12 x3.toNatClampNeg) + r2) →
       (∀ y3_4 : Int32, y3_4 = x3 + 1 →
        (wp_T_settle_2 post k37 n) x2 y3_4 st3)))))
def wp_T_settle (x2 : Int32) (st : tSt) (post : tSt → Prop) : Prop :=
 (fun z0 z1 w => ∃ q2, wp_T_settle_2 post (wp_T_settle_37 post) q2 z0 z1 w) x2 (0 : Int32) st
def wp_T_fineTheWell_56 (post : tSt → Prop) (k11 : Int32 → Int32 → tSt → Prop) (x1 : Int32) (x2 : Int32) (st : tSt) : Prop :=
 (∀ y2_1 : Int32, y2_1 = x2 + 1 →
  k11 x1 y2_1 st)
def wp_T_fineTheWell_11 (post : tSt → Prop) : Nat → Int32 → Int32 → tSt → Prop
  | 0 => fun _ _ _ => False
  | n + 1 => fun x1 x2 st =>
    (((st 0 0) ≤ x2 →
     post st) ∧
     (¬ (st 0 0) ≤ x2 →
     vp_in x2 6 ∧
     (((st 11 x2.toNatClampNeg) = 0 →
      vp_in x2 6 ∧
      (∀ st1 : tSt, st1 = tUp st 12 x2.toNatClampNeg ((st 12 x2.toNatClampNeg) - x1) →
       (∀ st2 : tSt, st2 = tUp st1 3 0 ((st1 3 0) + x1) →
        (wp_T_fineTheWell_56 post (wp_T_fineTheWell_11 post n)) x1 x2 st2))) ∧
      (¬ (st 11 x2.toNatClampNeg) = 0 →
      (wp_T_fineTheWell_56 post (wp_T_fineTheWell_11 post n)) x1 x2 st))))
def wp_T_fineTheWell (st : tSt) (post : tSt → Prop) : Prop :=
 wp_TownWord_number (3 : Int32) st (fun r2 st1 =>
  (fun z0 z1 w => ∃ q11, wp_T_fineTheWell_11 post q11 z0 z1 w) r2 (0 : Int32) st1)
def wp_T_payTheOld_64 (post : tSt → Prop) (k2 : Int32 → tSt → Prop) (x1 : Int32) (st : tSt) : Prop :=
 (∀ y1_1 : Int32, y1_1 = x1 + 1 →
  k2 y1_1 st)
def wp_T_payTheOld_2 (post : tSt → Prop) : Nat → Int32 → tSt → Prop
  | 0 => fun _ _ => False
  | n + 1 => fun x1 st =>
    (((st 0 0) ≤ x1 →
     post st) ∧
     (¬ (st 0 0) ≤ x1 →
     vp_in x1 6 ∧
     (((st 11 x1.toNatClampNeg) = (2 : Int32) →
      wp_TownWord_number (2 : Int32) st (fun r2 st1 =>
       (∀ y2_3 : Int32, y2_3 = (if r2 < (st 3 0) then r2 else (st 3 0)) →
        vp_in x1 6 ∧
        (∀ st4 : tSt, st4 = tUp st1 12 x1.toNatClampNeg ((st1 12 x1.toNatClampNeg) + y2_3) →
         (∀ st5 : tSt, st5 = tUp st4 3 0 ((st4 3 0) - y2_3) →
          (wp_T_payTheOld_64 post (wp_T_payTheOld_2 post n)) x1 st5))))) ∧
      (¬ (st 11 x1.toNatClampNeg) = (2 : Int32) →
      (wp_T_payTheOld_64 post (wp_T_payTheOld_2 post n)) x1 st))))
def wp_T_payTheOld (st : tSt) (post : tSt → Prop) : Prop :=
 (fun z0 w => ∃ q2, wp_T_payTheOld_2 post q2 z0 w) (0 : Int32) st
def wp_T_day_59 (post : Int32 → tSt → Prop) (k19 : Int32 → tSt → Prop) (k65 : tSt → Prop) (x2 : Int32) (st : tSt) : Prop :=
 (∀ y2_1 : Int32, y2_1 = x2 + 1 →
  k19 y2_1 st)
def wp_T_day_96 (post : Int32 → tSt → Prop) (st : tSt) : Prop :=
 (∀ st1 : tSt, st1 = tUp st 4 0 (0 : Int32) →
  (∀ st2 : tSt, st2 = tUp st1 2 0 ((st1 2 0) + (1 : Int32)) →
   ((((st2 2 0) - (st2 2 0) / (360 : Int32) * (360 : Int32)) = 0 →
    wp_T_payTheOld st2 (fun st3 =>
     post (st3 2 0) st3)) ∧
    (¬ ((st2 2 0) - (st2 2 0) / (360 : Int32) * (360 : Int32)) = 0 →
    post (st2 2 0) st2))))
def wp_T_day_75 (post : Int32 → tSt → Prop) (k96 : tSt → Prop) : Nat → Int32 → tSt → Prop
  | 0 => fun _ _ => False
  | n + 1 => fun x2 st =>
    (((6 : Int32) ≤ x2 →
     k96 st) ∧
     (¬ (6 : Int32) ≤ x2 →
     vp_in x2 6 ∧
     wp_Call_go x2.toNatClampNeg st (fun st1 =>
      (∀ y2_2 : Int32, y2_2 = x2 + 1 →
       (wp_T_day_75 post k96 n) y2_2 st1))))
def wp_T_day_65 (post : Int32 → tSt → Prop) (st : tSt) : Prop :=
 wp_Plan_hearTunes st (fun st1 =>
  (fun z0 w => ∃ q75, wp_T_day_75 post (wp_T_day_96 post) q75 z0 w) (0 : Int32) st1)
def wp_T_day_19 (post : Int32 → tSt → Prop) (k65 : tSt → Prop) : Nat → Int32 → tSt → Prop
  | 0 => fun _ _ => False
  | n + 1 => fun x2 st =>
    (((6 : Int32) ≤ x2 →
     k65 st) ∧
     (¬ (6 : Int32) ≤ x2 →
     wp_Plan_has x2 st (fun r2 st1 =>
      ((r2 = 0 →
       vp_in x2 6 ∧
       wp_Call_isOfOrder x2.toNatClampNeg (0 : Int32) st1 (fun r4 st3 =>
        ((r4 = 0 →
         (wp_T_day_59 post (wp_T_day_19 post k65 n) k65) x2 st3) ∧
         (¬ r4 = 0 →
         wp_T_fineTheWell st3 (fun st5 =>
          (wp_T_day_59 post (wp_T_day_19 post k65 n) k65) x2 st5))))) ∧
       (¬ r2 = 0 →
       wp_T_settle x2 st1 (fun st6 =>
        (wp_T_day_59 post (wp_T_day_19 post k65 n) k65) x2 st6))))))
def wp_T_day (st : tSt) (post : Int32 → tSt → Prop) : Prop :=
 (((st 2 0) < (9999 : Int32) →
  wp_T_planOfToday st (fun st1 =>
   (fun z0 w => ∃ q19, wp_T_day_19 post (wp_T_day_65 post) q19 z0 w) (0 : Int32) st1)) ∧
  (¬ (st 2 0) < (9999 : Int32) →
  post (-1 : Int32) st))
def wp_T_lasts_36 (post : Int32 → tSt → Prop) (k4 : Int32 → Int32 → tSt → Prop) (k42 : Int32 → tSt → Prop) (x1 : Int32) (x2 : Int32) (st : tSt) : Prop :=
 (∀ y2_1 : Int32, y2_1 = x2 + 1 →
  k4 x1 y2_1 st)
def wp_T_lasts_42 (post : Int32 → tSt → Prop) (x1 : Int32) (st : tSt) : Prop :=
 ((x1 = 0 →
  post (9999 : Int32) st) ∧
  (¬ x1 = 0 →
  ¬ x1 = 0 ∧
  post (if ((st 3 0) / x1) < (9999 : Int32) then ((st 3 0) / x1) else (9999 : Int32)) st))
def wp_T_lasts_4 (post : Int32 → tSt → Prop) (k42 : Int32 → tSt → Prop) : Nat → Int32 → Int32 → tSt → Prop
  | 0 => fun _ _ _ => False
  | n + 1 => fun x1 x2 st =>
    (((st 0 0) ≤ x2 →
     k42 x1 st) ∧
     (¬ (st 0 0) ≤ x2 →
     vp_in x2 6 ∧
     (((st 11 x2.toNatClampNeg) = (2 : Int32) →
      wp_TownWord_number (2 : Int32) st (fun r2 st1 =>
       (∀ y1_3 : Int32, y1_3 = (x1 + r2) →
        (wp_T_lasts_36 post (wp_T_lasts_4 post k42 n) k42) y1_3 x2 st1))) ∧
      (¬ (st 11 x2.toNatClampNeg) = (2 : Int32) →
      (wp_T_lasts_36 post (wp_T_lasts_4 post k42 n) k42) x1 x2 st))))
def wp_T_lasts (st : tSt) (post : Int32 → tSt → Prop) : Prop :=
 (fun z0 z1 w => ∃ q4, wp_T_lasts_4 post (wp_T_lasts_42 post) q4 z0 z1 w) (0 : Int32) (0 : Int32) st
def wp_T_look (x1 : Int32) (x2 : Int32) (st : tSt) (post : Int32 → tSt → Prop) : Prop :=
 wp_T_isPiper x1 st (fun r2 st1 =>
  ((r2 = 0 →
   post (-1 : Int32) st1) ∧
   (¬ r2 = 0 →
   ((x2 = 0 →
    vp_in x1 6 ∧
    post (st1 9 x1.toNatClampNeg) st1) ∧
    (¬ x2 = 0 →
    ((x2 = 1 →
     vp_in x1 6 ∧
     post (st1 10 x1.toNatClampNeg) st1) ∧
     (¬ x2 = 1 →
     ((x2 = 2 →
      vp_in x1 6 ∧
      post (st1 11 x1.toNatClampNeg) st1) ∧
      (¬ x2 = 2 →
      ((x2 = 3 →
       wp_T_planOfToday st1 (fun st3 =>
        wp_Plan_partsOf x1 st3 (fun r5 st4 =>
         post r5 st4))) ∧
       (¬ x2 = 3 →
       post (-1 : Int32) st1)))))))))))
def wp_T_wages (x1 : Int32) (st : tSt) (post : Int32 → tSt → Prop) : Prop :=
 ((x1 = (-1 : Int32) →
  post (st 3 0) st) ∧
  (¬ x1 = (-1 : Int32) →
  wp_T_isPiper x1 st (fun r2 st1 =>
   ((r2 = 0 →
    post (0 : Int32) st1) ∧
    (¬ r2 = 0 →
    vp_in x1 6 ∧
    post (st1 12 x1.toNatClampNeg) st1)))))
def wp_T_about (x1 : Int32) (x2 : Int32) (st : tSt) (post : Int32 → tSt → Prop) : Prop :=
 wp_T_isCall x1 st (fun r2 st1 =>
  ((r2 = 0 →
   post (-1 : Int32) st1) ∧
   (¬ r2 = 0 →
   wp_T_within x2 (0 : Int32) (7 : Int32) st1 (fun r4 st3 =>
    ((r4 = 0 →
     post (-1 : Int32) st3) ∧
     (¬ r4 = 0 →
     vp_in x1 6 ∧
     wp_Call_fact x1.toNatClampNeg x2 st3 (fun r6 st5 =>
      post r6 st5)))))))
def wp_T_callCount_25 (post : Int32 → tSt → Prop) (k4 : Int32 → Int32 → tSt → Prop) (x1 : Int32) (x2 : Int32) (st : tSt) : Prop :=
 (∀ y2_1 : Int32, y2_1 = x2 + 1 →
  k4 x1 y2_1 st)
def wp_T_callCount_4 (post : Int32 → tSt → Prop) : Nat → Int32 → Int32 → tSt → Prop
  | 0 => fun _ _ _ => False
  | n + 1 => fun x1 x2 st =>
    (((6 : Int32) ≤ x2 →
     post x1 st) ∧
     (¬ (6 : Int32) ≤ x2 →
     vp_in x2 6 ∧
     (((st 13 x2.toNatClampNeg) = 0 →
      (wp_T_callCount_25 post (wp_T_callCount_4 post n)) x1 x2 st) ∧
      (¬ (st 13 x2.toNatClampNeg) = 0 →
      (∀ y1_1 : Int32, y1_1 = x1 + 1 →
       (wp_T_callCount_25 post (wp_T_callCount_4 post n)) y1_1 x2 st)))))
def wp_T_callCount (st : tSt) (post : Int32 → tSt → Prop) : Prop :=
 (fun z0 z1 w => ∃ q4, wp_T_callCount_4 post q4 z0 z1 w) (0 : Int32) (0 : Int32) st
def wp_T_count (x1 : Int32) (st : tSt) (post : Int32 → tSt → Prop) : Prop :=
 wp_T_within x1 (10 : Int32) (13 : Int32) st (fun r2 st1 =>
  ((r2 = 0 →
   wp_T_within x1 (20 : Int32) (24 : Int32) st1 (fun r4 st3 =>
    ((r4 = 0 →
     wp_T_within x1 (30 : Int32) (39 : Int32) st3 (fun r6 st5 =>
      ((r6 = 0 →
       ((x1 = 0 →
        post (st5 2 0) st5) ∧
        (¬ x1 = 0 →
        ((x1 = 1 →
         wp_T_monthOfToday st5 (fun r8 st7 =>
          post r8 st7)) ∧
         (¬ x1 = 1 →
         ((x1 = 2 →
          post (st5 0 0) st5) ∧
          (¬ x1 = 2 →
          ((x1 = 3 →
           wp_T_callCount st5 (fun r10 st9 =>
            post r10 st9)) ∧
           (¬ x1 = 3 →
           ((x1 = 4 →
            post (st5 1 0) st5) ∧
            (¬ x1 = 4 →
            ((x1 = 5 →
             wp_Tape_size st5 (fun r12 st11 =>
              post r12 st11)) ∧
             (¬ x1 = 5 →
             post (-1 : Int32) st5))))))))))))) ∧
       (¬ r6 = 0 →
       vp_in (x1 - (30 : Int32)) 10 ∧
       wp_Tune_dayHeard ((x1 - (30 : Int32)).toNatClampNeg) st5 (fun r14 st13 =>
        post r14 st13))))) ∧
     (¬ r4 = 0 →
     vp_in (x1 - (20 : Int32)) 5 ∧
     post (st3 23 (x1 - (20 : Int32)).toNatClampNeg) st3)))) ∧
   (¬ r2 = 0 →
   wp_TownWord_number (x1 - (10 : Int32)) st1 (fun r16 st15 =>
    post r16 st15))))
