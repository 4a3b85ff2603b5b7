def wp_M_lies (x0 : Int32) (x1 : Int32) (x2 : Int32) (st : tSt) (post : Int32 → tSt → Prop) : Prop :=
 ((x0 < x1 →
  post (0 : Int32) st) ∧
  (¬ x0 < x1 →
  ((x2 < x0 →
   post (0 : Int32) st) ∧
   (¬ x2 < x0 →
   post (1 : Int32) st))))
def wp_M_has (x0 : Int32) (x1 : Int32) (st : tSt) (post : Int32 → tSt → Prop) : Prop :=
 ((((x0 >>> (x1 &&& 31)) &&& (1 : Int32)) = (1 : Int32) →
  post (1 : Int32) st) ∧
  (¬ ((x0 >>> (x1 &&& 31)) &&& (1 : Int32)) = (1 : Int32) →
  post (0 : Int32) st))
def wp_M_push_3 (post : tSt → Prop) : Nat → Int32 → Int32 → tSt → Prop
  | 0 => fun _ _ _ => False
  | n + 1 => fun x1 x2 st =>
    ((x2 < 0 →
     post st) ∧
     (¬ x2 < 0 →
     vp_in (st 0 0) 40 ∧
     (∀ st1 : tSt, st1 = tUp st 9 (st 0 0).toNatClampNeg (vp_nar .byte ((x1 >>> (x2 &&& 31)).toInt8.toInt32)) →
      (∀ st2 : tSt, st2 = tUp st1 0 0 ((st1 0 0) + (1 : Int32)) →
       (∀ y2_3 : Int32, y2_3 = x2 + (-8) →
        (wp_M_push_3 post n) x1 y2_3 st2)))))
def wp_M_push (x1 : Int32) (st : tSt) (post : tSt → Prop) : Prop :=
 (fun z0 z1 w => ∃ q3, wp_M_push_3 post q3 z0 z1 w) x1 (24 : Int32) st
def wp_M_feed (x1 : Int32) (x2 : Int32) (x3 : Int32) (x4 : Int32) (x5 : Int32) (st : tSt) (post : Int32 → tSt → Prop) : Prop :=
 ((((st 0 0) + (20 : Int32)) ≤ (40 : Int32) →
  wp_M_push x1 st (fun st1 =>
   wp_M_push x2 st1 (fun st2 =>
    wp_M_push x3 st2 (fun st3 =>
     wp_M_push x4 st3 (fun st4 =>
      wp_M_push x5 st4 (fun st5 =>
       post (st5 0 0) st5)))))) ∧
  (¬ ((st 0 0) + (20 : Int32)) ≤ (40 : Int32) →
  post (-1 : Int32) st))
def wp_M_asAtFirst (j : Nat) (st : tSt) (post : tSt → Prop) : Prop :=
 (∀ st1 : tSt, st1 = tUp st (10 + j) 0 (1 : Int32) →
  (∀ st2 : tSt, st2 = tUp st1 (10 + j) 1 (10 : Int32) →
   (∀ st3 : tSt, st3 = tUp st2 (10 + j) 2 (100 : Int32) →
    (∀ st4 : tSt, st4 = tUp st3 (10 + j) 3 (50 : Int32) →
     post st4))))
def wp_M_letter (x0 : Int32) (st : tSt) (post : Int32 → tSt → Prop) : Prop :=
 ((x0 = (119 : Int32) →
  post (0 : Int32) st) ∧
  (¬ x0 = (119 : Int32) →
  ((x0 = (102 : Int32) →
   post (1 : Int32) st) ∧
   (¬ x0 = (102 : Int32) →
   ((x0 = (112 : Int32) →
    post (2 : Int32) st) ∧
    (¬ x0 = (112 : Int32) →
    ((x0 = (103 : Int32) →
     post (3 : Int32) st) ∧
     (¬ x0 = (103 : Int32) →
     post (-1 : Int32) st))))))))
def wp_M_canBe (x0 : Int32) (x1 : Int32) (st : tSt) (post : Int32 → tSt → Prop) : Prop :=
 ((x0 = 0 →
  (((20 : Int32) < x1 →
   post (0 : Int32) st) ∧
   (¬ (20 : Int32) < x1 →
   post (1 : Int32) st))) ∧
  (¬ x0 = 0 →
  ((x0 = (1 : Int32) →
   (((100 : Int32) < x1 →
    post (0 : Int32) st) ∧
    (¬ (100 : Int32) < x1 →
    post (1 : Int32) st))) ∧
   (¬ x0 = (1 : Int32) →
   post (1 : Int32) st))))
def wp_M_at (x1 : Int32) (x2 : Int32) (st : tSt) (post : Int32 → tSt → Prop) : Prop :=
 ((x2 ≤ x1 →
  post (0 : Int32) st) ∧
  (¬ x2 ≤ x1 →
  vp_in x1 40 ∧
  post ((st 9 x1.toNatClampNeg) &&& (255 : Int32)) st))
def wp_M_reads_122 (post : Int32 → tSt → Prop) (k11 : Int32 → Int32 → Int32 → tSt → Prop) (x1 : Int32) (x2 : Int32) (x3 : Int32) (x4 : Int32) (x5 : Int32) (x6 : Int32) (st : tSt) : Prop :=
 wp_M_canBe x4 x6 st (fun r2 st1 =>
  ((r2 = 0 →
   post ((400 : Int32) + x5) st1) ∧
   (¬ r2 = 0 →
   vp_in x4 4 ∧
   (∀ st3 : tSt, st3 = tUp st1 11 x4.toNatClampNeg x6 →
    ((x2 = x1 →
     post (0 : Int32) st3) ∧
     (¬ x2 = x1 →
     wp_M_at x2 x1 st3 (fun r5 st4 =>
      ((r5 = (59 : Int32) →
       (∀ y2_6 : Int32, y2_6 = x2 + 1 →
        (∀ y3_7 : Int32, y3_7 = x3 + 1 →
         k11 x1 y2_6 y3_7 st4))) ∧
       (¬ r5 = (59 : Int32) →
       post ((500 : Int32) + x2) st4)))))))))
def wp_M_reads_69 (post : Int32 → tSt → Prop) (k122 : Int32 → Int32 → Int32 → Int32 → Int32 → Int32 → tSt → Prop) : Nat → Int32 → Int32 → Int32 → Int32 → Int32 → Int32 → tSt → Prop
  | 0 => fun _ _ _ _ _ _ _ => False
  | n + 1 => fun x1 x2 x3 x4 x5 x6 st =>
    wp_M_at x2 x1 st (fun r2 st1 =>
     wp_M_lies r2 (48 : Int32) (57 : Int32) st1 (fun r4 st3 =>
      ((r4 = 0 →
       k122 x1 x2 x3 x4 x5 x6 st3) ∧
       (¬ r4 = 0 →
       ((x2 = (x5 + (4 : Int32)) →
        post ((300 : Int32) + x2) st3) ∧
        (¬ x2 = (x5 + (4 : Int32)) →
        wp_M_at x2 x1 st3 (fun r6 st5 =>
         (∀ y6_7 : Int32, y6_7 = ((((10 : Int32) * x6) + r6) - (48 : Int32)) →
          (∀ y2_8 : Int32, y2_8 = x2 + 1 →
           (wp_M_reads_69 post k122 n) x1 y2_8 x3 x4 x5 y6_7 st5)))))))))
def wp_M_reads_11 (post : Int32 → tSt → Prop) : Nat → Int32 → Int32 → Int32 → tSt → Prop
  | 0 => fun _ _ _ _ => False
  | n + 1 => fun x1 x2 x3 st =>
    ((x1 < x3 →
     post ((100 : Int32) + x2) st) ∧
     (¬ x1 < x3 →
     wp_M_at x2 x1 st (fun r2 st1 =>
      wp_M_letter r2 st1 (fun r4 st3 =>
       ((r4 = (-1 : Int32) →
        post ((100 : Int32) + x2) st3) ∧
        (¬ r4 = (-1 : Int32) →
        (∀ y2_5 : Int32, y2_5 = x2 + 1 →
         wp_M_at y2_5 x1 st3 (fun r7 st6 =>
          wp_M_lies r7 (48 : Int32) (57 : Int32) st6 (fun r9 st8 =>
           ((r9 = 0 →
            post ((200 : Int32) + y2_5) st8) ∧
            (¬ r9 = 0 →
            (fun z0 z1 z2 z3 z4 z5 w => ∃ q69, wp_M_reads_69 post (wp_M_reads_122 post (wp_M_reads_11 post n)) q69 z0 z1 z2 z3 z4 z5 w) x1 y2_5 x3 r4 y2_5 (0 : Int32) st8)))))))))))
def wp_M_reads (x1 : Int32) (st : tSt) (post : Int32 → tSt → Prop) : Prop :=
 wp_M_asAtFirst 1 st (fun st1 =>
  (fun z0 z1 z2 w => ∃ q11, wp_M_reads_11 post q11 z0 z1 z2 w) x1 (0 : Int32) (0 : Int32) st1)
def wp_M_word_27 (post : Int32 → tSt → Prop) : Nat → Int32 → Int32 → tSt → Prop
  | 0 => fun _ _ _ => False
  | n + 1 => fun x2 x3 st =>
    (((4 : Int32) ≤ x3 →
     post x2 st) ∧
     (¬ (4 : Int32) ≤ x3 →
     ((x2 = 0 →
      vp_in x3 4 ∧
      vp_in x3 4 ∧
      (∀ st1 : tSt, st1 = tUp st 10 x3.toNatClampNeg (st 11 x3.toNatClampNeg) →
       (∀ y3_2 : Int32, y3_2 = x3 + 1 →
        (wp_M_word_27 post n) x2 y3_2 st1))) ∧
      (¬ x2 = 0 →
      post x2 st))))
def wp_M_word (x1 : Int32) (st : tSt) (post : Int32 → tSt → Prop) : Prop :=
 ((x1 < 0 →
  post (-1 : Int32) st) ∧
  (¬ x1 < 0 →
  ((x1 ≤ (st 0 0) →
   (∀ st1 : tSt, st1 = tUp st 0 0 (0 : Int32) →
    wp_M_reads x1 st1 (fun r3 st2 =>
     (fun z0 z1 w => ∃ q27, wp_M_word_27 post q27 z0 z1 w) r3 (0 : Int32) st2))) ∧
   (¬ x1 ≤ (st 0 0) →
   post (-1 : Int32) st))))
def wp_M_isPiper (x1 : Int32) (st : tSt) (post : Int32 → tSt → Prop) : Prop :=
 wp_M_lies x1 (0 : Int32) ((st 2 0) - (1 : Int32)) st (fun r2 st1 =>
  (r2 = 0 ∨ r2 = 1) ∧
  post r2 st1)
def wp_M_piper (x1 : Int32) (x2 : Int32) (st : tSt) (post : Int32 → tSt → Prop) : Prop :=
 (((st 2 0) = (6 : Int32) →
  post (-1 : Int32) st) ∧
  (¬ (st 2 0) = (6 : Int32) →
  wp_M_lies x1 (1 : Int32) (9 : Int32) st (fun r2 st1 =>
   ((r2 = 0 →
    post (-1 : Int32) st1) ∧
    (¬ r2 = 0 →
    wp_M_lies x2 (1 : Int32) (31 : Int32) st1 (fun r4 st3 =>
     ((r4 = 0 →
      post (-1 : Int32) st3) ∧
      (¬ r4 = 0 →
      vp_in (st3 2 0) 6 ∧
      (∀ st5 : tSt, st5 = tUp st3 12 (st3 2 0).toNatClampNeg x1 →
       vp_in (st5 2 0) 6 ∧
       (∀ st6 : tSt, st6 = tUp st5 13 (st5 2 0).toNatClampNeg x2 →
        (∀ st7 : tSt, st7 = tUp st6 2 0 ((st6 2 0) + (1 : Int32)) →
         post ((st7 2 0) - (1 : Int32)) st7)))))))))))
def wp_M_ill_53 (post : Int32 → tSt → Prop) (s1 : Int32) (s2 : Int32) (st : tSt) : Prop :=
 vp_in s1 6 ∧
 (∀ st1 : tSt, st1 = tUp st 14 s1.toNatClampNeg s2 →
  post (1 : Int32) st1)
def wp_M_ill_33 (post : Int32 → tSt → Prop) (x1 : Int32) (x2 : Int32) (s0 : Int32) (st : tSt) : Prop :=
 ((s0 = x2 →
  post (0 : Int32) st) ∧
  (¬ s0 = x2 →
  ((x2 = 0 →
   (wp_M_ill_53 post) x1 (0 : Int32) st) ∧
   (¬ x2 = 0 →
   (wp_M_ill_53 post) x1 (1 : Int32) st))))
def wp_M_ill (x1 : Int32) (x2 : Int32) (st : tSt) (post : Int32 → tSt → Prop) : Prop :=
 wp_M_isPiper x1 st (fun r2 st1 =>
  ((r2 = 0 →
   post (0 : Int32) st1) ∧
   (¬ r2 = 0 →
   vp_in x1 6 ∧
   (((st1 14 x1.toNatClampNeg) = (2 : Int32) →
    post (0 : Int32) st1) ∧
    (¬ (st1 14 x1.toNatClampNeg) = (2 : Int32) →
    vp_in x1 6 ∧
    (((st1 14 x1.toNatClampNeg) = (1 : Int32) →
     (wp_M_ill_33 post) x1 x2 (1 : Int32) st1) ∧
     (¬ (st1 14 x1.toNatClampNeg) = (1 : Int32) →
     (wp_M_ill_33 post) x1 x2 (0 : Int32) st1)))))))
def wp_M_old (x1 : Int32) (st : tSt) (post : Int32 → tSt → Prop) : Prop :=
 wp_M_isPiper x1 st (fun r2 st1 =>
  ((r2 = 0 →
   post (0 : Int32) st1) ∧
   (¬ r2 = 0 →
   vp_in x1 6 ∧
   (((st1 14 x1.toNatClampNeg) = (2 : Int32) →
    post (0 : Int32) st1) ∧
    (¬ (st1 14 x1.toNatClampNeg) = (2 : Int32) →
    vp_in x1 6 ∧
    (∀ st3 : tSt, st3 = tUp st1 14 x1.toNatClampNeg (2 : Int32) →
     post (1 : Int32) st3))))))
def wp_M_pieces (x1 : Int32) (x2 : Int32) (st : tSt) (post : Int32 → tSt → Prop) : Prop :=
 wp_M_lies x1 (0 : Int32) (4 : Int32) st (fun r2 st1 =>
  ((r2 = 0 →
   post (0 : Int32) st1) ∧
   (¬ r2 = 0 →
   wp_M_lies x2 (0 : Int32) (3 : Int32) st1 (fun r4 st3 =>
    ((r4 = 0 →
     post (0 : Int32) st3) ∧
     (¬ r4 = 0 →
     vp_in x1 5 ∧
     (∀ st5 : tSt, st5 = tUp st3 16 x1.toNatClampNeg x2 →
      post (1 : Int32) st5)))))))
def wp_M_isInstrument (x0 : Int32) (st : tSt) (post : Int32 → tSt → Prop) : Prop :=
 wp_M_lies x0 (0 : Int32) (4 : Int32) st (fun r2 st1 =>
  (r2 = 0 ∨ r2 = 1) ∧
  post r2 st1)
def wp_M_isCall (x1 : Int32) (st : tSt) (post : Int32 → tSt → Prop) : Prop :=
 wp_M_lies x1 (0 : Int32) (5 : Int32) st (fun r2 st1 =>
  ((r2 = 0 →
   post (0 : Int32) st1) ∧
   (¬ r2 = 0 →
   vp_in ((8 : Int32) * x1) 48 ∧
   (((st1 17 ((8 : Int32) * x1).toNatClampNeg) = (-1 : Int32) →
    post (0 : Int32) st1) ∧
    (¬ (st1 17 ((8 : Int32) * x1).toNatClampNeg) = (-1 : Int32) →
    post (1 : Int32) st1)))))
def wp_M_of (x1 : Int32) (x2 : Int32) (st : tSt) (post : Int32 → tSt → Prop) : Prop :=
 vp_in (((8 : Int32) * x1) + x2) 48 ∧
 post (st 17 (((8 : Int32) * x1) + x2).toNatClampNeg) st
def wp_M_call_116 (post : Int32 → tSt → Prop) (x1 : Int32) (x2 : Int32) (x3 : Int32) (x4 : Int32) (x5 : Int32) (x6 : Int32) (x7 : Int32) (x8 : Int32) (x9 : Int32) (st : tSt) : Prop :=
 vp_in ((8 : Int32) * x9) 48 ∧
 (∀ st1 : tSt, st1 = tUp st 17 ((8 : Int32) * x9).toNatClampNeg x1 →
  vp_in (((8 : Int32) * x9) + (1 : Int32)) 48 ∧
  (∀ st2 : tSt, st2 = tUp st1 17 (((8 : Int32) * x9) + (1 : Int32)).toNatClampNeg x2 →
   vp_in (((8 : Int32) * x9) + (2 : Int32)) 48 ∧
   (∀ st3 : tSt, st3 = tUp st2 17 (((8 : Int32) * x9) + (2 : Int32)).toNatClampNeg x3 →
    vp_in (((8 : Int32) * x9) + (3 : Int32)) 48 ∧
    (∀ st4 : tSt, st4 = tUp st3 17 (((8 : Int32) * x9) + (3 : Int32)).toNatClampNeg x4 →
     vp_in (((8 : Int32) * x9) + (4 : Int32)) 48 ∧
     (∀ st5 : tSt, st5 = tUp st4 17 (((8 : Int32) * x9) + (4 : Int32)).toNatClampNeg x5 →
      vp_in (((8 : Int32) * x9) + (5 : Int32)) 48 ∧
      (∀ st6 : tSt, st6 = tUp st5 17 (((8 : Int32) * x9) + (5 : Int32)).toNatClampNeg x6 →
       vp_in (((8 : Int32) * x9) + (6 : Int32)) 48 ∧
       (∀ st7 : tSt, st7 = tUp st6 17 (((8 : Int32) * x9) + (6 : Int32)).toNatClampNeg x7 →
        vp_in (((8 : Int32) * x9) + (7 : Int32)) 48 ∧
        (∀ st8 : tSt, st8 = tUp st7 17 (((8 : Int32) * x9) + (7 : Int32)).toNatClampNeg x8 →
         post x9 st8))))))))
def wp_M_call_97 (post : Int32 → tSt → Prop) (k116 : Int32 → Int32 → Int32 → Int32 → Int32 → Int32 → Int32 → Int32 → Int32 → tSt → Prop) : Nat → Int32 → Int32 → Int32 → Int32 → Int32 → Int32 → Int32 → Int32 → Int32 → tSt → Prop
  | 0 => fun _ _ _ _ _ _ _ _ _ _ => False
  | n + 1 => fun x1 x2 x3 x4 x5 x6 x7 x8 x9 st =>
    (((6 : Int32) ≤ x9 →
     post (-1 : Int32) st) ∧
     (¬ (6 : Int32) ≤ x9 →
     wp_M_isCall x9 st (fun r2 st1 =>
      ((r2 = 0 →
       k116 x1 x2 x3 x4 x5 x6 x7 x8 x9 st1) ∧
       (¬ r2 = 0 →
       (∀ y9_3 : Int32, y9_3 = x9 + 1 →
        (wp_M_call_97 post k116 n) x1 x2 x3 x4 x5 x6 x7 x8 y9_3 st1))))))
def wp_M_call_80 (post : Int32 → tSt → Prop) (x1 : Int32) (x2 : Int32) (x3 : Int32) (x4 : Int32) (x5 : Int32) (x6 : Int32) (x7 : Int32) (x8 : Int32) (st : tSt) : Prop :=
 wp_M_lies x8 (0 : Int32) (9999 : Int32) st (fun r2 st1 =>
  ((r2 = 0 →
   post (-1 : Int32) st1) ∧
   (¬ r2 = 0 →
   (fun z0 z1 z2 z3 z4 z5 z6 z7 z8 w => ∃ q97, wp_M_call_97 post (wp_M_call_116 post) q97 z0 z1 z2 z3 z4 z5 z6 z7 z8 w) x1 x2 x3 x4 x5 x6 x7 x8 (0 : Int32) st1)))
def wp_M_call (x1 : Int32) (x2 : Int32) (x3 : Int32) (x4 : Int32) (x5 : Int32) (x6 : Int32) (x7 : Int32) (x8 : Int32) (st : tSt) (post : Int32 → tSt → Prop) : Prop :=
 wp_M_lies x1 (0 : Int32) (3 : Int32) st (fun r2 st1 =>
  ((r2 = 0 →
   post (-1 : Int32) st1) ∧
   (¬ r2 = 0 →
   wp_M_lies x2 (0 : Int32) (95 : Int32) st1 (fun r4 st3 =>
    ((r4 = 0 →
     post (-1 : Int32) st3) ∧
     (¬ r4 = 0 →
     wp_M_lies x3 (1 : Int32) (24 : Int32) st3 (fun r6 st5 =>
      ((r6 = 0 →
       post (-1 : Int32) st5) ∧
       (¬ r6 = 0 →
       (((96 : Int32) < (x2 + x3) →
        post (-1 : Int32) st5) ∧
        (¬ (96 : Int32) < (x2 + x3) →
        wp_M_lies x4 (0 : Int32) (9 : Int32) st5 (fun r8 st7 =>
         ((r8 = 0 →
          post (-1 : Int32) st7) ∧
          (¬ r8 = 0 →
          wp_M_lies x5 (0 : Int32) (5 : Int32) st7 (fun r10 st9 =>
           ((r10 = 0 →
            post (-1 : Int32) st9) ∧
            (¬ r10 = 0 →
            wp_M_isInstrument x6 st9 (fun r12 st11 =>
             ((r12 = 0 →
              post (-1 : Int32) st11) ∧
              (¬ r12 = 0 →
              ((x7 = (-1 : Int32) →
               (wp_M_call_80 post) x1 x2 x3 x4 x5 x6 x7 x8 st11) ∧
               (¬ x7 = (-1 : Int32) →
               wp_M_isInstrument x7 st11 (fun r14 st13 =>
                ((r14 = 0 →
                 post (-1 : Int32) st13) ∧
                 (¬ r14 = 0 →
                 (wp_M_call_80 post) x1 x2 x3 x4 x5 x6 x7 x8 st13)))))))))))))))))))))))))
def wp_M_off (x1 : Int32) (st : tSt) (post : Int32 → tSt → Prop) : Prop :=
 wp_M_isCall x1 st (fun r2 st1 =>
  ((r2 = 0 →
   post (0 : Int32) st1) ∧
   (¬ r2 = 0 →
   vp_in ((8 : Int32) * x1) 48 ∧
   (∀ st3 : tSt, st3 = tUp st1 17 ((8 : Int32) * x1).toNatClampNeg (-1 : Int32) →
    post (1 : Int32) st3))))
def wp_M_sorts_61 (post : tSt → Prop) (k14 : Int32 → Int32 → tSt → Prop) (k67 : Int32 → tSt → Prop) (x1 : Int32) (x2 : Int32) (st : tSt) : Prop :=
 (∀ y2_1 : Int32, y2_1 = x2 + 1 →
  k14 x1 y2_1 st)
def wp_M_sorts_67 (post : tSt → Prop) (k7 : Int32 → tSt → Prop) (x1 : Int32) (st : tSt) : Prop :=
 (∀ y1_1 : Int32, y1_1 = x1 + 1 →
  k7 y1_1 st)
def wp_M_sorts_14 (post : tSt → Prop) (k67 : Int32 → tSt → Prop) : Nat → Int32 → Int32 → tSt → Prop
  | 0 => fun _ _ _ => False
  | n + 1 => fun x1 x2 st =>
    (((6 : Int32) ≤ x2 →
     k67 x1 st) ∧
     (¬ (6 : Int32) ≤ x2 →
     wp_M_isCall x2 st (fun r2 st1 =>
      ((r2 = 0 →
       (wp_M_sorts_61 post (wp_M_sorts_14 post k67 n) k67) x1 x2 st1) ∧
       (¬ r2 = 0 →
       wp_M_of x2 (0 : Int32) st1 (fun r4 st3 =>
        ((r4 = x1 →
         vp_in (st3 6 0) 6 ∧
         (∀ st5 : tSt, st5 = tUp st3 22 (st3 6 0).toNatClampNeg x2 →
          (∀ st6 : tSt, st6 = tUp st5 6 0 ((st5 6 0) + (1 : Int32)) →
           (wp_M_sorts_61 post (wp_M_sorts_14 post k67 n) k67) x1 x2 st6))) ∧
         (¬ r4 = x1 →
         (wp_M_sorts_61 post (wp_M_sorts_14 post k67 n) k67) x1 x2 st3))))))))
def wp_M_sorts_7 (post : tSt → Prop) : Nat → Int32 → tSt → Prop
  | 0 => fun _ _ => False
  | n + 1 => fun x1 st =>
    (((4 : Int32) ≤ x1 →
     post st) ∧
     (¬ (4 : Int32) ≤ x1 →
     (fun z0 z1 w => ∃ q14, wp_M_sorts_14 post (wp_M_sorts_67 post (wp_M_sorts_7 post n)) q14 z0 z1 w) x1 (0 : Int32) st))
def wp_M_sorts (st : tSt) (post : tSt → Prop) : Prop :=
 (∀ st1 : tSt, st1 = tUp st 6 0 (0 : Int32) →
  (fun z0 w => ∃ q7, wp_M_sorts_7 post q7 z0 w) (0 : Int32) st1)
def wp_M_apart (x0 : Int32) (x1 : Int32) (st : tSt) (post : Int32 → tSt → Prop) : Prop :=
 ((x1 ≤ x0 →
  post (x0 - x1) st) ∧
  (¬ x1 ≤ x0 →
  post (x1 - x0) st))
def wp_M_goes_61 (post : Int32 → tSt → Prop) (x4 : Int32) (s0 : Int32) (st : tSt) : Prop :=
 wp_M_of s0 (1 : Int32) st (fun r2 st1 =>
  wp_M_of x4 (1 : Int32) st1 (fun r4 st3 =>
   wp_M_of x4 (2 : Int32) st3 (fun r6 st5 =>
    wp_M_of x4 (3 : Int32) st5 (fun r8 st7 =>
     wp_M_of s0 (3 : Int32) st7 (fun r10 st9 =>
      wp_M_apart r8 r10 st9 (fun r12 st11 =>
       ((r2 < ((r4 + r6) + ((st5 10 0) * r12)) →
        post (0 : Int32) st11) ∧
        (¬ r2 < ((r4 + r6) + ((st5 10 0) * r12)) →
        post (1 : Int32) st11))))))))
def wp_M_goes_50 (post : Int32 → tSt → Prop) (x1 : Int32) (x2 : Int32) (x3 : Int32) (s0 : Int32) (st : tSt) : Prop :=
 ((x3 = 0 →
  (wp_M_goes_61 post) s0 x1 st) ∧
  (¬ x3 = 0 →
  (wp_M_goes_61 post) s0 x2 st))
def wp_M_goes_40 (post : Int32 → tSt → Prop) (x1 : Int32) (x2 : Int32) (s0 : Int32) (st : tSt) : Prop :=
 ((s0 = 0 →
  (wp_M_goes_50 post) x1 x2 s0 x2 st) ∧
  (¬ s0 = 0 →
  (wp_M_goes_50 post) x1 x2 s0 x1 st))
def wp_M_goes_35 (post : Int32 → tSt → Prop) (x1 : Int32) (x2 : Int32) (st : tSt) : Prop :=
 (wp_M_goes_40 post) x1 x2 (1 : Int32) st
def wp_M_goes_39 (post : Int32 → tSt → Prop) (x1 : Int32) (x2 : Int32) (st : tSt) : Prop :=
 (wp_M_goes_40 post) x1 x2 (0 : Int32) st
def wp_M_goes (x1 : Int32) (x2 : Int32) (st : tSt) (post : Int32 → tSt → Prop) : Prop :=
 wp_M_of x1 (1 : Int32) st (fun r2 st1 =>
  wp_M_of x2 (1 : Int32) st1 (fun r4 st3 =>
   ((r2 < r4 →
    (wp_M_goes_35 post) x1 x2 st3) ∧
    (¬ r2 < r4 →
    wp_M_of x1 (1 : Int32) st3 (fun r6 st5 =>
     wp_M_of x2 (1 : Int32) st5 (fun r8 st7 =>
      ((r6 = r8 →
       ((x2 ≤ x1 →
        (wp_M_goes_39 post) x1 x2 st7) ∧
        (¬ x2 ≤ x1 →
        (wp_M_goes_35 post) x1 x2 st7))) ∧
       (¬ r6 = r8 →
       (wp_M_goes_39 post) x1 x2 st7))))))))
def wp_M_hasPieces_86 (post : Int32 → tSt → Prop) (k20 : Int32 → Int32 → Int32 → Int32 → tSt → Prop) (k94 : Int32 → Int32 → Int32 → tSt → Prop) (x1 : Int32) (x2 : Int32) (x4 : Int32) (s0 : Int32) (s1 : Int32) (st : tSt) : Prop :=
 (∀ y3_1 : Int32, y3_1 = (s0 + s1) →
  (∀ y4_2 : Int32, y4_2 = x4 + 1 →
   k20 x1 x2 y3_1 y4_2 st))
def wp_M_hasPieces_85 (post : Int32 → tSt → Prop) (k20 : Int32 → Int32 → Int32 → Int32 → tSt → Prop) (k94 : Int32 → Int32 → Int32 → tSt → Prop) (x1 : Int32) (x2 : Int32) (x4 : Int32) (s0 : Int32) (st : tSt) : Prop :=
 (wp_M_hasPieces_86 post k20 k94) x1 x2 x4 s0 (0 : Int32) st
def wp_M_hasPieces_94 (post : Int32 → tSt → Prop) (k9 : Int32 → Int32 → tSt → Prop) (k112 : Int32 → tSt → Prop) (x1 : Int32) (x2 : Int32) (x3 : Int32) (st : tSt) : Prop :=
 vp_in x1 5 ∧
 ((x3 ≤ (st 16 x1.toNatClampNeg) →
  (∀ y2_1 : Int32, y2_1 = x2 + 1 →
   k9 x1 y2_1 st)) ∧
  (¬ x3 ≤ (st 16 x1.toNatClampNeg) →
  post (0 : Int32) st))
def wp_M_hasPieces_20 (post : Int32 → tSt → Prop) (k94 : Int32 → Int32 → Int32 → tSt → Prop) : Nat → Int32 → Int32 → Int32 → Int32 → tSt → Prop
  | 0 => fun _ _ _ _ _ => False
  | n + 1 => fun x1 x2 x3 x4 st =>
    (((st 8 0) ≤ x4 →
     k94 x1 x2 x3 st) ∧
     (¬ (st 8 0) ≤ x4 →
     vp_in x4 12 ∧
     (∀ y5_1 : Int32, y5_1 = (st 23 x4.toNatClampNeg) →
      vp_in x4 12 ∧
      (((st 24 x4.toNatClampNeg) = x1 →
       wp_M_of y5_1 (1 : Int32) st (fun r3 st2 =>
        wp_M_of y5_1 (1 : Int32) st2 (fun r5 st4 =>
         wp_M_of y5_1 (2 : Int32) st4 (fun r7 st6 =>
          wp_M_lies x2 r3 ((r5 + r7) - (1 : Int32)) st6 (fun r9 st8 =>
           ((r9 = 0 →
            (wp_M_hasPieces_85 post (wp_M_hasPieces_20 post k94 n) k94) x1 x2 x4 x3 st8) ∧
            (¬ r9 = 0 →
            (wp_M_hasPieces_86 post (wp_M_hasPieces_20 post k94 n) k94) x1 x2 x4 x3 (1 : Int32) st8))))))) ∧
       (¬ (st 24 x4.toNatClampNeg) = x1 →
       (wp_M_hasPieces_85 post (wp_M_hasPieces_20 post k94 n) k94) x1 x2 x4 x3 st)))))
def wp_M_hasPieces_112 (post : Int32 → tSt → Prop) (k2 : Int32 → tSt → Prop) (x1 : Int32) (st : tSt) : Prop :=
 (∀ y1_1 : Int32, y1_1 = x1 + 1 →
  k2 y1_1 st)
def wp_M_hasPieces_9 (post : Int32 → tSt → Prop) (k112 : Int32 → tSt → Prop) : Nat → Int32 → Int32 → tSt → Prop
  | 0 => fun _ _ _ => False
  | n + 1 => fun x1 x2 st =>
    (((96 : Int32) ≤ x2 →
     k112 x1 st) ∧
     (¬ (96 : Int32) ≤ x2 →
     (fun z0 z1 z2 z3 w => ∃ q20, wp_M_hasPieces_20 post (wp_M_hasPieces_94 post (wp_M_hasPieces_9 post k112 n) k112) q20 z0 z1 z2 z3 w) x1 x2 (0 : Int32) (0 : Int32) st))
def wp_M_hasPieces_2 (post : Int32 → tSt → Prop) : Nat → Int32 → tSt → Prop
  | 0 => fun _ _ => False
  | n + 1 => fun x1 st =>
    (((5 : Int32) ≤ x1 →
     post (1 : Int32) st) ∧
     (¬ (5 : Int32) ≤ x1 →
     (fun z0 z1 w => ∃ q9, wp_M_hasPieces_9 post (wp_M_hasPieces_112 post (wp_M_hasPieces_2 post n)) q9 z0 z1 w) x1 (0 : Int32) st))
def wp_M_hasPieces (st : tSt) (post : Int32 → tSt → Prop) : Prop :=
 (fun z0 w => ∃ q2, wp_M_hasPieces_2 post q2 z0 w) (0 : Int32) st
def wp_M_lists_92 (post : tSt → Prop) (k24 : Int32 → Int32 → Int32 → tSt → Prop) (k98 : Int32 → tSt → Prop) (x1 : Int32) (x2 : Int32) (x3 : Int32) (st : tSt) : Prop :=
 (∀ y3_1 : Int32, y3_1 = x3 + 1 →
  k24 x1 x2 y3_1 st)
def wp_M_lists_98 (post : tSt → Prop) (k7 : Int32 → tSt → Prop) (x1 : Int32) (st : tSt) : Prop :=
 (∀ y1_1 : Int32, y1_1 = x1 + 1 →
  k7 y1_1 st)
def wp_M_lists_24 (post : tSt → Prop) (k98 : Int32 → tSt → Prop) : Nat → Int32 → Int32 → Int32 → tSt → Prop
  | 0 => fun _ _ _ _ => False
  | n + 1 => fun x1 x2 x3 st =>
    (((2 : Int32) ≤ x3 →
     k98 x1 st) ∧
     (¬ (2 : Int32) ≤ x3 →
     wp_M_has (st 7 0) x2 st (fun r2 st1 =>
      ((r2 = 0 →
       k98 x1 st1) ∧
       (¬ r2 = 0 →
       wp_M_of x2 ((5 : Int32) + x3) st1 (fun r4 st3 =>
        ((r4 = (-1 : Int32) →
         (wp_M_lists_92 post (wp_M_lists_24 post k98 n) k98) x1 x2 x3 st3) ∧
         (¬ r4 = (-1 : Int32) →
         vp_in (st3 8 0) 12 ∧
         (∀ st5 : tSt, st5 = tUp st3 23 (st3 8 0).toNatClampNeg x2 →
          wp_M_of x2 ((5 : Int32) + x3) st5 (fun r7 st6 =>
           vp_in (st5 8 0) 12 ∧
           (∀ st8 : tSt, st8 = tUp st6 24 (st5 8 0).toNatClampNeg r7 →
            (∀ st9 : tSt, st9 = tUp st8 8 0 ((st8 8 0) + (1 : Int32)) →
             (wp_M_lists_92 post (wp_M_lists_24 post k98 n) k98) x1 x2 x3 st9))))))))))))
def wp_M_lists_7 (post : tSt → Prop) : Nat → Int32 → tSt → Prop
  | 0 => fun _ _ => False
  | n + 1 => fun x1 st =>
    (((st 6 0) ≤ x1 →
     post st) ∧
     (¬ (st 6 0) ≤ x1 →
     vp_in x1 6 ∧
     (∀ y2_1 : Int32, y2_1 = (st 22 x1.toNatClampNeg) →
      (fun z0 z1 z2 w => ∃ q24, wp_M_lists_24 post (wp_M_lists_98 post (wp_M_lists_7 post n)) q24 z0 z1 z2 w) x1 y2_1 (0 : Int32) st)))
def wp_M_lists (st : tSt) (post : tSt → Prop) : Prop :=
 (∀ st1 : tSt, st1 = tUp st 8 0 (0 : Int32) →
  (fun z0 w => ∃ q7, wp_M_lists_7 post q7 z0 w) (0 : Int32) st1)
def wp_M_hinders_82 (post : Int32 → tSt → Prop) (k31 : Int32 → Int32 → Int32 → tSt → Prop) (x1 : Int32) (x2 : Int32) (x3 : Int32) (st : tSt) : Prop :=
 (∀ y3_1 : Int32, y3_1 = x3 + 1 →
  k31 x1 x2 y3_1 st)
def wp_M_hinders_31 (post : Int32 → tSt → Prop) : Nat → Int32 → Int32 → Int32 → tSt → Prop
  | 0 => fun _ _ _ _ => False
  | n + 1 => fun x1 x2 x3 st =>
    ((x1 ≤ x3 →
     post (-1 : Int32) st) ∧
     (¬ x1 ≤ x3 →
     vp_in x3 12 ∧
     (((st 25 x3.toNatClampNeg) = x2 →
      vp_in x3 12 ∧
      vp_in x1 12 ∧
      (((st 23 x3.toNatClampNeg) = (st 23 x1.toNatClampNeg) →
       post x3 st) ∧
       (¬ (st 23 x3.toNatClampNeg) = (st 23 x1.toNatClampNeg) →
       vp_in x3 12 ∧
       vp_in x1 12 ∧
       wp_M_goes (st 23 x3.toNatClampNeg) (st 23 x1.toNatClampNeg) st (fun r2 st1 =>
        ((r2 = 0 →
         post x3 st1) ∧
         (¬ r2 = 0 →
         (wp_M_hinders_82 post (wp_M_hinders_31 post n)) x1 x2 x3 st1)))))) ∧
      (¬ (st 25 x3.toNatClampNeg) = x2 →
      (wp_M_hinders_82 post (wp_M_hinders_31 post n)) x1 x2 x3 st))))
def wp_M_hinders (x1 : Int32) (x2 : Int32) (st : tSt) (post : Int32 → tSt → Prop) : Prop :=
 vp_in x2 6 ∧
 (((st 14 x2.toNatClampNeg) = 0 →
  vp_in x2 6 ∧
  vp_in x1 12 ∧
  wp_M_has (st 13 x2.toNatClampNeg) (st 24 x1.toNatClampNeg) st (fun r2 st1 =>
   ((r2 = 0 →
    post x1 st1) ∧
    (¬ r2 = 0 →
    (fun z0 z1 z2 w => ∃ q31, wp_M_hinders_31 post q31 z0 z1 z2 w) x1 x2 (0 : Int32) st1)))) ∧
  (¬ (st 14 x2.toNatClampNeg) = 0 →
  post x1 st))
def wp_M_takes_61 (post : Int32 → tSt → Prop) (k0 : Int32 → tSt → Prop) (x1 : Int32) (st : tSt) : Prop :=
 k0 x1 st
def wp_M_takes_0 (post : Int32 → tSt → Prop) : Nat → Int32 → tSt → Prop
  | 0 => fun _ _ => False
  | n + 1 => fun x1 st =>
    vp_in x1 12 ∧
    ((((st 2 0) - (1 : Int32)) ≤ (st 25 x1.toNatClampNeg) →
     post (0 : Int32) st) ∧
     (¬ ((st 2 0) - (1 : Int32)) ≤ (st 25 x1.toNatClampNeg) →
     vp_in x1 12 ∧
     vp_in x1 12 ∧
     (∀ st1 : tSt, st1 = tUp st 25 x1.toNatClampNeg ((st 25 x1.toNatClampNeg) + (1 : Int32)) →
      vp_in x1 12 ∧
      wp_M_hinders x1 (st1 25 x1.toNatClampNeg) st1 (fun r3 st2 =>
       ((r3 = (-1 : Int32) →
        post (1 : Int32) st2) ∧
        (¬ r3 = (-1 : Int32) →
        ((x1 ≤ r3 →
         (wp_M_takes_61 post (wp_M_takes_0 post n)) x1 st2) ∧
         (¬ x1 ≤ r3 →
         vp_in x1 12 ∧
         vp_in x1 12 ∧
         (∀ st4 : tSt, st4 = tUp st2 26 x1.toNatClampNeg ((st2 26 x1.toNatClampNeg) ||| ((1 : Int32) <<< (r3 &&& 31))) →
          (wp_M_takes_61 post (wp_M_takes_0 post n)) x1 st4)))))))))
def wp_M_takes (x1 : Int32) (st : tSt) (post : Int32 → tSt → Prop) : Prop :=
  ∃ n, wp_M_takes_0 post n x1 st
def wp_M_canBePlayed_111 (post : Int32 → tSt → Prop) (k88 : Int32 → Int32 → Int32 → tSt → Prop) (k118 : Int32 → Int32 → tSt → Prop) (x1 : Int32) (x3 : Int32) (s0 : Int32) (st : tSt) : Prop :=
 (∀ y3_1 : Int32, y3_1 = x3 + 1 →
  k88 x1 s0 y3_1 st)
def wp_M_canBePlayed_118 (post : Int32 → tSt → Prop) (k29 : Int32 → tSt → Prop) (x1 : Int32) (x2 : Int32) (st : tSt) : Prop :=
 vp_in x2 12 ∧
 vp_in x1 12 ∧
 vp_in x2 12 ∧
 (∀ st1 : tSt, st1 = tUp st 26 x2.toNatClampNeg ((st 26 x2.toNatClampNeg) ||| ((st 26 x1.toNatClampNeg) &&& (((1 : Int32) <<< (x2 &&& 31)) ^^^ (-1 : Int32)))) →
  k29 x2 st1)
def wp_M_canBePlayed_88 (post : Int32 → tSt → Prop) (k118 : Int32 → Int32 → tSt → Prop) : Nat → Int32 → Int32 → Int32 → tSt → Prop
  | 0 => fun _ _ _ _ => False
  | n + 1 => fun x1 x2 x3 st =>
    ((x1 ≤ x3 →
     k118 x1 x2 st) ∧
     (¬ x1 ≤ x3 →
     vp_in x1 12 ∧
     wp_M_has (st 26 x1.toNatClampNeg) x3 st (fun r2 st1 =>
      ((r2 = 0 →
       (wp_M_canBePlayed_111 post (wp_M_canBePlayed_88 post k118 n) k118) x1 x3 x2 st1) ∧
       (¬ r2 = 0 →
       (wp_M_canBePlayed_111 post (wp_M_canBePlayed_88 post k118 n) k118) x1 x3 x3 st1)))))
def wp_M_canBePlayed_29 (post : Int32 → tSt → Prop) : Nat → Int32 → tSt → Prop
  | 0 => fun _ _ => False
  | n + 1 => fun x1 st =>
    (((st 8 0) ≤ x1 →
     post (1 : Int32) st) ∧
     (¬ (st 8 0) ≤ x1 →
     wp_M_takes x1 st (fun r2 st1 =>
      ((r2 = 0 →
       vp_in x1 12 ∧
       (((st1 26 x1.toNatClampNeg) = 0 →
        post (0 : Int32) st1) ∧
        (¬ (st1 26 x1.toNatClampNeg) = 0 →
        (fun z0 z1 z2 w => ∃ q88, wp_M_canBePlayed_88 post (wp_M_canBePlayed_118 post (wp_M_canBePlayed_29 post n)) q88 z0 z1 z2 w) x1 (0 : Int32) (0 : Int32) st1))) ∧
       (¬ r2 = 0 →
       (∀ y1_3 : Int32, y1_3 = x1 + 1 →
        (((st1 8 0) ≤ y1_3 →
         (wp_M_canBePlayed_29 post n) y1_3 st1) ∧
         (¬ (st1 8 0) ≤ y1_3 →
         vp_in y1_3 12 ∧
         (∀ st4 : tSt, st4 = tUp st1 25 y1_3.toNatClampNeg (-1 : Int32) →
          vp_in y1_3 12 ∧
          (∀ st5 : tSt, st5 = tUp st4 26 y1_3.toNatClampNeg (0 : Int32) →
           (wp_M_canBePlayed_29 post n) y1_3 st5))))))))))
def wp_M_canBePlayed (st : tSt) (post : Int32 → tSt → Prop) : Prop :=
 wp_M_lists st (fun st1 =>
  wp_M_hasPieces st1 (fun r3 st2 =>
   ((r3 = 0 →
    post (0 : Int32) st2) ∧
    (¬ r3 = 0 →
    (∀ st4 : tSt, st4 = tUp st2 25 0 (-1 : Int32) →
     (∀ st5 : tSt, st5 = tUp st4 26 0 (0 : Int32) →
      (fun z0 w => ∃ q29, wp_M_canBePlayed_29 post q29 z0 w) (0 : Int32) st5))))))
def wp_M_works_62 (post : Int32 → tSt → Prop) (k11 : Int32 → tSt → Prop) (k68 : tSt → Prop) (x1 : Int32) (st : tSt) : Prop :=
 (∀ y1_1 : Int32, y1_1 = x1 + 1 →
  k11 y1_1 st)
def wp_M_works_68 (post : Int32 → tSt → Prop) (st : tSt) : Prop :=
 wp_M_canBePlayed st (fun r2 st1 =>
  post (st1 7 0) st1)
def wp_M_works_11 (post : Int32 → tSt → Prop) (k68 : tSt → Prop) : Nat → Int32 → tSt → Prop
  | 0 => fun _ _ => False
  | n + 1 => fun x1 st =>
    (((st 6 0) ≤ x1 →
     k68 st) ∧
     (¬ (st 6 0) ≤ x1 →
     vp_in x1 6 ∧
     (∀ st1 : tSt, st1 = tUp st 7 0 ((st 7 0) ||| ((1 : Int32) <<< ((st 22 x1.toNatClampNeg) &&& 31))) →
      wp_M_canBePlayed st1 (fun r3 st2 =>
       ((r3 = 0 →
        vp_in x1 6 ∧
        (∀ st4 : tSt, st4 = tUp st2 7 0 ((st2 7 0) &&& (((1 : Int32) <<< ((st2 22 x1.toNatClampNeg) &&& 31)) ^^^ (-1 : Int32))) →
         (wp_M_works_62 post (wp_M_works_11 post k68 n) k68) x1 st4)) ∧
        (¬ r3 = 0 →
        (wp_M_works_62 post (wp_M_works_11 post k68 n) k68) x1 st2))))))
def wp_M_works (st : tSt) (post : Int32 → tSt → Prop) : Prop :=
 wp_M_sorts st (fun st1 =>
  (∀ st2 : tSt, st2 = tUp st1 7 0 (0 : Int32) →
   (fun z0 w => ∃ q11, wp_M_works_11 post (wp_M_works_68 post) q11 z0 w) (0 : Int32) st2))
def wp_M_played (st : tSt) (post : Int32 → tSt → Prop) : Prop :=
 wp_M_works st (fun r2 st1 =>
  post r2 st1)
def wp_M_whoHas_44 (post : Int32 → tSt → Prop) (k5 : Int32 → Int32 → Int32 → Int32 → tSt → Prop) (x1 : Int32) (x2 : Int32) (x3 : Int32) (x4 : Int32) (st : tSt) : Prop :=
 (∀ y4_1 : Int32, y4_1 = x4 + 1 →
  k5 x1 x2 x3 y4_1 st)
def wp_M_whoHas_5 (post : Int32 → tSt → Prop) : Nat → Int32 → Int32 → Int32 → Int32 → tSt → Prop
  | 0 => fun _ _ _ _ _ => False
  | n + 1 => fun x1 x2 x3 x4 st =>
    (((st 8 0) ≤ x4 →
     post (-1 : Int32) st) ∧
     (¬ (st 8 0) ≤ x4 →
     vp_in x4 12 ∧
     (((st 23 x4.toNatClampNeg) = x1 →
      ((x3 = x2 →
       vp_in x4 12 ∧
       post (st 25 x4.toNatClampNeg) st) ∧
       (¬ x3 = x2 →
       (∀ y3_1 : Int32, y3_1 = x3 + 1 →
        (wp_M_whoHas_44 post (wp_M_whoHas_5 post n)) x1 x2 y3_1 x4 st)))) ∧
      (¬ (st 23 x4.toNatClampNeg) = x1 →
      (wp_M_whoHas_44 post (wp_M_whoHas_5 post n)) x1 x2 x3 x4 st))))
def wp_M_whoHas (x1 : Int32) (x2 : Int32) (st : tSt) (post : Int32 → tSt → Prop) : Prop :=
 (fun z0 z1 z2 z3 w => ∃ q5, wp_M_whoHas_5 post q5 z0 z1 z2 z3 w) x1 x2 (0 : Int32) (0 : Int32) st
def wp_M_who (x1 : Int32) (x2 : Int32) (st : tSt) (post : Int32 → tSt → Prop) : Prop :=
 wp_M_isCall x1 st (fun r2 st1 =>
  ((r2 = 0 →
   post (-1 : Int32) st1) ∧
   (¬ r2 = 0 →
   wp_M_lies x2 (0 : Int32) (1 : Int32) st1 (fun r4 st3 =>
    ((r4 = 0 →
     post (-1 : Int32) st3) ∧
     (¬ r4 = 0 →
     wp_M_works st3 (fun r6 st5 =>
      wp_M_has r6 x1 st5 (fun r8 st7 =>
       ((r8 = 0 →
        post (-1 : Int32) st7) ∧
        (¬ r8 = 0 →
        wp_M_whoHas x1 x2 st7 (fun r10 st9 =>
         post r10 st9)))))))))))
def wp_M_tune (x1 : Int32) (x2 : Int32) (st : tSt) (post : Int32 → tSt → Prop) : Prop :=
 (((st 3 0) = (10 : Int32) →
  post (-1 : Int32) st) ∧
  (¬ (st 3 0) = (10 : Int32) →
  wp_M_lies x1 (0 : Int32) (63 : Int32) st (fun r2 st1 =>
   ((r2 = 0 →
    post (-1 : Int32) st1) ∧
    (¬ r2 = 0 →
    wp_M_lies x2 (0 : Int32) (4095 : Int32) st1 (fun r4 st3 =>
     ((r4 = 0 →
      post (-1 : Int32) st3) ∧
      (¬ r4 = 0 →
      vp_in (st3 3 0) 10 ∧
      (∀ st5 : tSt, st5 = tUp st3 18 (st3 3 0).toNatClampNeg x1 →
       vp_in (st5 3 0) 10 ∧
       (∀ st6 : tSt, st6 = tUp st5 19 (st5 3 0).toNatClampNeg x2 →
        vp_in (st6 3 0) 10 ∧
        (∀ st7 : tSt, st7 = tUp st6 20 (st6 3 0).toNatClampNeg (-1 : Int32) →
         vp_in (st7 3 0) 10 ∧
         (∀ st8 : tSt, st8 = tUp st7 21 (st7 3 0).toNatClampNeg (0 : Int32) →
          (∀ st9 : tSt, st9 = tUp st8 3 0 ((st8 3 0) + (1 : Int32)) →
           post ((st9 3 0) - (1 : Int32)) st9)))))))))))))
def wp_M_month (st : tSt) (post : Int32 → tSt → Prop) : Prop :=
 post (((st 1 0) / (30 : Int32)) - ((st 1 0) / (30 : Int32)) / (12 : Int32) * (12 : Int32)) st
def wp_M_tunesOf_206 (post : tSt → Prop) (k40 : Int32 → Int32 → Int32 → tSt → Prop) (x1 : Int32) (x2 : Int32) (x3 : Int32) (st : tSt) : Prop :=
 (∀ y3_1 : Int32, y3_1 = x3 + 1 →
  k40 x1 x2 y3_1 st)
def wp_M_tunesOf_170 (post : tSt → Prop) (k79 : Int32 → Int32 → Int32 → Int32 → Int32 → tSt → Prop) (k176 : Int32 → Int32 → Int32 → Int32 → tSt → Prop) (x1 : Int32) (x2 : Int32) (x3 : Int32) (x4 : Int32) (x5 : Int32) (st : tSt) : Prop :=
 (∀ y5_1 : Int32, y5_1 = x5 + 1 →
  k79 x1 x2 x3 x4 y5_1 st)
def wp_M_tunesOf_161 (post : tSt → Prop) (k79 : Int32 → Int32 → Int32 → Int32 → Int32 → tSt → Prop) (k176 : Int32 → Int32 → Int32 → Int32 → tSt → Prop) (x1 : Int32) (x2 : Int32) (x3 : Int32) (x4 : Int32) (x5 : Int32) (st : tSt) : Prop :=
 vp_in x4 6 ∧
 (∀ st1 : tSt, st1 = tUp st 27 x4.toNatClampNeg x5 →
  (wp_M_tunesOf_170 post k79 k176) x1 x2 x3 x4 x5 st1)
def wp_M_tunesOf_176 (post : tSt → Prop) (k40 : Int32 → Int32 → Int32 → tSt → Prop) (x1 : Int32) (x2 : Int32) (x3 : Int32) (x4 : Int32) (st : tSt) : Prop :=
 vp_in x4 6 ∧
 (((st 27 x4.toNatClampNeg) = (-1 : Int32) →
  (wp_M_tunesOf_206 post k40) x1 x2 x3 st) ∧
  (¬ (st 27 x4.toNatClampNeg) = (-1 : Int32) →
  (∀ y2_1 : Int32, y2_1 = x2 + 1 →
   vp_in x4 6 ∧
   vp_in (st 27 x4.toNatClampNeg) 10 ∧
   (∀ st2 : tSt, st2 = tUp st 28 (st 27 x4.toNatClampNeg).toNatClampNeg y2_1 →
    (wp_M_tunesOf_206 post k40) x1 y2_1 x3 st2))))
def wp_M_tunesOf_79 (post : tSt → Prop) (k176 : Int32 → Int32 → Int32 → Int32 → tSt → Prop) : Nat → Int32 → Int32 → Int32 → Int32 → Int32 → tSt → Prop
  | 0 => fun _ _ _ _ _ _ => False
  | n + 1 => fun x1 x2 x3 x4 x5 st =>
    (((st 3 0) ≤ x5 →
     k176 x1 x2 x3 x4 st) ∧
     (¬ (st 3 0) ≤ x5 →
     vp_in x5 10 ∧
     wp_M_of x4 (4 : Int32) st (fun r2 st1 =>
      wp_M_has (st 18 x5.toNatClampNeg) r2 st1 (fun r4 st3 =>
       ((r4 = 0 →
        (wp_M_tunesOf_170 post (wp_M_tunesOf_79 post k176 n) k176) x1 x2 x3 x4 x5 st3) ∧
        (¬ r4 = 0 →
        vp_in x5 10 ∧
        wp_M_month st3 (fun r6 st5 =>
         wp_M_has (st3 19 x5.toNatClampNeg) r6 st5 (fun r8 st7 =>
          ((r8 = 0 →
           (wp_M_tunesOf_170 post (wp_M_tunesOf_79 post k176 n) k176) x1 x2 x3 x4 x5 st7) ∧
           (¬ r8 = 0 →
           vp_in x4 6 ∧
           (((st7 27 x4.toNatClampNeg) = (-1 : Int32) →
            (wp_M_tunesOf_161 post (wp_M_tunesOf_79 post k176 n) k176) x1 x2 x3 x4 x5 st7) ∧
            (¬ (st7 27 x4.toNatClampNeg) = (-1 : Int32) →
            vp_in x5 10 ∧
            vp_in x4 6 ∧
            vp_in (st7 27 x4.toNatClampNeg) 10 ∧
            (((st7 28 (st7 27 x4.toNatClampNeg).toNatClampNeg) ≤ (st7 28 x5.toNatClampNeg) →
             (wp_M_tunesOf_170 post (wp_M_tunesOf_79 post k176 n) k176) x1 x2 x3 x4 x5 st7) ∧
             (¬ (st7 28 (st7 27 x4.toNatClampNeg).toNatClampNeg) ≤ (st7 28 x5.toNatClampNeg) →
             (wp_M_tunesOf_161 post (wp_M_tunesOf_79 post k176 n) k176) x1 x2 x3 x4 x5 st7))))))))))))))
def wp_M_tunesOf_40 (post : tSt → Prop) : Nat → Int32 → Int32 → Int32 → tSt → Prop
  | 0 => fun _ _ _ _ => False
  | n + 1 => fun x1 x2 x3 st =>
    (((st 6 0) ≤ x3 →
     post st) ∧
     (¬ (st 6 0) ≤ x3 →
     vp_in x3 6 ∧
     (∀ y4_1 : Int32, y4_1 = (st 22 x3.toNatClampNeg) →
      vp_in y4_1 6 ∧
      (∀ st2 : tSt, st2 = tUp st 27 y4_1.toNatClampNeg (-1 : Int32) →
       wp_M_has x1 y4_1 st2 (fun r4 st3 =>
        ((r4 = 0 →
         (wp_M_tunesOf_206 post (wp_M_tunesOf_40 post n)) x1 x2 x3 st3) ∧
         (¬ r4 = 0 →
         (fun z0 z1 z2 z3 z4 w => ∃ q79, wp_M_tunesOf_79 post (wp_M_tunesOf_176 post (wp_M_tunesOf_40 post n)) q79 z0 z1 z2 z3 z4 w) x1 x2 x3 y4_1 (0 : Int32) st3)))))))
def wp_M_tunesOf_38 (post : tSt → Prop) (x1 : Int32) (x2 : Int32) (st : tSt) : Prop :=
 (fun z0 z1 z2 w => ∃ q40, wp_M_tunesOf_40 post q40 z0 z1 z2 w) x1 x2 (0 : Int32) st
def wp_M_tunesOf_12 (post : tSt → Prop) (k38 : Int32 → Int32 → tSt → Prop) : Nat → Int32 → Int32 → Int32 → tSt → Prop
  | 0 => fun _ _ _ _ => False
  | n + 1 => fun x1 x2 x3 st =>
    (((st 3 0) ≤ x3 →
     k38 x1 x2 st) ∧
     (¬ (st 3 0) ≤ x3 →
     vp_in x3 10 ∧
     vp_in x3 10 ∧
     (∀ st1 : tSt, st1 = tUp st 28 x3.toNatClampNeg (st 21 x3.toNatClampNeg) →
      (∀ y3_2 : Int32, y3_2 = x3 + 1 →
       (wp_M_tunesOf_12 post k38 n) x1 x2 y3_2 st1))))
def wp_M_tunesOf (st : tSt) (post : tSt → Prop) : Prop :=
 wp_M_works st (fun r2 st1 =>
  (∀ y2_3 : Int32, y2_3 = (st1 5 0) →
   (fun z0 z1 z2 w => ∃ q12, wp_M_tunesOf_12 post (wp_M_tunesOf_38 post) q12 z0 z1 z2 w) r2 y2_3 (0 : Int32) st1))
def wp_M_heard (x1 : Int32) (st : tSt) (post : Int32 → tSt → Prop) : Prop :=
 wp_M_isCall x1 st (fun r2 st1 =>
  ((r2 = 0 →
   post (-1 : Int32) st1) ∧
   (¬ r2 = 0 →
   wp_M_tunesOf st1 (fun st3 =>
    vp_in x1 6 ∧
    post (st3 27 x1.toNatClampNeg) st3))))
def wp_M_fundOf (x1 : Int32) (st : tSt) (post : Int32 → tSt → Prop) : Prop :=
 wp_M_of x1 (7 : Int32) st (fun r2 st1 =>
  post ((r2 * (st1 10 1)) / (100 : Int32)) st1)
def wp_M_shareOf_79 (post : Int32 → tSt → Prop) (x2 : Int32) (x5 : Int32) (x6 : Int32) (s0 : Int32) (st : tSt) : Prop :=
 vp_in x2 6 ∧
 ¬ x6 = 0 ∧
 (∀ y8_1 : Int32, y8_1 = ((x5 * (st 12 x2.toNatClampNeg)) / x6) →
  vp_in s0 6 ∧
  ¬ x6 = 0 ∧
  (∀ y9_2 : Int32, y9_2 = ((x5 - y8_1) - ((x5 * (st 12 s0.toNatClampNeg)) / x6)) →
   vp_in x2 6 ∧
   ¬ x6 = 0 ∧
   (∀ y10_3 : Int32, y10_3 = ((x5 * (st 12 x2.toNatClampNeg)) - (x5 * (st 12 x2.toNatClampNeg)) / x6 * x6) →
    vp_in s0 6 ∧
    ¬ x6 = 0 ∧
    (∀ y11_4 : Int32, y11_4 = ((x5 * (st 12 s0.toNatClampNeg)) - (x5 * (st 12 s0.toNatClampNeg)) / x6 * x6) →
     ((y11_4 < y10_3 →
      post (y8_1 + y9_2) st) ∧
      (¬ y11_4 < y10_3 →
      ((y10_3 = y11_4 →
       ((s0 ≤ x2 →
        post (y8_1 + (0 : Int32)) st) ∧
        (¬ s0 ≤ x2 →
        post (y8_1 + y9_2) st))) ∧
       (¬ y10_3 = y11_4 →
       post (y8_1 + (0 : Int32)) st))))))))
def wp_M_shareOf_43 (post : Int32 → tSt → Prop) (x2 : Int32) (x3 : Int32) (x4 : Int32) (x5 : Int32) (st : tSt) : Prop :=
 ((x4 = (-1 : Int32) →
  post x5 st) ∧
  (¬ x4 = (-1 : Int32) →
  vp_in x3 6 ∧
  vp_in x4 6 ∧
  (∀ y6_1 : Int32, y6_1 = ((st 12 x3.toNatClampNeg) + (st 12 x4.toNatClampNeg)) →
   ((x2 = x3 →
    (wp_M_shareOf_79 post) x2 x5 y6_1 x4 st) ∧
    (¬ x2 = x3 →
    (wp_M_shareOf_79 post) x2 x5 y6_1 x3 st)))))
def wp_M_shareOf (x1 : Int32) (x2 : Int32) (st : tSt) (post : Int32 → tSt → Prop) : Prop :=
 wp_M_whoHas x1 (0 : Int32) st (fun r2 st1 =>
  wp_M_whoHas x1 (1 : Int32) st1 (fun r4 st3 =>
   wp_M_of x1 (7 : Int32) st3 (fun r6 st5 =>
    wp_M_fundOf x1 st5 (fun r8 st7 =>
     (∀ y5_9 : Int32, y5_9 = (r6 - r8) →
      ((x2 = r2 →
       (wp_M_shareOf_43 post) x2 r2 r4 y5_9 st7) ∧
       (¬ x2 = r2 →
       ((x2 = r4 →
        (wp_M_shareOf_43 post) x2 r2 r4 y5_9 st7) ∧
        (¬ x2 = r4 →
        post (0 : Int32) st7)))))))))
def wp_M_share_21 (post : Int32 → tSt → Prop) (x1 : Int32) (x2 : Int32) (st : tSt) : Prop :=
 wp_M_works st (fun r2 st1 =>
  wp_M_has r2 x1 st1 (fun r4 st3 =>
   ((r4 = 0 →
    post (-1 : Int32) st3) ∧
    (¬ r4 = 0 →
    ((x2 = (-1 : Int32) →
     wp_M_fundOf x1 st3 (fun r8 st7 =>
      post r8 st7)) ∧
     (¬ x2 = (-1 : Int32) →
     wp_M_shareOf x1 x2 st3 (fun r6 st5 =>
      post r6 st5)))))))
def wp_M_share (x1 : Int32) (x2 : Int32) (st : tSt) (post : Int32 → tSt → Prop) : Prop :=
 wp_M_isCall x1 st (fun r2 st1 =>
  ((r2 = 0 →
   post (-1 : Int32) st1) ∧
   (¬ r2 = 0 →
   ((x2 = (-1 : Int32) →
    (wp_M_share_21 post) x1 x2 st1) ∧
    (¬ x2 = (-1 : Int32) →
    wp_M_isPiper x2 st1 (fun r4 st3 =>
     ((r4 = 0 →
      post (-1 : Int32) st3) ∧
      (¬ r4 = 0 →
      (wp_M_share_21 post) x1 x2 st3))))))))
def wp_M_fines_52 (post : tSt → Prop) (k2 : Int32 → tSt → Prop) (x1 : Int32) (st : tSt) : Prop :=
 (∀ y1_1 : Int32, y1_1 = x1 + 1 →
  k2 y1_1 st)
def wp_M_fines_2 (post : tSt → Prop) : Nat → Int32 → tSt → Prop
  | 0 => fun _ _ => False
  | n + 1 => fun x1 st =>
    (((st 2 0) ≤ x1 →
     post st) ∧
     (¬ (st 2 0) ≤ x1 →
     vp_in x1 6 ∧
     (((st 14 x1.toNatClampNeg) = 0 →
      vp_in x1 6 ∧
      vp_in x1 6 ∧
      (∀ st1 : tSt, st1 = tUp st 15 x1.toNatClampNeg ((st 15 x1.toNatClampNeg) - (st 10 3)) →
       (∀ st2 : tSt, st2 = tUp st1 4 0 ((st1 4 0) + (st1 10 3)) →
        (wp_M_fines_52 post (wp_M_fines_2 post n)) x1 st2))) ∧
      (¬ (st 14 x1.toNatClampNeg) = 0 →
      (wp_M_fines_52 post (wp_M_fines_2 post n)) x1 st))))
def wp_M_fines (st : tSt) (post : tSt → Prop) : Prop :=
 (fun z0 w => ∃ q2, wp_M_fines_2 post q2 z0 w) (0 : Int32) st
def wp_M_day_158 (post : Int32 → tSt → Prop) (k18 : Int32 → tSt → Prop) (k164 : tSt → Prop) (x1 : Int32) (st : tSt) : Prop :=
 (∀ y1_1 : Int32, y1_1 = x1 + 1 →
  k18 y1_1 st)
def wp_M_day_105 (post : Int32 → tSt → Prop) (k18 : Int32 → tSt → Prop) (k164 : tSt → Prop) (x1 : Int32) (x2 : Int32) (st : tSt) : Prop :=
 vp_in x2 6 ∧
 (((st 27 x2.toNatClampNeg) = (-1 : Int32) →
  (wp_M_day_158 post k18 k164) x1 st) ∧
  (¬ (st 27 x2.toNatClampNeg) = (-1 : Int32) →
  (∀ st1 : tSt, st1 = tUp st 5 0 ((st 5 0) + (1 : Int32)) →
   vp_in x2 6 ∧
   vp_in (st1 27 x2.toNatClampNeg) 10 ∧
   (∀ st2 : tSt, st2 = tUp st1 21 (st1 27 x2.toNatClampNeg).toNatClampNeg (st1 5 0) →
    vp_in x2 6 ∧
    vp_in (st2 27 x2.toNatClampNeg) 10 ∧
    (∀ st3 : tSt, st3 = tUp st2 20 (st2 27 x2.toNatClampNeg).toNatClampNeg (st2 1 0) →
     (wp_M_day_158 post k18 k164) x1 st3)))))
def wp_M_day_89 (post : Int32 → tSt → Prop) (k18 : Int32 → tSt → Prop) (k164 : tSt → Prop) (x1 : Int32) (x2 : Int32) (st : tSt) : Prop :=
 (wp_M_day_105 post k18 k164) x1 x2 st
def wp_M_day_60 (post : Int32 → tSt → Prop) (k89 : Int32 → Int32 → tSt → Prop) : Nat → Int32 → Int32 → Int32 → tSt → Prop
  | 0 => fun _ _ _ _ => False
  | n + 1 => fun x1 x2 x3 st =>
    (((st 2 0) ≤ x3 →
     k89 x1 x2 st) ∧
     (¬ (st 2 0) ≤ x3 →
     vp_in x3 6 ∧
     wp_M_shareOf x2 x3 st (fun r2 st1 =>
      vp_in x3 6 ∧
      (∀ st3 : tSt, st3 = tUp st1 15 x3.toNatClampNeg ((st 15 x3.toNatClampNeg) + r2) →
       (∀ y3_4 : Int32, y3_4 = x3 + 1 →
        (wp_M_day_60 post k89 n) x1 x2 y3_4 st3)))))
def wp_M_day_279 (post : Int32 → tSt → Prop) (k200 : Int32 → tSt → Prop) (x1 : Int32) (st : tSt) : Prop :=
 (∀ y1_1 : Int32, y1_1 = x1 + 1 →
  k200 y1_1 st)
def wp_M_day_258 (post : Int32 → tSt → Prop) (k200 : Int32 → tSt → Prop) (x1 : Int32) (s0 : Int32) (st : tSt) : Prop :=
 vp_in x1 6 ∧
 vp_in x1 6 ∧
 (∀ st1 : tSt, st1 = tUp st 15 x1.toNatClampNeg ((st 15 x1.toNatClampNeg) + s0) →
  (∀ st2 : tSt, st2 = tUp st1 4 0 ((st1 4 0) - s0) →
   (wp_M_day_279 post k200) x1 st2))
def wp_M_day_200 (post : Int32 → tSt → Prop) : Nat → Int32 → tSt → Prop
  | 0 => fun _ _ => False
  | n + 1 => fun x1 st =>
    (((st 2 0) ≤ x1 →
     post (st 1 0) st) ∧
     (¬ (st 2 0) ≤ x1 →
     ((((st 1 0) - (st 1 0) / (360 : Int32) * (360 : Int32)) = 0 →
      vp_in x1 6 ∧
      (((st 14 x1.toNatClampNeg) = (2 : Int32) →
       (((st 4 0) ≤ (st 10 2) →
        (wp_M_day_258 post (wp_M_day_200 post n)) x1 (st 4 0) st) ∧
        (¬ (st 4 0) ≤ (st 10 2) →
        (wp_M_day_258 post (wp_M_day_200 post n)) x1 (st 10 2) st))) ∧
       (¬ (st 14 x1.toNatClampNeg) = (2 : Int32) →
       (wp_M_day_279 post (wp_M_day_200 post n)) x1 st))) ∧
      (¬ ((st 1 0) - (st 1 0) / (360 : Int32) * (360 : Int32)) = 0 →
      post (st 1 0) st))))
def wp_M_day_188 (post : Int32 → tSt → Prop) (st : tSt) : Prop :=
 (∀ st1 : tSt, st1 = tUp st 1 0 ((st 1 0) + (1 : Int32)) →
  (fun z0 w => ∃ q200, wp_M_day_200 post q200 z0 w) (0 : Int32) st1)
def wp_M_day_166 (post : Int32 → tSt → Prop) (k188 : tSt → Prop) : Nat → Int32 → tSt → Prop
  | 0 => fun _ _ => False
  | n + 1 => fun x1 st =>
    (((6 : Int32) ≤ x1 →
     k188 st) ∧
     (¬ (6 : Int32) ≤ x1 →
     vp_in ((8 : Int32) * x1) 48 ∧
     (∀ st1 : tSt, st1 = tUp st 17 ((8 : Int32) * x1).toNatClampNeg (-1 : Int32) →
      (∀ y1_2 : Int32, y1_2 = x1 + 1 →
       (wp_M_day_166 post k188 n) y1_2 st1))))
def wp_M_day_164 (post : Int32 → tSt → Prop) (st : tSt) : Prop :=
 (fun z0 w => ∃ q166, wp_M_day_166 post (wp_M_day_188 post) q166 z0 w) (0 : Int32) st
def wp_M_day_18 (post : Int32 → tSt → Prop) (k164 : tSt → Prop) : Nat → Int32 → tSt → Prop
  | 0 => fun _ _ => False
  | n + 1 => fun x1 st =>
    (((st 6 0) ≤ x1 →
     k164 st) ∧
     (¬ (st 6 0) ≤ x1 →
     vp_in x1 6 ∧
     (∀ y2_1 : Int32, y2_1 = (st 22 x1.toNatClampNeg) →
      wp_M_has (st 7 0) y2_1 st (fun r3 st2 =>
       ((r3 = 0 →
        wp_M_of y2_1 (0 : Int32) st2 (fun r5 st4 =>
         ((r5 = 0 →
          wp_M_fines st4 (fun st6 =>
           (wp_M_day_105 post (wp_M_day_18 post k164 n) k164) x1 y2_1 st6)) ∧
          (¬ r5 = 0 →
          (wp_M_day_105 post (wp_M_day_18 post k164 n) k164) x1 y2_1 st4)))) ∧
        (¬ r3 = 0 →
        wp_M_fundOf y2_1 st2 (fun r8 st7 =>
         (∀ st9 : tSt, st9 = tUp st7 4 0 ((st2 4 0) + r8) →
          (fun z0 z1 z2 w => ∃ q60, wp_M_day_60 post (wp_M_day_89 post (wp_M_day_18 post k164 n) k164) q60 z0 z1 z2 w) x1 y2_1 (0 : Int32) st9))))))))
def wp_M_day (st : tSt) (post : Int32 → tSt → Prop) : Prop :=
 (((st 1 0) = (9999 : Int32) →
  post (-1 : Int32) st) ∧
  (¬ (st 1 0) = (9999 : Int32) →
  wp_M_tunesOf st (fun st1 =>
   (fun z0 w => ∃ q18, wp_M_day_18 post (wp_M_day_164 post) q18 z0 w) (0 : Int32) st1)))
def wp_M_lasts_28 (post : Int32 → tSt → Prop) (k4 : Int32 → Int32 → tSt → Prop) (k36 : Int32 → tSt → Prop) (x2 : Int32) (s0 : Int32) (s1 : Int32) (st : tSt) : Prop :=
 (∀ y1_1 : Int32, y1_1 = (s0 + s1) →
  (∀ y2_2 : Int32, y2_2 = x2 + 1 →
   k4 y1_1 y2_2 st))
def wp_M_lasts_36 (post : Int32 → tSt → Prop) (x1 : Int32) (st : tSt) : Prop :=
 ((x1 = 0 →
  post (9999 : Int32) st) ∧
  (¬ x1 = 0 →
  (((st 10 2) = 0 →
   post (9999 : Int32) st) ∧
   (¬ (st 10 2) = 0 →
   ¬ (x1 * (st 10 2)) = 0 ∧
   (∀ y2_1 : Int32, y2_1 = ((st 4 0) / (x1 * (st 10 2))) →
    (((9999 : Int32) ≤ y2_1 →
     post (9999 : Int32) st) ∧
     (¬ (9999 : Int32) ≤ y2_1 →
     post y2_1 st)))))))
def wp_M_lasts_4 (post : Int32 → tSt → Prop) (k36 : Int32 → tSt → Prop) : Nat → Int32 → Int32 → tSt → Prop
  | 0 => fun _ _ _ => False
  | n + 1 => fun x1 x2 st =>
    (((st 2 0) ≤ x2 →
     k36 x1 st) ∧
     (¬ (st 2 0) ≤ x2 →
     vp_in x2 6 ∧
     (((st 14 x2.toNatClampNeg) = (2 : Int32) →
      (wp_M_lasts_28 post (wp_M_lasts_4 post k36 n) k36) x2 x1 (1 : Int32) st) ∧
      (¬ (st 14 x2.toNatClampNeg) = (2 : Int32) →
      (wp_M_lasts_28 post (wp_M_lasts_4 post k36 n) k36) x2 x1 (0 : Int32) st))))
def wp_M_lasts (st : tSt) (post : Int32 → tSt → Prop) : Prop :=
 (fun z0 z1 w => ∃ q4, wp_M_lasts_4 post (wp_M_lasts_36 post) q4 z0 z1 w) (0 : Int32) (0 : Int32) st
def wp_M_look_99 (post : Int32 → tSt → Prop) (k72 : Int32 → Int32 → Int32 → tSt → Prop) (x1 : Int32) (x5 : Int32) (s0 : Int32) (s1 : Int32) (st : tSt) : Prop :=
 (∀ y4_1 : Int32, y4_1 = (s0 + s1) →
  (∀ y5_2 : Int32, y5_2 = x5 + 1 →
   k72 x1 y4_1 y5_2 st))
def wp_M_look_72 (post : Int32 → tSt → Prop) : Nat → Int32 → Int32 → Int32 → tSt → Prop
  | 0 => fun _ _ _ _ => False
  | n + 1 => fun x1 x4 x5 st =>
    (((st 8 0) ≤ x5 →
     post x4 st) ∧
     (¬ (st 8 0) ≤ x5 →
     vp_in x5 12 ∧
     (((st 25 x5.toNatClampNeg) = x1 →
      (wp_M_look_99 post (wp_M_look_72 post n)) x1 x5 x4 (1 : Int32) st) ∧
      (¬ (st 25 x5.toNatClampNeg) = x1 →
      (wp_M_look_99 post (wp_M_look_72 post n)) x1 x5 x4 (0 : Int32) st))))
def wp_M_look (x1 : Int32) (x2 : Int32) (st : tSt) (post : Int32 → tSt → Prop) : Prop :=
 wp_M_isPiper x1 st (fun r2 st1 =>
  ((r2 = 0 →
   post (-1 : Int32) st1) ∧
   (¬ r2 = 0 →
   ((x2 = 0 →
    vp_in x1 6 ∧
    post (st1 12 x1.toNatClampNeg) st1) ∧
    (¬ x2 = 0 →
    ((x2 = 1 →
     vp_in x1 6 ∧
     post (st1 13 x1.toNatClampNeg) st1) ∧
     (¬ x2 = 1 →
     ((x2 = 2 →
      vp_in x1 6 ∧
      post (st1 14 x1.toNatClampNeg) st1) ∧
      (¬ x2 = 2 →
      ((x2 = 3 →
       wp_M_works st1 (fun r4 st3 =>
        (fun z0 z1 z2 w => ∃ q72, wp_M_look_72 post q72 z0 z1 z2 w) x1 (0 : Int32) (0 : Int32) st3)) ∧
       (¬ x2 = 3 →
       post (-1 : Int32) st1)))))))))))
def wp_M_wages (x1 : Int32) (st : tSt) (post : Int32 → tSt → Prop) : Prop :=
 ((x1 = (-1 : Int32) →
  post (st 4 0) st) ∧
  (¬ x1 = (-1 : Int32) →
  wp_M_isPiper x1 st (fun r2 st1 =>
   ((r2 = 0 →
    post (0 : Int32) st1) ∧
    (¬ r2 = 0 →
    vp_in x1 6 ∧
    post (st1 15 x1.toNatClampNeg) st1)))))
def wp_M_about (x1 : Int32) (x2 : Int32) (st : tSt) (post : Int32 → tSt → Prop) : Prop :=
 wp_M_isCall x1 st (fun r2 st1 =>
  ((r2 = 0 →
   post (-1 : Int32) st1) ∧
   (¬ r2 = 0 →
   wp_M_lies x2 (0 : Int32) (7 : Int32) st1 (fun r4 st3 =>
    ((r4 = 0 →
     post (-1 : Int32) st3) ∧
     (¬ r4 = 0 →
     wp_M_of x1 x2 st3 (fun r6 st5 =>
      post r6 st5)))))))
def wp_M_count_145 (post : Int32 → tSt → Prop) (k125 : Int32 → Int32 → tSt → Prop) (x3 : Int32) (s0 : Int32) (s1 : Int32) (st : tSt) : Prop :=
 (∀ y2_1 : Int32, y2_1 = (s0 + s1) →
  (∀ y3_2 : Int32, y3_2 = x3 + 1 →
   k125 y2_1 y3_2 st))
def wp_M_count_125 (post : Int32 → tSt → Prop) : Nat → Int32 → Int32 → tSt → Prop
  | 0 => fun _ _ _ => False
  | n + 1 => fun x2 x3 st =>
    (((6 : Int32) ≤ x3 →
     post x2 st) ∧
     (¬ (6 : Int32) ≤ x3 →
     wp_M_isCall x3 st (fun r2 st1 =>
      ((r2 = 0 →
       (wp_M_count_145 post (wp_M_count_125 post n)) x3 x2 (0 : Int32) st1) ∧
       (¬ r2 = 0 →
       (wp_M_count_145 post (wp_M_count_125 post n)) x3 x2 (1 : Int32) st1)))))
def wp_M_count (x1 : Int32) (st : tSt) (post : Int32 → tSt → Prop) : Prop :=
 wp_M_lies x1 (10 : Int32) (13 : Int32) st (fun r2 st1 =>
  ((r2 = 0 →
   wp_M_lies x1 (20 : Int32) (24 : Int32) st1 (fun r4 st3 =>
    ((r4 = 0 →
     wp_M_lies x1 (30 : Int32) ((29 : Int32) + (st3 3 0)) st3 (fun r6 st5 =>
      ((r6 = 0 →
       ((x1 = 0 →
        post (st5 1 0) st5) ∧
        (¬ x1 = 0 →
        ((x1 = 1 →
         wp_M_month st5 (fun r8 st7 =>
          post r8 st7)) ∧
         (¬ x1 = 1 →
         ((x1 = 2 →
          post (st5 2 0) st5) ∧
          (¬ x1 = 2 →
          ((x1 = 3 →
           (fun z0 z1 w => ∃ q125, wp_M_count_125 post q125 z0 z1 w) (0 : Int32) (0 : Int32) st5) ∧
           (¬ x1 = 3 →
           ((x1 = 4 →
            post (st5 3 0) st5) ∧
            (¬ x1 = 4 →
            ((x1 = 5 →
             post (st5 0 0) st5) ∧
             (¬ x1 = 5 →
             post (-1 : Int32) st5))))))))))))) ∧
       (¬ r6 = 0 →
       vp_in (x1 - (30 : Int32)) 10 ∧
       post (st5 20 (x1 - (30 : Int32)).toNatClampNeg) st5)))) ∧
     (¬ r4 = 0 →
     vp_in (x1 - (20 : Int32)) 5 ∧
     post (st3 16 (x1 - (20 : Int32)).toNatClampNeg) st3)))) ∧
   (¬ r2 = 0 →
   vp_in (x1 - (10 : Int32)) 4 ∧
   post (st1 10 (x1 - (10 : Int32)).toNatClampNeg) st1)))
