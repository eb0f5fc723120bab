/-! ACTS UPON BITS, and shift. -/
def wbN (b : Bool) (a j : Nat) : Nat := if b = true then a ||| 2 ^ j else a ^^^ (a &&& 2 ^ j)
theorem wbN_bit (b : Bool) (a j i : Nat) : (wbN b a j).testBit i = if i = j then b else a.testBit i := by
  unfold wbN
  cases b with
  | true =>
    rw [if_pos rfl, tb_or]
    by_cases e : i = j
    · subst e; simp
    · have e2 : ¬ j = i := fun z => e z.symm
      simp [e, e2]
  | false =>
    rw [if_neg Bool.false_ne_true, Nat.testBit_xor, Nat.testBit_and, Nat.testBit_two_pow]
    by_cases e : i = j
    · subst e; simp
    · have e2 : ¬ j = i := fun z => e z.symm
      simp [e, e2]
theorem wbN_lt {b : Bool} {a j n : Nat} (ha : a < 2 ^ n) (hj : j < n) : wbN b a j < 2 ^ n := by
  have h2 : 2 ^ j < 2 ^ n := Nat.pow_lt_pow_right (by omega) hj
  unfold wbN
  split
  · exact Nat.or_lt_two_pow ha h2
  · exact Nat.xor_lt_two_pow ha (Nat.and_lt_two_pow _ h2)
theorem hs_hs (q : Hp) (t k i : Nat) (v w : Int) : hset (hset q t k i v) t k i w = hset q t k i w := by
  funext a b c
  by_cases e : a = t ∧ b = k ∧ c = i
  · obtain ⟨rfl, rfl, rfl⟩ := e; rw [hs_eq, hs_eq]
  · rw [hs_o e, hs_o e, hs_o e]
theorem wbN_eq {b : Bool} {a j : Nat} : wbN b a j = a ↔ a.testBit j = b := by
  constructor
  · intro h; rw [← h, wbN_bit, if_pos rfl]
  · intro h
    apply Nat.eq_of_testBit_eq
    intro i
    rw [wbN_bit]
    by_cases e : i = j
    · subst e; rw [if_pos rfl, h]
    · rw [if_neg e]
theorem RS_bd {h : Hp} {x H N c : Nat} {M : Nat → Int} (b : Bool) (hx : x < H) (hc : h 141 0 0 = (c : Int)) (R : RS h 0 M H N) : RS (hset h 141 0 0 ((wbN b c x : Nat) : Int)) 0 (upM M (14 + 6 * x + 5) (boI b)) H N := by
  obtain ⟨r1, r2, r3, r4⟩ := R
  have hH := r1.2.1
  refine ⟨?_, RN_c (fun t i ht => hs_o (by omega)) (fun j h1 h2 => up_ne (by omega)) r2, RX_c (fun t i ht => hs_o (by omega)) (fun j h1 h2 h3 => up_ne (by omega)) r3, RL_c (fun t i ht => hs_o (by omega)) (fun j hj => up_ne (by omega)) r4⟩
  obtain ⟨a1, a2, ⟨c', a3, a4, a5⟩, a6⟩ := r1
  have e : c' = c := by omega
  subst e
  refine ⟨by rw [hs_o (by omega)]; exact a1, a2, ⟨_, hs_eq _ _ _ _ _, wbN_lt (n := 7) a4 (by omega), fun i hi => ?_⟩, fun i hi => ?_⟩
  · rw [wbN_bit]
    by_cases e : i = x
    · subst e; rw [if_pos rfl]; unfold bdB; rw [up_eq]; cases b <;> rfl
    · rw [if_neg e, a5 i hi]; unfold bdB; rw [up_ne (by omega)]
  · rw [hs_o (by omega), hs_o (by omega), hs_o (by omega), hs_o (by omega), hs_o (by omega), up_ne (by omega), up_ne (by omega), up_ne (by omega), up_ne (by omega), up_ne (by omega)]
    exact a6 i hi
theorem RS_st {h : Hp} {x H N c : Nat} {M : Nat → Int} (b : Bool) (hx : x < N) (hc : h 142 0 0 = (c : Int)) (R : RS h 0 M H N) : RS (hset h 142 0 0 ((wbN b c x : Nat) : Int)) 0 (upM M (50 + 4 * x + 3) (boI b)) H N := by
  obtain ⟨r1, r2, r3, r4⟩ := R
  have hN := r2.2.1
  refine ⟨RH_c (fun t i ht => hs_o (by omega)) (fun j h1 h2 => up_ne (by omega)) r1, ?_, RX_c (fun t i ht => hs_o (by omega)) (fun j h1 h2 h3 => up_ne (by omega)) r3, RL_c (fun t i ht => hs_o (by omega)) (fun j hj => up_ne (by omega)) r4⟩
  obtain ⟨a1, a2, ⟨c', a3, a4, a5⟩, a6⟩ := r2
  have e : c' = c := by omega
  subst e
  refine ⟨by rw [hs_o (by omega)]; exact a1, a2, ⟨_, hs_eq _ _ _ _ _, wbN_lt (n := 14) a4 (by omega), fun i hi => ?_⟩, fun i hi => ?_⟩
  · rw [wbN_bit]
    by_cases e : i = x
    · subst e; rw [if_pos rfl]; unfold stB; rw [up_eq]; cases b <;> rfl
    · rw [if_neg e, a5 i hi]; unfold stB; rw [up_ne (by omega)]
  · rw [hs_o (by omega), hs_o (by omega), hs_o (by omega), up_ne (by omega), up_ne (by omega), up_ne (by omega)]
    exact a6 i hi
theorem RS_bt {h : Hp} {s n H N : Nat} {M : Nat → Int} (v : Int) (hn : n < N) (R : RS h s M H N) : RS (hset h 134 s n v) s (upM M (50 + 4 * n) v) H N := by
  obtain ⟨r1, r2, r3, r4⟩ := R
  have hN := r2.2.1
  exact ⟨RH_bt v r1, RN_bt v r2, RX_c (fun t i ht => hs_o (by omega)) (fun j h1 h2 h3 => up_ne (by omega)) r3, RL_c (fun t i ht => hs_o (by omega)) (fun j hj => up_ne (by omega)) r4⟩
theorem GM_st {M : Nat → Int} {H N n : Nat} {v : Int} (hn : n < N) (hv : v = 0 ∨ v = 1) (ho : v = 1 ∨ anyB (thB M (M (50 + 4 * n + 1)) (M (50 + 4 * n)) (n : Int)) N = false) (G : GM M H N) : GM (upM M (50 + 4 * n + 3) v) H N := by
  obtain ⟨⟨a1, a2, a3⟩, ⟨b1, b2, b3, b4⟩, gx⟩ := G
  have u50 : ∀ j, j < 50 → upM M (50 + 4 * n + 3) v j = M j := fun j hj => up_ne (by omega)
  have free : ∀ n', n' < N → n' ≠ n → v = 0 → stB M n' = true → M (50 + 4 * n') = M (50 + 4 * n) → M (50 + 4 * n' + 1) ≠ M (50 + 4 * n + 1) := by
    intro n' h1 h2 h0 h3 h4 h5
    rcases ho with ho | ho
    · omega
    · have : anyB (thB M (M (50 + 4 * n + 1)) (M (50 + 4 * n)) (n : Int)) N = true := anyB_iff.mpr ⟨n', h1, by unfold thB atB; rw [h3, decide_eq_true h4, decide_eq_true h5, decide_eq_true (show (n' : Int) ≠ (n : Int) by omega)]; rfl⟩
      rw [ho] at this; cases this
  refine ⟨⟨by rw [u50 _ (by omega)]; exact a1, a2, fun i hi => by rw [u50 _ (by omega), u50 _ (by omega), u50 _ (by omega), u50 _ (by omega), u50 _ (by omega), u50 _ (by omega)]; exact a3 i hi⟩, ⟨by rw [u50 _ (by omega)]; exact b1, b2, fun n' hn' => ?_, fun x y hx hy hne s1 s2 q => ?_⟩, GX_o (by omega) gx⟩
  · obtain ⟨q0, q1, q2, q3⟩ := b3 n' hn'
    refine ⟨by rw [up_ne (by omega)]; exact q0, by rw [up_ne (by omega)]; exact q1, by rw [up_ne (by omega)]; exact q2, ?_⟩
    by_cases e : n' = n
    · rw [e, up_eq]; exact hv
    · rw [up_ne (by omega)]; exact q3
  · unfold stB at s1 s2
    rw [up_ne (show ¬ 50 + 4 * x = 50 + 4 * n + 3 by omega), up_ne (show ¬ 50 + 4 * y = 50 + 4 * n + 3 by omega)] at q
    rw [up_ne (show ¬ 50 + 4 * x + 1 = 50 + 4 * n + 3 by omega), up_ne (show ¬ 50 + 4 * y + 1 = 50 + 4 * n + 3 by omega)]
    by_cases ex : x = n
    · subst ex
      rw [up_eq] at s1
      rw [up_ne (by omega)] at s2
      exact fun z => free y hy (by omega) (of_decide_eq_true s1) s2 q.symm z.symm
    · by_cases ey : y = n
      · subst ey
        rw [up_eq] at s2
        rw [up_ne (by omega)] at s1
        exact free x hx (by omega) (of_decide_eq_true s2) s1 q
      · rw [up_ne (by omega)] at s1 s2
        exact b4 x y hx hy hne s1 s2 q
theorem ag_bind (lc lr H N : Nat) (p : Int) (b : Bool) (h : Hp) (I : INV h H N) : AGb t2 (fun h => cl (lc + 80) 96 [aA 11 0, aI p, aI (boI b)] h) (fun h => cl (lr + 80) 243 [aA 12 0, aI p, aI (boI b)] h) h := by
  have hH := I.1.2.1.1.2.1
  have cp := checkHand_c (lc + 78) H p h I.1.1.1.1
  by_cases c : 0 ≤ p ∧ p < H
  · rw [if_pos c] at cp
    obtain ⟨x, rfl⟩ := Int.eq_ofNat_of_zero_le c.1
    have hx : x < H := by omega
    have hb : boI b = 0 ∨ boI b = 1 := by cases b <;> decide
    have hm := (I.1.2.1.1.2.2 x hx).2.2.2.2.2
    refine AGb_set (lc := lc) (lr := lr) (H' := H) (N' := N) I (14 + 6 * x + 5) (boI b) (if h 187 0 (14 + 6 * x + 5) = boI b then 0 else 1) (by split <;> omega) (by omega) (by omega) (by omega) (GM_bound hb (by omega) I.1.2.1) (fun hr k1 R => ?_) (fun g g' g7 b1 z6 => ?_)
    · obtain ⟨w, e1, e2, e3⟩ := R.1.2.2.1
      have e3 := e3 x hx
      have wb := withBit_c (lc + 78) w x b hr (by omega) (by omega)
      rw [show (if b = true then w ||| 2 ^ x else w ^^^ (w &&& 2 ^ x)) = wbN b w x from rfl] at wb
      refine ⟨hset hr 141 0 0 ((wbN b w x : Nat) : Int), ?_, fun tt k j hf => hs_o (by unfold stFr stTag at hf; omega), RS_bd b hx e1 R⟩
      have eq : (((wbN b w x : Nat) : Int) = (w : Int)) ↔ h 187 0 (14 + 6 * x + 5) = boI b := by
        rw [Int.ofNat_inj, wbN_eq, e3]
        unfold bdB
        rcases hm with z | z <;> cases b <;> simp [z, boI]
      show cl (lc + 80) _ _ _ = _
      rw [in_96]
      by_cases d : h 187 0 (14 + 6 * x + 5) = boI b
      · have d' := eq.mpr d
        rw [if_pos d]
        simp (disch := omega) only [x_6_0, x_4_1, x_79_2_11_d0, x_79_2_11_d1, x_79_2_11_d2, x_79_2_11_d3, x_79_2_11_d4, x_35_0, x_79_2_5_d0, x_79_2_5_d1, x_79_2_5_d2, x_79_2_5_d3, x_79_2_5_d4, x_33, x_7_3_I, x_7_3_A, x_7_3_U, x_4_3, x_4_2, x_80_3_d0, x_80_3_d1, x_80_3_d2, x_80_3_d3, x_80_3_d4, x_36, x_62, x_1, x_60, x_61, x_85, cb_ri, cb_rl, cb_rv, cb_th, cb_ite, ps_s, ps_n, u_96_0, u_96_52, u_96_53, cp, k1, e1, wb, hs_eq, d', Int.reduceEq, Int.reduceLT, Int.reduceLE, reduceIte, Int.reduceAdd, Int.reduceSub, Int.reduceMul, Int.reduceNeg, Int.reduceToNat, Bool.false_eq_true, eq_self, if_pos, if_neg]
      · have d' := fun z => d (eq.mp z)
        rw [if_neg d]
        simp (disch := omega) only [x_6_0, x_4_1, x_79_2_11_d0, x_79_2_11_d1, x_79_2_11_d2, x_79_2_11_d3, x_79_2_11_d4, x_35_0, x_79_2_5_d0, x_79_2_5_d1, x_79_2_5_d2, x_79_2_5_d3, x_79_2_5_d4, x_33, x_7_3_I, x_7_3_A, x_7_3_U, x_4_3, x_4_2, x_80_3_d0, x_80_3_d1, x_80_3_d2, x_80_3_d3, x_80_3_d4, x_36, x_62, x_1, x_60, x_61, x_85, cb_ri, cb_rl, cb_rv, cb_th, cb_ite, ps_s, ps_n, u_96_0, u_96_52, u_96_53, cp, k1, e1, wb, hs_eq, d', Int.reduceEq, Int.reduceLT, Int.reduceLE, reduceIte, Int.reduceAdd, Int.reduceSub, Int.reduceMul, Int.reduceNeg, Int.reduceToNat, Bool.false_eq_true, eq_self, if_pos, if_neg]
    · have ih := isHand_c (lr + 77) H (x : Int) g (by rw [g7]; exact I.1.2.1.1.1) hH
      rw [if_pos c] at ih
      have e : ((14 : Int) + 6 * (x : Int) + 5) = ((14 + 6 * x + 5 : Nat) : Int) := by omega
      show cl (lr + 80) _ _ _ = _
      rw [in_243]
      cases b with
      | true =>
        have b1 : cl (lr + 79) 240 [aA 12 0, aI ((14 + 6 * x + 5 : Nat) : Int), aI 1] (hset g 186 0 0 0) = ri (h 187 0 (14 + 6 * x + 5)) g' := b1
        have ebo : boI true = 1 := rfl
        rw [ebo]
        by_cases d : h 187 0 (14 + 6 * x + 5) = 1
        · rw [if_pos d]
          simp (disch := omega) only [x_6_0, x_4_1, x_79_2_12_d0, x_79_2_12_d1, x_79_2_12_d2, x_79_2_12_d3, x_79_2_12_d4, x_69, x_1, x_60, x_61, x_36, x_33, x_13, x_11, x_4_2, x_68, x_79_3_12_d0, x_79_3_12_d1, x_79_3_12_d2, x_79_3_12_d3, x_79_3_12_d4, x_62, x_85, cb_ri, cb_rl, cb_rv, cb_th, cb_ite, ps_s, ps_n, u_243_0, u_243_13, u_243_14, u_243_42, u_243_43, u_243_54, u_243_55, u_243_62, u_243_63, ih, hs_eq, e, b1, d, Int.reduceEq, Int.reduceLT, Int.reduceLE, reduceIte, Int.reduceAdd, Int.reduceSub, Int.reduceMul, Int.reduceNeg, Int.reduceToNat, Bool.false_eq_true, eq_self, if_pos, if_neg, w32_id]
        · rw [if_neg d]
          simp (disch := omega) only [x_6_0, x_4_1, x_79_2_12_d0, x_79_2_12_d1, x_79_2_12_d2, x_79_2_12_d3, x_79_2_12_d4, x_69, x_1, x_60, x_61, x_36, x_33, x_13, x_11, x_4_2, x_68, x_79_3_12_d0, x_79_3_12_d1, x_79_3_12_d2, x_79_3_12_d3, x_79_3_12_d4, x_62, x_85, cb_ri, cb_rl, cb_rv, cb_th, cb_ite, ps_s, ps_n, u_243_0, u_243_13, u_243_14, u_243_42, u_243_43, u_243_54, u_243_55, u_243_62, u_243_63, ih, hs_eq, e, b1, d, Int.reduceEq, Int.reduceLT, Int.reduceLE, reduceIte, Int.reduceAdd, Int.reduceSub, Int.reduceMul, Int.reduceNeg, Int.reduceToNat, Bool.false_eq_true, eq_self, if_pos, if_neg, w32_id]
      | false =>
        have b1 : cl (lr + 79) 240 [aA 12 0, aI ((14 + 6 * x + 5 : Nat) : Int), aI 0] (hset g 186 0 0 0) = ri (h 187 0 (14 + 6 * x + 5)) g' := b1
        have ebo : boI false = 0 := rfl
        rw [ebo]
        by_cases d : h 187 0 (14 + 6 * x + 5) = 0
        · rw [if_pos d]
          simp (disch := omega) only [x_6_0, x_4_1, x_79_2_12_d0, x_79_2_12_d1, x_79_2_12_d2, x_79_2_12_d3, x_79_2_12_d4, x_69, x_1, x_60, x_61, x_36, x_33, x_13, x_11, x_4_2, x_68, x_79_3_12_d0, x_79_3_12_d1, x_79_3_12_d2, x_79_3_12_d3, x_79_3_12_d4, x_62, x_85, cb_ri, cb_rl, cb_rv, cb_th, cb_ite, ps_s, ps_n, u_243_0, u_243_13, u_243_14, u_243_42, u_243_43, u_243_54, u_243_55, u_243_62, u_243_63, ih, hs_eq, e, b1, d, Int.reduceEq, Int.reduceLT, Int.reduceLE, reduceIte, Int.reduceAdd, Int.reduceSub, Int.reduceMul, Int.reduceNeg, Int.reduceToNat, Bool.false_eq_true, eq_self, if_pos, if_neg, w32_id]
        · rw [if_neg d]
          simp (disch := omega) only [x_6_0, x_4_1, x_79_2_12_d0, x_79_2_12_d1, x_79_2_12_d2, x_79_2_12_d3, x_79_2_12_d4, x_69, x_1, x_60, x_61, x_36, x_33, x_13, x_11, x_4_2, x_68, x_79_3_12_d0, x_79_3_12_d1, x_79_3_12_d2, x_79_3_12_d3, x_79_3_12_d4, x_62, x_85, cb_ri, cb_rl, cb_rv, cb_th, cb_ite, ps_s, ps_n, u_243_0, u_243_13, u_243_14, u_243_42, u_243_43, u_243_54, u_243_55, u_243_62, u_243_63, ih, hs_eq, e, b1, d, Int.reduceEq, Int.reduceLT, Int.reduceLE, reduceIte, Int.reduceAdd, Int.reduceSub, Int.reduceMul, Int.reduceNeg, Int.reduceToNat, Bool.false_eq_true, eq_self, if_pos, if_neg, w32_id]
  · rw [if_neg c] at cp
    refine AGb_e I 2 (by decide) ⟨h, ?_, Sm_r _ _⟩ (fun g s J => ⟨0, hset g 186 0 0 1, ?_, hs_eq _ _ _ _ _, rsc_186 g 1⟩)
    · show cl (lc + 80) _ _ _ = _
      rw [in_96]
      simp (disch := omega) only [x_6_0, x_4_1, x_79_2_11_d0, x_79_2_11_d1, x_79_2_11_d2, x_79_2_11_d3, x_79_2_11_d4, x_35_0, x_79_2_5_d0, x_79_2_5_d1, x_79_2_5_d2, x_79_2_5_d3, x_79_2_5_d4, x_33, x_7_3_I, x_7_3_A, x_7_3_U, x_4_3, x_4_2, x_80_3_d0, x_80_3_d1, x_80_3_d2, x_80_3_d3, x_80_3_d4, x_36, x_62, x_1, x_60, x_61, x_85, cb_ri, cb_rl, cb_rv, cb_th, cb_ite, ps_s, ps_n, u_96_0, u_96_52, u_96_53, cp]
    · have ih := inH J (lr + 77) p
      rw [if_neg c] at ih
      show cl (lr + 80) _ _ _ = _
      rw [in_243]
      simp (disch := omega) only [x_6_0, x_4_1, x_79_2_12_d0, x_79_2_12_d1, x_79_2_12_d2, x_79_2_12_d3, x_79_2_12_d4, x_69, x_1, x_60, x_61, x_36, x_33, x_13, x_11, x_4_2, x_68, x_79_3_12_d0, x_79_3_12_d1, x_79_3_12_d2, x_79_3_12_d3, x_79_3_12_d4, x_62, x_85, cb_ri, cb_rl, cb_rv, cb_th, cb_ite, ps_s, ps_n, u_243_0, u_243_13, u_243_14, u_243_42, u_243_43, u_243_54, u_243_55, u_243_62, u_243_63, ih, hs_eq, Int.reduceEq, Int.reduceLT, Int.reduceLE, reduceIte, Int.reduceAdd, Int.reduceSub, Int.reduceMul, Int.reduceNeg, Int.reduceToNat, Bool.false_eq_true, eq_self, if_pos, if_neg]
theorem ag_strike (lc lr H N : Nat) (p : Int) (b : Bool) (h : Hp) (I : INV h H N) : AGb t21 (fun h => cl (lc + 80) 97 [aA 11 0, aI p, aI (boI b)] h) (fun h => cl (lr + 80) 244 [aA 12 0, aI p, aI (boI b)] h) h := by
  have hN := I.1.2.1.2.1.2.1
  have cp := checkNote_c (lc + 78) N p h I.1.1.2.1.1
  by_cases c : 0 ≤ p ∧ p < N
  · rw [if_pos c] at cp
    obtain ⟨x, rfl⟩ := Int.eq_ofNat_of_zero_le c.1
    have hx : x < N := by omega
    have hb : boI b = 0 ∨ boI b = 1 := by cases b <;> decide
    have hm := (I.1.2.1.2.1.2.2.1 x hx).2.2.2
    obtain ⟨m0, m1, -⟩ := I.1.1.2.1.2.2.2 x hx
    have oc := isOccupied_c (lc + 77) 0 N (h 187 0) (h 187 0 (50 + 4 * x)) (h 187 0 (50 + 4 * x + 1)) (x : Int) h I.1.1.2.1
    -- a note that stands finds no other at its place
    have uq : stB (h 187 0) x = true → anyB (thB (h 187 0) (h 187 0 (50 + 4 * x + 1)) (h 187 0 (50 + 4 * x)) (x : Int)) N = false := by
      intro hs
      cases e : anyB (thB (h 187 0) (h 187 0 (50 + 4 * x + 1)) (h 187 0 (50 + 4 * x)) (x : Int)) N with
      | false => rfl
      | true =>
        obtain ⟨y, hy, hz⟩ := anyB_iff.mp e
        unfold thB atB at hz
        simp only [Bool.and_eq_true, decide_eq_true_eq] at hz
        obtain ⟨⟨z1, z2, z3⟩, z4⟩ := hz
        exact absurd z4.symm (I.1.2.1.2.1.2.2.2 x y hx hy (by omega) hs z2 z3.symm)
    have st : ∀ g : Hp, g 187 0 = h 187 0 → cl (lr + 79) 180 [aA 12 0, aI (x : Int)] g = ri (if stB (h 187 0) x = true then 1 else 0) g := fun g g7 => by have := stands_c (lr + 77) x g (by omega); rw [g7] at this; exact this
    have n0 : ∀ g : Hp, g 187 0 = h 187 0 → cl (lr + 79) 175 [aA 12 0, aI (x : Int), aI 0] g = ri (h 187 0 (50 + 4 * x)) g := fun g g7 => by have := ofNote_c (lr + 78) x 0 g (by omega) (by omega); rw [g7] at this; exact this
    have n1 : ∀ g : Hp, g 187 0 = h 187 0 → cl (lr + 79) 175 [aA 12 0, aI (x : Int), aI 1] g = ri (h 187 0 (50 + 4 * x + 1)) g := fun g g7 => by have := ofNote_c (lr + 78) x 1 g (by omega) (by omega); rw [g7] at this; exact this
    have it : ∀ g : Hp, g 187 0 = h 187 0 → cl (lr + 79) 182 [aA 12 0, aI (h 187 0 (50 + 4 * x + 1)), aI (h 187 0 (50 + 4 * x)), aI (x : Int)] g = ri (if anyB (thB (h 187 0) (h 187 0 (50 + 4 * x + 1)) (h 187 0 (50 + 4 * x)) (x : Int)) N = true then 1 else 0) g := fun g g7 => by have := isThere_c (lr + 76) N (h 187 0 (50 + 4 * x + 1)) (h 187 0 (50 + 4 * x)) (x : Int) g (by rw [g7]; exact I.1.2.1.2.1.1) hN; rw [g7] at this; exact this
    by_cases dz : b = false ∧ anyB (thB (h 187 0) (h 187 0 (50 + 4 * x + 1)) (h 187 0 (50 + 4 * x)) (x : Int)) N = true
    · obtain ⟨rfl, dz⟩ := dz
      have ns : ¬ stB (h 187 0) x = true := fun z => by rw [uq z] at dz; cases dz
      rw [if_pos dz] at oc
      have ebo : boI false = 0 := rfl
      rw [ebo]
      refine AGb_e I 1 (by decide) ⟨h, ?_, Sm_r _ _⟩ (fun g s J => ⟨0, hset (hset g 186 0 0 0) 186 0 0 2, ?_, hs_eq _ _ _ _ _, Sm_t (rsc_186 _ _) (rsc_186 _ 2)⟩)
      · show cl (lc + 80) _ _ _ = _
        rw [in_97]
        simp (disch := omega) only [x_6_0, x_4_1, x_79_2_11_d0, x_79_2_11_d1, x_79_2_11_d2, x_79_2_11_d3, x_79_2_11_d4, x_4_2, x_69, x_35_0, x_34, x_38_134, x_38_135, x_79_4_7_d0, x_79_4_7_d1, x_79_4_7_d2, x_79_4_7_d3, x_79_4_7_d4, x_68, x_84, x_79_2_5_d0, x_79_2_5_d1, x_79_2_5_d2, x_79_2_5_d3, x_79_2_5_d4, x_33, x_7_3_I, x_7_3_A, x_7_3_U, x_4_3, x_80_3_d0, x_80_3_d1, x_80_3_d2, x_80_3_d3, x_80_3_d4, x_36, x_62, x_1, x_60, x_61, x_85, cb_ri, cb_rl, cb_rv, cb_th, cb_ite, ps_s, ps_n, u_97_0, u_97_48, u_97_95, u_97_96, cp, tn, m0, m1, oc, Int.reduceEq, Int.reduceLT, Int.reduceLE, reduceIte, Int.reduceAdd, Int.reduceSub, Int.reduceMul, Int.reduceNeg, Int.reduceToNat, Bool.false_eq_true, eq_self, if_pos, if_neg]
      · have ih := inN J (lr + 77) (x : Int)
        rw [if_pos c] at ih
        have g7 : hset g 186 0 0 0 187 0 = h 187 0 := by rw [h186_m]; exact Sm_187 s scr_187
        have st := st _ g7
        have n0 := n0 _ g7
        have n1 := n1 _ g7
        have it := it _ g7
        rw [if_neg ns] at st
        rw [if_pos dz] at it
        show cl (lr + 80) _ _ _ = _
        rw [in_244]
        simp (disch := omega) only [x_6_0, x_4_1, x_79_2_12_d0, x_79_2_12_d1, x_79_2_12_d2, x_79_2_12_d3, x_79_2_12_d4, x_69, x_1, x_60, x_61, x_36, x_33, x_73, x_85, x_4_2, x_79_3_12_d0, x_79_3_12_d1, x_79_3_12_d2, x_79_3_12_d3, x_79_3_12_d4, x_79_4_12_d0, x_79_4_12_d1, x_79_4_12_d2, x_79_4_12_d3, x_79_4_12_d4, x_68, x_13, x_11, x_62, cb_ri, cb_rl, cb_rv, cb_th, cb_ite, ps_s, ps_n, u_244_0, u_244_13, u_244_14, u_244_26, u_244_63, u_244_64, u_244_91, u_244_92, u_244_103, u_244_104, u_244_111, u_244_112, ih, hs_eq, st, n0, n1, it, Int.reduceEq, Int.reduceLT, Int.reduceLE, reduceIte, Int.reduceAdd, Int.reduceSub, Int.reduceMul, Int.reduceNeg, Int.reduceToNat, Bool.false_eq_true, eq_self, if_pos, if_neg]
    · have ho : boI b = 1 ∨ anyB (thB (h 187 0) (h 187 0 (50 + 4 * x + 1)) (h 187 0 (50 + 4 * x)) (x : Int)) N = false := by
        cases b with
        | true => exact Or.inl rfl
        | false =>
          cases e : anyB (thB (h 187 0) (h 187 0 (50 + 4 * x + 1)) (h 187 0 (50 + 4 * x)) (x : Int)) N with
          | false => exact Or.inr rfl
          | true => exact absurd ⟨rfl, e⟩ dz
      refine AGb_set (lc := lc) (lr := lr) (H' := H) (N' := N) I (50 + 4 * x + 3) (boI b) (if h 187 0 (50 + 4 * x + 3) = boI b then 0 else 1) (by split <;> omega) (by omega) (by omega) (by omega) (GM_st hx hb ho I.1.2.1) (fun hr k1 R => ?_) (fun g g' g7 b1 z6 => ?_)
      · obtain ⟨w, e1, e2, e3⟩ := R.2.1.2.2.1
        have e3 := e3 x hx
        have wb := withBit_c (lc + 78) w x b hr (by omega) (by omega)
        rw [show (if b = true then w ||| 2 ^ x else w ^^^ (w &&& 2 ^ x)) = wbN b w x from rfl] at wb
        refine ⟨hset hr 142 0 0 ((wbN b w x : Nat) : Int), ?_, fun tt k j hf => hs_o (by unfold stFr stTag at hf; omega), RS_st b hx e1 R⟩
        have eq : (((wbN b w x : Nat) : Int) = (w : Int)) ↔ h 187 0 (50 + 4 * x + 3) = boI b := by
          rw [Int.ofNat_inj, wbN_eq, e3]
          unfold stB
          rcases hm with z | z <;> cases b <;> simp [z, boI]
        show cl (lc + 80) _ _ _ = _
        rw [in_97]
        cases b with
        | true =>
          have ebo : boI true = 1 := rfl
          rw [ebo] at wb eq ⊢
          by_cases d : h 187 0 (50 + 4 * x + 3) = 1
          · have d' := eq.mpr d
            rw [if_pos d]
            simp (disch := omega) only [x_6_0, x_4_1, x_79_2_11_d0, x_79_2_11_d1, x_79_2_11_d2, x_79_2_11_d3, x_79_2_11_d4, x_4_2, x_69, x_35_0, x_34, x_38_134, x_38_135, x_79_4_7_d0, x_79_4_7_d1, x_79_4_7_d2, x_79_4_7_d3, x_79_4_7_d4, x_68, x_84, x_79_2_5_d0, x_79_2_5_d1, x_79_2_5_d2, x_79_2_5_d3, x_79_2_5_d4, x_33, x_7_3_I, x_7_3_A, x_7_3_U, x_4_3, x_80_3_d0, x_80_3_d1, x_80_3_d2, x_80_3_d3, x_80_3_d4, x_36, x_62, x_1, x_60, x_61, x_85, cb_ri, cb_rl, cb_rv, cb_th, cb_ite, ps_s, ps_n, u_97_0, u_97_48, u_97_95, u_97_96, cp, k1, e1, wb, hs_eq, d', Int.reduceEq, Int.reduceLT, Int.reduceLE, reduceIte, Int.reduceAdd, Int.reduceSub, Int.reduceMul, Int.reduceNeg, Int.reduceToNat, Bool.false_eq_true, eq_self, if_pos, if_neg]
          · have d' := fun z => d (eq.mp z)
            rw [if_neg d]
            simp (disch := omega) only [x_6_0, x_4_1, x_79_2_11_d0, x_79_2_11_d1, x_79_2_11_d2, x_79_2_11_d3, x_79_2_11_d4, x_4_2, x_69, x_35_0, x_34, x_38_134, x_38_135, x_79_4_7_d0, x_79_4_7_d1, x_79_4_7_d2, x_79_4_7_d3, x_79_4_7_d4, x_68, x_84, x_79_2_5_d0, x_79_2_5_d1, x_79_2_5_d2, x_79_2_5_d3, x_79_2_5_d4, x_33, x_7_3_I, x_7_3_A, x_7_3_U, x_4_3, x_80_3_d0, x_80_3_d1, x_80_3_d2, x_80_3_d3, x_80_3_d4, x_36, x_62, x_1, x_60, x_61, x_85, cb_ri, cb_rl, cb_rv, cb_th, cb_ite, ps_s, ps_n, u_97_0, u_97_48, u_97_95, u_97_96, cp, k1, e1, wb, hs_eq, d', Int.reduceEq, Int.reduceLT, Int.reduceLE, reduceIte, Int.reduceAdd, Int.reduceSub, Int.reduceMul, Int.reduceNeg, Int.reduceToNat, Bool.false_eq_true, eq_self, if_pos, if_neg]
        | false =>
          have ebo : boI false = 0 := rfl
          rw [ebo] at wb eq ho ⊢
          rw [if_neg (by rw [ho.resolve_left (by decide)]; exact Bool.false_ne_true)] at oc
          by_cases d : h 187 0 (50 + 4 * x + 3) = 0
          · have d' := eq.mpr d
            rw [if_pos d]
            simp (disch := omega) only [x_6_0, x_4_1, x_79_2_11_d0, x_79_2_11_d1, x_79_2_11_d2, x_79_2_11_d3, x_79_2_11_d4, x_4_2, x_69, x_35_0, x_34, x_38_134, x_38_135, x_79_4_7_d0, x_79_4_7_d1, x_79_4_7_d2, x_79_4_7_d3, x_79_4_7_d4, x_68, x_84, x_79_2_5_d0, x_79_2_5_d1, x_79_2_5_d2, x_79_2_5_d3, x_79_2_5_d4, x_33, x_7_3_I, x_7_3_A, x_7_3_U, x_4_3, x_80_3_d0, x_80_3_d1, x_80_3_d2, x_80_3_d3, x_80_3_d4, x_36, x_62, x_1, x_60, x_61, x_85, cb_ri, cb_rl, cb_rv, cb_th, cb_ite, ps_s, ps_n, u_97_0, u_97_48, u_97_95, u_97_96, cp, k1, tn, m0, m1, oc, e1, wb, hs_eq, d', Int.reduceEq, Int.reduceLT, Int.reduceLE, reduceIte, Int.reduceAdd, Int.reduceSub, Int.reduceMul, Int.reduceNeg, Int.reduceToNat, Bool.false_eq_true, eq_self, if_pos, if_neg]
          · have d' := fun z => d (eq.mp z)
            rw [if_neg d]
            simp (disch := omega) only [x_6_0, x_4_1, x_79_2_11_d0, x_79_2_11_d1, x_79_2_11_d2, x_79_2_11_d3, x_79_2_11_d4, x_4_2, x_69, x_35_0, x_34, x_38_134, x_38_135, x_79_4_7_d0, x_79_4_7_d1, x_79_4_7_d2, x_79_4_7_d3, x_79_4_7_d4, x_68, x_84, x_79_2_5_d0, x_79_2_5_d1, x_79_2_5_d2, x_79_2_5_d3, x_79_2_5_d4, x_33, x_7_3_I, x_7_3_A, x_7_3_U, x_4_3, x_80_3_d0, x_80_3_d1, x_80_3_d2, x_80_3_d3, x_80_3_d4, x_36, x_62, x_1, x_60, x_61, x_85, cb_ri, cb_rl, cb_rv, cb_th, cb_ite, ps_s, ps_n, u_97_0, u_97_48, u_97_95, u_97_96, cp, k1, tn, m0, m1, oc, e1, wb, hs_eq, d', Int.reduceEq, Int.reduceLT, Int.reduceLE, reduceIte, Int.reduceAdd, Int.reduceSub, Int.reduceMul, Int.reduceNeg, Int.reduceToNat, Bool.false_eq_true, eq_self, if_pos, if_neg]
      · have ih := isNote_c (lr + 77) N (x : Int) g (by rw [g7]; exact I.1.2.1.2.1.1) hN
        rw [if_pos c] at ih
        have g7' : hset g 186 0 0 0 187 0 = h 187 0 := by rw [h186_m]; exact g7
        have hh : hset (hset g 186 0 0 0) 186 0 0 0 = hset g 186 0 0 0 := hs_hs _ _ _ _ _ _
        have e : ((50 : Int) + 4 * (x : Int) + 3) = ((50 + 4 * x + 3 : Nat) : Int) := by omega
        have st := st _ g7'
        have n0 := n0 _ g7'
        have n1 := n1 _ g7'
        have it := it _ g7'
        show cl (lr + 80) _ _ _ = _
        rw [in_244]
        cases b with
        | true =>
          have b1 : cl (lr + 79) 240 [aA 12 0, aI ((50 + 4 * x + 3 : Nat) : Int), aI 1] (hset g 186 0 0 0) = ri (h 187 0 (50 + 4 * x + 3)) g' := b1
          have ebo : boI true = 1 := rfl
          rw [ebo]
          by_cases d : h 187 0 (50 + 4 * x + 3) = 1
          · rw [if_pos d]
            simp (disch := omega) only [x_6_0, x_4_1, x_79_2_12_d0, x_79_2_12_d1, x_79_2_12_d2, x_79_2_12_d3, x_79_2_12_d4, x_69, x_1, x_60, x_61, x_36, x_33, x_73, x_85, x_4_2, x_79_3_12_d0, x_79_3_12_d1, x_79_3_12_d2, x_79_3_12_d3, x_79_3_12_d4, x_79_4_12_d0, x_79_4_12_d1, x_79_4_12_d2, x_79_4_12_d3, x_79_4_12_d4, x_68, x_13, x_11, x_62, cb_ri, cb_rl, cb_rv, cb_th, cb_ite, ps_s, ps_n, u_244_0, u_244_13, u_244_14, u_244_26, u_244_63, u_244_64, u_244_91, u_244_92, u_244_103, u_244_104, u_244_111, u_244_112, ih, hs_eq, hh, e, b1, d, Int.reduceEq, Int.reduceLT, Int.reduceLE, reduceIte, Int.reduceAdd, Int.reduceSub, Int.reduceMul, Int.reduceNeg, Int.reduceToNat, Bool.false_eq_true, eq_self, if_pos, if_neg, w32_id]
          · rw [if_neg d]
            simp (disch := omega) only [x_6_0, x_4_1, x_79_2_12_d0, x_79_2_12_d1, x_79_2_12_d2, x_79_2_12_d3, x_79_2_12_d4, x_69, x_1, x_60, x_61, x_36, x_33, x_73, x_85, x_4_2, x_79_3_12_d0, x_79_3_12_d1, x_79_3_12_d2, x_79_3_12_d3, x_79_3_12_d4, x_79_4_12_d0, x_79_4_12_d1, x_79_4_12_d2, x_79_4_12_d3, x_79_4_12_d4, x_68, x_13, x_11, x_62, cb_ri, cb_rl, cb_rv, cb_th, cb_ite, ps_s, ps_n, u_244_0, u_244_13, u_244_14, u_244_26, u_244_63, u_244_64, u_244_91, u_244_92, u_244_103, u_244_104, u_244_111, u_244_112, ih, hs_eq, hh, e, b1, d, Int.reduceEq, Int.reduceLT, Int.reduceLE, reduceIte, Int.reduceAdd, Int.reduceSub, Int.reduceMul, Int.reduceNeg, Int.reduceToNat, Bool.false_eq_true, eq_self, if_pos, if_neg, w32_id]
        | false =>
          have b1 : cl (lr + 79) 240 [aA 12 0, aI ((50 + 4 * x + 3 : Nat) : Int), aI 0] (hset g 186 0 0 0) = ri (h 187 0 (50 + 4 * x + 3)) g' := b1
          have ebo : boI false = 0 := rfl
          rw [ebo] at ho ⊢
          rw [if_neg (by rw [ho.resolve_left (by decide)]; exact Bool.false_ne_true)] at it
          by_cases ds : stB (h 187 0) x = true
          · rw [if_pos ds] at st
            have d : h 187 0 (50 + 4 * x + 3) = 0 := of_decide_eq_true ds
            rw [if_pos d]
            simp (disch := omega) only [x_6_0, x_4_1, x_79_2_12_d0, x_79_2_12_d1, x_79_2_12_d2, x_79_2_12_d3, x_79_2_12_d4, x_69, x_1, x_60, x_61, x_36, x_33, x_73, x_85, x_4_2, x_79_3_12_d0, x_79_3_12_d1, x_79_3_12_d2, x_79_3_12_d3, x_79_3_12_d4, x_79_4_12_d0, x_79_4_12_d1, x_79_4_12_d2, x_79_4_12_d3, x_79_4_12_d4, x_68, x_13, x_11, x_62, cb_ri, cb_rl, cb_rv, cb_th, cb_ite, ps_s, ps_n, u_244_0, u_244_13, u_244_14, u_244_26, u_244_63, u_244_64, u_244_91, u_244_92, u_244_103, u_244_104, u_244_111, u_244_112, ih, hs_eq, hh, st, e, b1, d, Int.reduceEq, Int.reduceLT, Int.reduceLE, reduceIte, Int.reduceAdd, Int.reduceSub, Int.reduceMul, Int.reduceNeg, Int.reduceToNat, Bool.false_eq_true, eq_self, if_pos, if_neg, w32_id]
          · rw [if_neg ds] at st
            have d : ¬ h 187 0 (50 + 4 * x + 3) = 0 := fun z => ds (decide_eq_true z)
            rw [if_neg d]
            simp (disch := omega) only [x_6_0, x_4_1, x_79_2_12_d0, x_79_2_12_d1, x_79_2_12_d2, x_79_2_12_d3, x_79_2_12_d4, x_69, x_1, x_60, x_61, x_36, x_33, x_73, x_85, x_4_2, x_79_3_12_d0, x_79_3_12_d1, x_79_3_12_d2, x_79_3_12_d3, x_79_3_12_d4, x_79_4_12_d0, x_79_4_12_d1, x_79_4_12_d2, x_79_4_12_d3, x_79_4_12_d4, x_68, x_13, x_11, x_62, cb_ri, cb_rl, cb_rv, cb_th, cb_ite, ps_s, ps_n, u_244_0, u_244_13, u_244_14, u_244_26, u_244_63, u_244_64, u_244_91, u_244_92, u_244_103, u_244_104, u_244_111, u_244_112, ih, hs_eq, hh, st, n0, n1, it, e, b1, d, Int.reduceEq, Int.reduceLT, Int.reduceLE, reduceIte, Int.reduceAdd, Int.reduceSub, Int.reduceMul, Int.reduceNeg, Int.reduceToNat, Bool.false_eq_true, eq_self, if_pos, if_neg, w32_id]
  · rw [if_neg c] at cp
    refine AGb_e I 2 (by decide) ⟨h, ?_, Sm_r _ _⟩ (fun g s J => ⟨0, hset g 186 0 0 1, ?_, hs_eq _ _ _ _ _, rsc_186 g 1⟩)
    · show cl (lc + 80) _ _ _ = _
      rw [in_97]
      simp (disch := omega) only [x_6_0, x_4_1, x_79_2_11_d0, x_79_2_11_d1, x_79_2_11_d2, x_79_2_11_d3, x_79_2_11_d4, x_4_2, x_69, x_35_0, x_34, x_38_134, x_38_135, x_79_4_7_d0, x_79_4_7_d1, x_79_4_7_d2, x_79_4_7_d3, x_79_4_7_d4, x_68, x_84, x_79_2_5_d0, x_79_2_5_d1, x_79_2_5_d2, x_79_2_5_d3, x_79_2_5_d4, x_33, x_7_3_I, x_7_3_A, x_7_3_U, x_4_3, x_80_3_d0, x_80_3_d1, x_80_3_d2, x_80_3_d3, x_80_3_d4, x_36, x_62, x_1, x_60, x_61, x_85, cb_ri, cb_rl, cb_rv, cb_th, cb_ite, ps_s, ps_n, u_97_0, u_97_48, u_97_95, u_97_96, cp]
    · have ih := inN J (lr + 77) p
      rw [if_neg c] at ih
      show cl (lr + 80) _ _ _ = _
      rw [in_244]
      simp (disch := omega) only [x_6_0, x_4_1, x_79_2_12_d0, x_79_2_12_d1, x_79_2_12_d2, x_79_2_12_d3, x_79_2_12_d4, x_69, x_1, x_60, x_61, x_36, x_33, x_73, x_85, x_4_2, x_79_3_12_d0, x_79_3_12_d1, x_79_3_12_d2, x_79_3_12_d3, x_79_3_12_d4, x_79_4_12_d0, x_79_4_12_d1, x_79_4_12_d2, x_79_4_12_d3, x_79_4_12_d4, x_68, x_13, x_11, x_62, cb_ri, cb_rl, cb_rv, cb_th, cb_ite, ps_s, ps_n, u_244_0, u_244_13, u_244_14, u_244_26, u_244_63, u_244_64, u_244_91, u_244_92, u_244_103, u_244_104, u_244_111, u_244_112, ih, hs_eq, Int.reduceEq, Int.reduceLT, Int.reduceLE, reduceIte, Int.reduceAdd, Int.reduceSub, Int.reduceMul, Int.reduceNeg, Int.reduceToNat, Bool.false_eq_true, eq_self, if_pos, if_neg]
theorem ag_shift (lc lr H N : Nat) (p w : Int) (h : Hp) (I : INV h H N) : AGt t201 (fun h => cl (lc + 80) 98 [aA 11 0, aI p, aI w] h) (fun h => cl (lr + 80) 245 [aA 12 0, aI p, aI w] h) h := by
  have hN := I.1.2.1.2.1.2.1
  have cp := checkNote_c (lc + 78) N p h I.1.1.2.1.1
  have cb := checkBeat_c (lc + 78) w h
  have ib : ∀ g : Hp, _ := fun g => isBeat_c (lr + 77) w g
  by_cases c : 0 ≤ p ∧ p < N
  · rw [if_pos c] at cp
    by_cases cw : 0 ≤ w ∧ w < 12
    · rw [if_pos cw] at cb
      have ib : ∀ g : Hp, cl (lr + 79) 178 [aI w] g = ri 1 g := fun g => by have := ib g; rw [if_pos cw] at this; exact this
      obtain ⟨x, rfl⟩ := Int.eq_ofNat_of_zero_le c.1
      have hx : x < N := by omega
      obtain ⟨m0, m1, -⟩ := I.1.1.2.1.2.2.2 x hx
      have os := isStanding_c (lc + 78) 0 N x (h 187 0) h I.1.1.2.1 hx
      have oc := isOccupied_c (lc + 77) 0 N (h 187 0) w (h 187 0 (50 + 4 * x + 1)) (x : Int) h I.1.1.2.1
      have st : ∀ g : Hp, g 187 0 = h 187 0 → cl (lr + 79) 180 [aA 12 0, aI (x : Int)] g = ri (if stB (h 187 0) x = true then 1 else 0) g := fun g g7 => by have := stands_c (lr + 77) x g (by omega); rw [g7] at this; exact this
      have n0 : ∀ g : Hp, g 187 0 = h 187 0 → cl (lr + 79) 175 [aA 12 0, aI (x : Int), aI 0] g = ri (h 187 0 (50 + 4 * x)) g := fun g g7 => by have := ofNote_c (lr + 78) x 0 g (by omega) (by omega); rw [g7] at this; exact this
      have n1 : ∀ g : Hp, g 187 0 = h 187 0 → cl (lr + 79) 175 [aA 12 0, aI (x : Int), aI 1] g = ri (h 187 0 (50 + 4 * x + 1)) g := fun g g7 => by have := ofNote_c (lr + 78) x 1 g (by omega) (by omega); rw [g7] at this; exact this
      have it : ∀ g : Hp, g 187 0 = h 187 0 → cl (lr + 79) 182 [aA 12 0, aI (h 187 0 (50 + 4 * x + 1)), aI w, aI (x : Int)] g = ri (if anyB (thB (h 187 0) (h 187 0 (50 + 4 * x + 1)) w (x : Int)) N = true then 1 else 0) g := fun g g7 => by have := isThere_c (lr + 76) N (h 187 0 (50 + 4 * x + 1)) w (x : Int) g (by rw [g7]; exact I.1.2.1.2.1.1) hN; rw [g7] at this; exact this
      by_cases d0 : h 187 0 (50 + 4 * x) = w
      · refine AGt_e I 0 (by decide) ⟨h, ?_, Sm_r _ _⟩ (fun g s J => ⟨0, hset (hset g 186 0 0 0) 186 0 0 2, ?_, hs_eq _ _ _ _ _, Sm_t (rsc_186 _ _) (rsc_186 _ 2)⟩)
        · show cl (lc + 80) _ _ _ = _
          rw [in_98]
          simp (disch := omega) only [x_6_0, x_4_1, x_79_2_11_d0, x_79_2_11_d1, x_79_2_11_d2, x_79_2_11_d3, x_79_2_11_d4, x_4_2, x_80_1_d0, x_80_1_d1, x_80_1_d2, x_80_1_d3, x_80_1_d4, x_35_0, x_34, x_38_134, x_38_135, x_7_3_I, x_7_3_A, x_7_3_U, x_4_3, x_63, x_84, x_79_2_7_d0, x_79_2_7_d1, x_79_2_7_d2, x_79_2_7_d3, x_79_2_7_d4, x_68, x_79_4_7_d0, x_79_4_7_d1, x_79_4_7_d2, x_79_4_7_d3, x_79_4_7_d4, x_79_2_5_d0, x_79_2_5_d1, x_79_2_5_d2, x_79_2_5_d3, x_79_2_5_d4, x_39_134, x_39_135, x_82, cb_ri, cb_rl, cb_rv, cb_th, cb_ite, ps_s, ps_n, u_98_0, u_98_35, u_98_77, cp, cb, tn, m0, d0, Int.reduceEq, Int.reduceLT, Int.reduceLE, reduceIte, Int.reduceAdd, Int.reduceSub, Int.reduceMul, Int.reduceNeg, Int.reduceToNat, Bool.false_eq_true, eq_self, if_pos, if_neg]
        · have ih := inN J (lr + 77) (x : Int)
          rw [if_pos c] at ih
          have g7 : hset g 186 0 0 0 187 0 = h 187 0 := by rw [h186_m]; exact Sm_187 s scr_187
          have n0 := n0 _ g7
          show cl (lr + 80) _ _ _ = _
          rw [in_245]
          simp (disch := omega) only [x_6_0, x_4_1, x_79_2_12_d0, x_79_2_12_d1, x_79_2_12_d2, x_79_2_12_d3, x_79_2_12_d4, x_68, x_4_2, x_80_1_d0, x_80_1_d1, x_80_1_d2, x_80_1_d3, x_80_1_d4, x_69, x_61, x_1, x_60, x_36, x_33, x_73, x_82, x_79_3_12_d0, x_79_3_12_d1, x_79_3_12_d2, x_79_3_12_d3, x_79_3_12_d4, x_63, x_79_4_12_d0, x_79_4_12_d1, x_79_4_12_d2, x_79_4_12_d3, x_79_4_12_d4, x_13, x_11, cb_ri, cb_rl, cb_rv, cb_th, cb_ite, ps_s, ps_n, u_245_0, u_245_16, u_245_20, u_245_21, u_245_33, u_245_48, u_245_75, u_245_76, u_245_90, u_245_103, ih, ib, hs_eq, n0, d0, Int.reduceEq, Int.reduceLT, Int.reduceLE, reduceIte, Int.reduceAdd, Int.reduceSub, Int.reduceMul, Int.reduceNeg, Int.reduceToNat, Bool.false_eq_true, eq_self, if_pos, if_neg]
      · by_cases dz : stB (h 187 0) x = true ∧ anyB (thB (h 187 0) (h 187 0 (50 + 4 * x + 1)) w (x : Int)) N = true
        · rw [if_pos dz.1] at os
          rw [if_pos dz.2] at oc
          refine AGt_e I 1 (by decide) ⟨h, ?_, Sm_r _ _⟩ (fun g s J => ⟨0, hset (hset g 186 0 0 0) 186 0 0 3, ?_, hs_eq _ _ _ _ _, Sm_t (rsc_186 _ _) (rsc_186 _ 3)⟩)
          · show cl (lc + 80) _ _ _ = _
            rw [in_98]
            simp (disch := omega) only [x_6_0, x_4_1, x_79_2_11_d0, x_79_2_11_d1, x_79_2_11_d2, x_79_2_11_d3, x_79_2_11_d4, x_4_2, x_80_1_d0, x_80_1_d1, x_80_1_d2, x_80_1_d3, x_80_1_d4, x_35_0, x_34, x_38_134, x_38_135, x_7_3_I, x_7_3_A, x_7_3_U, x_4_3, x_63, x_84, x_79_2_7_d0, x_79_2_7_d1, x_79_2_7_d2, x_79_2_7_d3, x_79_2_7_d4, x_68, x_79_4_7_d0, x_79_4_7_d1, x_79_4_7_d2, x_79_4_7_d3, x_79_4_7_d4, x_79_2_5_d0, x_79_2_5_d1, x_79_2_5_d2, x_79_2_5_d3, x_79_2_5_d4, x_39_134, x_39_135, x_82, cb_ri, cb_rl, cb_rv, cb_th, cb_ite, ps_s, ps_n, u_98_0, u_98_35, u_98_77, cp, cb, tn, m0, m1, d0, os, oc, Int.reduceEq, Int.reduceLT, Int.reduceLE, reduceIte, Int.reduceAdd, Int.reduceSub, Int.reduceMul, Int.reduceNeg, Int.reduceToNat, Bool.false_eq_true, eq_self, if_pos, if_neg]
          · have ih := inN J (lr + 77) (x : Int)
            rw [if_pos c] at ih
            have g7 : hset g 186 0 0 0 187 0 = h 187 0 := by rw [h186_m]; exact Sm_187 s scr_187
            have n0 := n0 _ g7
            have n1 := n1 _ g7
            have st := st _ g7
            have it := it _ g7
            rw [if_pos dz.1] at st
            rw [if_pos dz.2] at it
            show cl (lr + 80) _ _ _ = _
            rw [in_245]
            simp (disch := omega) only [x_6_0, x_4_1, x_79_2_12_d0, x_79_2_12_d1, x_79_2_12_d2, x_79_2_12_d3, x_79_2_12_d4, x_68, x_4_2, x_80_1_d0, x_80_1_d1, x_80_1_d2, x_80_1_d3, x_80_1_d4, x_69, x_61, x_1, x_60, x_36, x_33, x_73, x_82, x_79_3_12_d0, x_79_3_12_d1, x_79_3_12_d2, x_79_3_12_d3, x_79_3_12_d4, x_63, x_79_4_12_d0, x_79_4_12_d1, x_79_4_12_d2, x_79_4_12_d3, x_79_4_12_d4, x_13, x_11, cb_ri, cb_rl, cb_rv, cb_th, cb_ite, ps_s, ps_n, u_245_0, u_245_16, u_245_20, u_245_21, u_245_33, u_245_48, u_245_75, u_245_76, u_245_90, u_245_103, ih, ib, hs_eq, n0, n1, st, it, d0, Int.reduceEq, Int.reduceLT, Int.reduceLE, reduceIte, Int.reduceAdd, Int.reduceSub, Int.reduceMul, Int.reduceNeg, Int.reduceToNat, Bool.false_eq_true, eq_self, if_pos, if_neg]
        · have ho : anyB (thB (h 187 0) (h 187 0 (50 + 4 * x + 1)) w (x : Int)) N = false ∨ h 187 0 (50 + 4 * x + 3) ≠ 0 := by
            by_cases z : stB (h 187 0) x = true
            · exact Or.inl (Bool.eq_false_iff.mpr (fun y => dz ⟨z, y⟩))
            · exact Or.inr (fun y => z (decide_eq_true y))
          refine AGt_set (lc := lc) (lr := lr) (H' := H) (N' := N) I (50 + 4 * x) w (h 187 0 (50 + 4 * x)) (by omega) (by omega) (by omega) (GM_b hx (by omega) ho I.1.2.1) (fun hr k1 R => ?_) (fun g g' g7 b1 z6 => ?_)
          · refine ⟨hset hr 134 0 x w, ?_, fun tt k j hf => hs_o (by unfold stFr stTag at hf; omega), RS_bt w hx R⟩
            show cl (lc + 80) _ _ _ = _
            rw [in_98]
            by_cases z : stB (h 187 0) x = true
            · rw [if_pos z] at os
              rw [if_neg (fun y => dz ⟨z, y⟩)] at oc
              simp (disch := omega) only [x_6_0, x_4_1, x_79_2_11_d0, x_79_2_11_d1, x_79_2_11_d2, x_79_2_11_d3, x_79_2_11_d4, x_4_2, x_80_1_d0, x_80_1_d1, x_80_1_d2, x_80_1_d3, x_80_1_d4, x_35_0, x_34, x_38_134, x_38_135, x_7_3_I, x_7_3_A, x_7_3_U, x_4_3, x_63, x_84, x_79_2_7_d0, x_79_2_7_d1, x_79_2_7_d2, x_79_2_7_d3, x_79_2_7_d4, x_68, x_79_4_7_d0, x_79_4_7_d1, x_79_4_7_d2, x_79_4_7_d3, x_79_4_7_d4, x_79_2_5_d0, x_79_2_5_d1, x_79_2_5_d2, x_79_2_5_d3, x_79_2_5_d4, x_39_134, x_39_135, x_82, cb_ri, cb_rl, cb_rv, cb_th, cb_ite, ps_s, ps_n, u_98_0, u_98_35, u_98_77, cp, cb, k1, tn, m0, m1, d0, os, oc, Int.reduceEq, Int.reduceLT, Int.reduceLE, reduceIte, Int.reduceAdd, Int.reduceSub, Int.reduceMul, Int.reduceNeg, Int.reduceToNat, Bool.false_eq_true, eq_self, if_pos, if_neg]
            · rw [if_neg z] at os
              simp (disch := omega) only [x_6_0, x_4_1, x_79_2_11_d0, x_79_2_11_d1, x_79_2_11_d2, x_79_2_11_d3, x_79_2_11_d4, x_4_2, x_80_1_d0, x_80_1_d1, x_80_1_d2, x_80_1_d3, x_80_1_d4, x_35_0, x_34, x_38_134, x_38_135, x_7_3_I, x_7_3_A, x_7_3_U, x_4_3, x_63, x_84, x_79_2_7_d0, x_79_2_7_d1, x_79_2_7_d2, x_79_2_7_d3, x_79_2_7_d4, x_68, x_79_4_7_d0, x_79_4_7_d1, x_79_4_7_d2, x_79_4_7_d3, x_79_4_7_d4, x_79_2_5_d0, x_79_2_5_d1, x_79_2_5_d2, x_79_2_5_d3, x_79_2_5_d4, x_39_134, x_39_135, x_82, cb_ri, cb_rl, cb_rv, cb_th, cb_ite, ps_s, ps_n, u_98_0, u_98_35, u_98_77, cp, cb, k1, tn, m0, m1, d0, os, Int.reduceEq, Int.reduceLT, Int.reduceLE, reduceIte, Int.reduceAdd, Int.reduceSub, Int.reduceMul, Int.reduceNeg, Int.reduceToNat, Bool.false_eq_true, eq_self, if_pos, if_neg]
          · have ih := isNote_c (lr + 77) N (x : Int) g (by rw [g7]; exact I.1.2.1.2.1.1) hN
            rw [if_pos c] at ih
            have g7' : hset g 186 0 0 0 187 0 = h 187 0 := by rw [h186_m]; exact g7
            have hh : hset (hset g 186 0 0 0) 186 0 0 0 = hset g 186 0 0 0 := hs_hs _ _ _ _ _ _
            have e : ((50 : Int) + 4 * (x : Int) + 0) = ((50 + 4 * x : Nat) : Int) := by omega
            have e' : ((50 : Int) + 4 * (x : Int)) = ((50 + 4 * x : Nat) : Int) := by omega
            have st := st _ g7'
            have n0 := n0 _ g7'
            have n1 := n1 _ g7'
            have it := it _ g7'
            show cl (lr + 80) _ _ _ = _
            rw [in_245]
            by_cases z : stB (h 187 0) x = true
            · rw [if_pos z] at st
              rw [if_neg (fun y => dz ⟨z, y⟩)] at it
              simp (disch := omega) only [x_6_0, x_4_1, x_79_2_12_d0, x_79_2_12_d1, x_79_2_12_d2, x_79_2_12_d3, x_79_2_12_d4, x_68, x_4_2, x_80_1_d0, x_80_1_d1, x_80_1_d2, x_80_1_d3, x_80_1_d4, x_69, x_61, x_1, x_60, x_36, x_33, x_73, x_82, x_79_3_12_d0, x_79_3_12_d1, x_79_3_12_d2, x_79_3_12_d3, x_79_3_12_d4, x_63, x_79_4_12_d0, x_79_4_12_d1, x_79_4_12_d2, x_79_4_12_d3, x_79_4_12_d4, x_13, x_11, cb_ri, cb_rl, cb_rv, cb_th, cb_ite, ps_s, ps_n, u_245_0, u_245_16, u_245_20, u_245_21, u_245_33, u_245_48, u_245_75, u_245_76, u_245_90, u_245_103, ih, ib, hs_eq, hh, n0, n1, st, it, d0, e, e', Int.add_zero, b1, Int.reduceEq, Int.reduceLT, Int.reduceLE, reduceIte, Int.reduceAdd, Int.reduceSub, Int.reduceMul, Int.reduceNeg, Int.reduceToNat, Bool.false_eq_true, eq_self, if_pos, if_neg, w32_id]
            · rw [if_neg z] at st
              simp (disch := omega) only [x_6_0, x_4_1, x_79_2_12_d0, x_79_2_12_d1, x_79_2_12_d2, x_79_2_12_d3, x_79_2_12_d4, x_68, x_4_2, x_80_1_d0, x_80_1_d1, x_80_1_d2, x_80_1_d3, x_80_1_d4, x_69, x_61, x_1, x_60, x_36, x_33, x_73, x_82, x_79_3_12_d0, x_79_3_12_d1, x_79_3_12_d2, x_79_3_12_d3, x_79_3_12_d4, x_63, x_79_4_12_d0, x_79_4_12_d1, x_79_4_12_d2, x_79_4_12_d3, x_79_4_12_d4, x_13, x_11, cb_ri, cb_rl, cb_rv, cb_th, cb_ite, ps_s, ps_n, u_245_0, u_245_16, u_245_20, u_245_21, u_245_33, u_245_48, u_245_75, u_245_76, u_245_90, u_245_103, ih, ib, hs_eq, hh, n0, n1, st, d0, e, e', Int.add_zero, b1, Int.reduceEq, Int.reduceLT, Int.reduceLE, reduceIte, Int.reduceAdd, Int.reduceSub, Int.reduceMul, Int.reduceNeg, Int.reduceToNat, Bool.false_eq_true, eq_self, if_pos, if_neg, w32_id]
    · rw [if_neg cw] at cb
      have ib : ∀ g : Hp, cl (lr + 79) 178 [aI w] g = ri 0 g := fun g => by have := ib g; rw [if_neg cw] at this; exact this
      refine AGt_e I 2 (by decide) ⟨h, ?_, Sm_r _ _⟩ (fun g s J => ⟨0, hset g 186 0 0 1, ?_, hs_eq _ _ _ _ _, rsc_186 g 1⟩)
      · show cl (lc + 80) _ _ _ = _
        rw [in_98]
        simp (disch := omega) only [x_6_0, x_4_1, x_79_2_11_d0, x_79_2_11_d1, x_79_2_11_d2, x_79_2_11_d3, x_79_2_11_d4, x_4_2, x_80_1_d0, x_80_1_d1, x_80_1_d2, x_80_1_d3, x_80_1_d4, x_35_0, x_34, x_38_134, x_38_135, x_7_3_I, x_7_3_A, x_7_3_U, x_4_3, x_63, x_84, x_79_2_7_d0, x_79_2_7_d1, x_79_2_7_d2, x_79_2_7_d3, x_79_2_7_d4, x_68, x_79_4_7_d0, x_79_4_7_d1, x_79_4_7_d2, x_79_4_7_d3, x_79_4_7_d4, x_79_2_5_d0, x_79_2_5_d1, x_79_2_5_d2, x_79_2_5_d3, x_79_2_5_d4, x_39_134, x_39_135, x_82, cb_ri, cb_rl, cb_rv, cb_th, cb_ite, ps_s, ps_n, u_98_0, u_98_35, u_98_77, cp, cb]
      · have ih := inN J (lr + 77) p
        rw [if_pos c] at ih
        show cl (lr + 80) _ _ _ = _
        rw [in_245]
        simp (disch := omega) only [x_6_0, x_4_1, x_79_2_12_d0, x_79_2_12_d1, x_79_2_12_d2, x_79_2_12_d3, x_79_2_12_d4, x_68, x_4_2, x_80_1_d0, x_80_1_d1, x_80_1_d2, x_80_1_d3, x_80_1_d4, x_69, x_61, x_1, x_60, x_36, x_33, x_73, x_82, x_79_3_12_d0, x_79_3_12_d1, x_79_3_12_d2, x_79_3_12_d3, x_79_3_12_d4, x_63, x_79_4_12_d0, x_79_4_12_d1, x_79_4_12_d2, x_79_4_12_d3, x_79_4_12_d4, x_13, x_11, cb_ri, cb_rl, cb_rv, cb_th, cb_ite, ps_s, ps_n, u_245_0, u_245_16, u_245_20, u_245_21, u_245_33, u_245_48, u_245_75, u_245_76, u_245_90, u_245_103, ih, ib, hs_eq, Int.reduceEq, Int.reduceLT, Int.reduceLE, reduceIte, Int.reduceAdd, Int.reduceSub, Int.reduceMul, Int.reduceNeg, Int.reduceToNat, Bool.false_eq_true, eq_self, if_pos, if_neg]
  · rw [if_neg c] at cp
    refine AGt_e I 2 (by decide) ⟨h, ?_, Sm_r _ _⟩ (fun g s J => ⟨0, hset g 186 0 0 1, ?_, hs_eq _ _ _ _ _, rsc_186 g 1⟩)
    · show cl (lc + 80) _ _ _ = _
      rw [in_98]
      simp (disch := omega) only [x_6_0, x_4_1, x_79_2_11_d0, x_79_2_11_d1, x_79_2_11_d2, x_79_2_11_d3, x_79_2_11_d4, x_4_2, x_80_1_d0, x_80_1_d1, x_80_1_d2, x_80_1_d3, x_80_1_d4, x_35_0, x_34, x_38_134, x_38_135, x_7_3_I, x_7_3_A, x_7_3_U, x_4_3, x_63, x_84, x_79_2_7_d0, x_79_2_7_d1, x_79_2_7_d2, x_79_2_7_d3, x_79_2_7_d4, x_68, x_79_4_7_d0, x_79_4_7_d1, x_79_4_7_d2, x_79_4_7_d3, x_79_4_7_d4, x_79_2_5_d0, x_79_2_5_d1, x_79_2_5_d2, x_79_2_5_d3, x_79_2_5_d4, x_39_134, x_39_135, x_82, cb_ri, cb_rl, cb_rv, cb_th, cb_ite, ps_s, ps_n, u_98_0, u_98_35, u_98_77, cp]
    · have ih := inN J (lr + 77) p
      rw [if_neg c] at ih
      show cl (lr + 80) _ _ _ = _
      rw [in_245]
      simp (disch := omega) only [x_6_0, x_4_1, x_79_2_12_d0, x_79_2_12_d1, x_79_2_12_d2, x_79_2_12_d3, x_79_2_12_d4, x_68, x_4_2, x_80_1_d0, x_80_1_d1, x_80_1_d2, x_80_1_d3, x_80_1_d4, x_69, x_61, x_1, x_60, x_36, x_33, x_73, x_82, x_79_3_12_d0, x_79_3_12_d1, x_79_3_12_d2, x_79_3_12_d3, x_79_3_12_d4, x_63, x_79_4_12_d0, x_79_4_12_d1, x_79_4_12_d2, x_79_4_12_d3, x_79_4_12_d4, x_13, x_11, cb_ri, cb_rl, cb_rv, cb_th, cb_ite, ps_s, ps_n, u_245_0, u_245_16, u_245_20, u_245_21, u_245_33, u_245_48, u_245_75, u_245_76, u_245_90, u_245_103, ih, hs_eq, Int.reduceEq, Int.reduceLT, Int.reduceLE, reduceIte, Int.reduceAdd, Int.reduceSub, Int.reduceMul, Int.reduceNeg, Int.reduceToNat, Bool.false_eq_true, eq_self, if_pos, if_neg]
