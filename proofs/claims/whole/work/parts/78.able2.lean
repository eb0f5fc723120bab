/-! THE CLASS: hands of a state, seven at most; which hands can have a note. -/
def HdV (h : Hp) (s i Hn : Nat) (pl at' re sk ti : Int) (bd : Bool) : Prop := (h 139 s 0 = (Hn : Int) ∧ Hn ≤ 7 ∧ i < Hn) ∧ (h 129 s i = pl ∧ h 130 s i = at' ∧ h 131 s i = re ∧ h 132 s i = sk ∧ h 133 s i = ti) ∧ ((0 ≤ pl ∧ pl ≤ 2) ∧ (0 ≤ at' ∧ at' ≤ 63) ∧ (0 ≤ re ∧ re ≤ 40) ∧ (0 ≤ sk ∧ sk ≤ 9) ∧ (0 ≤ ti ∧ ti ≤ 99)) ∧ ∃ c : Nat, h 141 s 0 = (c : Int) ∧ c < 128 ∧ c.testBit i = bd
def NV (M : Nat → Int) (n : Nat) : Prop := (0 ≤ M (50 + 4 * n) ∧ M (50 + 4 * n) ≤ 11) ∧ (0 ≤ M (50 + 4 * n + 1) ∧ M (50 + 4 * n + 1) ≤ 63) ∧ (0 ≤ M (50 + 4 * n + 2) ∧ M (50 + 4 * n + 2) ≤ 9)
def ablV (M : Nat → Int) (L : List LN) (i : Nat) (pl at' re sk ti : Int) (bd : Bool) (n : Nat) (b : Int) : Bool := !bd && decide (M (50 + 4 * n + 2) ≤ sk - ti / 10) && decide (dsV M n at' ≤ rcG M L i re ti pl at' n b)
theorem canB_abl (M : Nat → Int) (L : List LN) (i n : Nat) (b : Int) : canB M L i n b = ablV M L i (M (14 + 6 * i)) (M (14 + 6 * i + 1)) (M (14 + 6 * i + 2)) (M (14 + 6 * i + 3)) (M (14 + 6 * i + 4)) (bdB M i) n b := rfl
theorem reachOf_g (lv k s i n Hn N : Nat) (M : Nat → Int) (h : Hp) (L : List LN) (pl at' re sk ti : Int) (bd : Bool) (V : HdV h s i Hn pl at' re sk ti bd) (RNn : RN h s M N) (x6 : h 145 s 0 = M 6) (g6 : 0 ≤ M 6 ∧ M 6 ≤ 9999) (gn : NV M n) (W : LawW h k L) (hn : n < N) :
    ∃ h', cl (lv + 2) 10 [aA 1 k, aA 7 s, aI (i : Int), aI (n : Int)] h = ri (rcG M L i re ti pl at' n (M (50 + 4 * n))) h' ∧ ∀ tt kk j, ¬ lwFr k tt kk → h' tt kk j = h tt kk j := by
  obtain ⟨⟨r1, r2, hi⟩, ⟨p1, p2, p3, p4, p5⟩, ⟨b1, b2, b3, b4, b5⟩, -⟩ := V
  obtain ⟨s1, s2, -, s3⟩ := RNn
  obtain ⟨q1, q2, q3⟩ := s3 n hn
  unfold NV at gn
  have hO : FOk (nmV M (i : Int) ti pl at' n (M (50 + 4 * n))) := by
    refine fN_ok ?_ ?_ ?_ ?_ ?_ ?_ ?_ ?_ ?_
    all_goals first
      | omega
      | (split <;> omega)
  let h0 : Hp := hset (hset (hset (hset h 107 k 0 (i : Int)) 107 k 3 ti) 107 k 4 pl) 107 k 7 (if M (50 + 4 * n + 1) < at' then 1 else 0)
  have same : ∀ tt kk j, ¬ lwFr k tt kk → h0 tt kk j = h tt kk j := by
    intro tt kk j hf
    unfold lwFr at hf
    show hset _ _ _ _ _ _ _ _ = _
    rw [hs_o (by omega), hs_o (by omega), hs_o (by omega), hs_o (by omega)]
  have W' := LawW_same same W
  obtain ⟨h', w1, w2, w3, w4⟩ := work_c lv k s n (nmV M (i : Int) ti pl at' n (M (50 + 4 * n))) h0 L W' hO (by omega) (by simp [h0, hset, nmV, fN]) (by rw [same _ _ _ (by unfold lwFr; omega), q2]; rfl) (by rw [same _ _ _ (by unfold lwFr; omega), q3]; rfl) (by simp [h0, hset, nmV, fN]) (by simp [h0, hset, nmV, fN]) (by rw [same _ _ _ (by unfold lwFr; omega), q1]; rfl) (by rw [same _ _ _ (by unfold lwFr; omega), x6]; rfl) (by simp [h0, hset, nmV, fN]) (by rw [same _ _ _ (by unfold lwFr; omega), q2]; rfl)
  have hall : ∀ tt kk j, ¬ lwFr k tt kk → h' tt kk j = h tt kk j := fun tt kk j hf => by rw [w4 tt kk j hf, same tt kk j hf]
  refine ⟨h', ?_, hall⟩
  have z1 : h' 131 s i = re := by rw [hall _ _ _ (by unfold lwFr; omega)]; exact p3
  have gb := gainS_b (nmV M (i : Int) ti pl at' n (M (50 + 4 * n))) L W.2.2.2.2.2.2
  have hl := W.2.2.2.2.1
  rw [in_10]
  unfold rcG
  by_cases c : M (50 + 4 * n + 1) < at'
  · have e0 : h0 = hset (hset (hset (hset h 107 k 0 (i : Int)) 107 k 3 ti) 107 k 4 pl) 107 k 7 1 := by show hset _ _ _ _ _ = _; rw [if_pos c]
    rw [e0] at w1
    simp (disch := omega) only [x_4_2, x_70, x_6_1, x_33, x_65, x_4_3, x_64, x_61, x_1, x_82, x_6_0, x_34, x_39_107, x_39_129, x_39_130, x_39_131, x_39_133, x_39_135, x_38_107, x_38_129, x_38_130, x_38_131, x_38_133, x_38_135, x_60, x_79_3_1_d0, x_79_3_1_d1, x_79_3_1_d2, x_79_3_1_d3, x_79_3_1_d4, x_11, x_80_2_d0, x_80_2_d1, x_80_2_d2, x_80_2_d3, x_80_2_d4, cb_ri, cb_rl, cb_rv, cb_th, cb_ite, ps_s, ps_n, u_10_0, u_10_24, u_10_26, u_10_82, u_10_83, r1, s1, p1, p2, p3, p5, q2, c, hs_t, tn, w1, w2, z1, w32_id, max_c, Int.reduceEq, Int.reduceLT, Int.reduceLE, reduceIte, Int.reduceAdd, Int.reduceSub, Int.reduceMul, Int.reduceNeg, Int.reduceToNat, Bool.false_eq_true, eq_self, if_pos, if_neg]
  · have e0 : h0 = hset (hset (hset (hset h 107 k 0 (i : Int)) 107 k 3 ti) 107 k 4 pl) 107 k 7 0 := by show hset _ _ _ _ _ = _; rw [if_neg c]
    rw [e0] at w1
    simp (disch := omega) only [x_4_2, x_70, x_6_1, x_33, x_65, x_4_3, x_64, x_61, x_1, x_82, x_6_0, x_34, x_39_107, x_39_129, x_39_130, x_39_131, x_39_133, x_39_135, x_38_107, x_38_129, x_38_130, x_38_131, x_38_133, x_38_135, x_60, x_79_3_1_d0, x_79_3_1_d1, x_79_3_1_d2, x_79_3_1_d3, x_79_3_1_d4, x_11, x_80_2_d0, x_80_2_d1, x_80_2_d2, x_80_2_d3, x_80_2_d4, cb_ri, cb_rl, cb_rv, cb_th, cb_ite, ps_s, ps_n, u_10_0, u_10_24, u_10_26, u_10_82, u_10_83, r1, s1, p1, p2, p3, p5, q2, c, hs_t, tn, w1, w2, z1, w32_id, max_c, Int.reduceEq, Int.reduceLT, Int.reduceLE, reduceIte, Int.reduceAdd, Int.reduceSub, Int.reduceMul, Int.reduceNeg, Int.reduceToNat, Bool.false_eq_true, eq_self, if_pos, if_neg]
theorem isAble_g (lv k s i n Hn N : Nat) (M : Nat → Int) (h : Hp) (L : List LN) (pl at' re sk ti : Int) (bd : Bool) (V : HdV h s i Hn pl at' re sk ti bd) (RNn : RN h s M N) (x6 : h 145 s 0 = M 6) (g6 : 0 ≤ M 6 ∧ M 6 ≤ 9999) (gn : NV M n) (W : LawW h k L) (hn : n < N) :
    ∃ h', cl (lv + 3) 9 [aA 1 k, aA 7 s, aI (i : Int), aI (n : Int)] h = ri (boI (stB M n && ablV M L i pl at' re sk ti bd n (M (50 + 4 * n)))) h' ∧ ∀ tt kk j, ¬ lwFr k tt kk → h' tt kk j = h tt kk j := by
  obtain ⟨h', rc, same⟩ := reachOf_g lv k s i n Hn N M h L pl at' re sk ti bd V RNn x6 g6 gn W hn
  obtain ⟨⟨r1, r2, hi⟩, ⟨p1, p2, p3, p4, p5⟩, ⟨b1, b2, b3, b4, b5⟩, c, hc1, hc2, hc3⟩ := V
  have st := isStanding_c (lv + 1) s N n M h RNn hn
  obtain ⟨s1, s2, -, s3⟩ := RNn
  obtain ⟨q1, q2, q3⟩ := s3 n hn
  unfold NV at gn
  have bt := bit_n (a := c) (i := i) (by omega) (by omega)
  have dv : idiv ti 10 = ti / 10 := by
    have := idiv_10 ti.toNat (by omega)
    rw [show ((ti.toNat : Nat) : Int) = ti by omega] at this
    rw [this]
    omega
  rw [hc3] at bt
  rw [in_9]
  unfold ablV
  cases bd with
  | true =>
    refine ⟨h, ?_, fun _ _ _ _ => rfl⟩
    rw [if_pos rfl] at bt
    simp (disch := omega) only [x_4_2, x_70, x_6_1, x_33, x_65, x_4_3, x_64, x_61, x_1, x_85, x_21, x_17, x_69, x_79_2_7_d0, x_79_2_7_d1, x_79_2_7_d2, x_79_2_7_d3, x_79_2_7_d4, x_34, x_38_130, x_38_132, x_38_133, x_38_135, x_38_136, x_14, x_12, x_80_1_d0, x_80_1_d1, x_80_1_d2, x_80_1_d3, x_80_1_d4, x_6_0, x_79_4_1_d0, x_79_4_1_d1, x_79_4_1_d2, x_79_4_1_d3, x_79_4_1_d4, x_66, x_60, cb_ri, cb_rl, cb_rv, cb_th, cb_ite, ps_s, ps_n, u_9_0, u_9_24, u_9_26, u_9_45, u_9_47, u_9_102, u_9_103, r1, s1, hc1, bt, Bool.not_true, Bool.false_and, Bool.and_false, boI, Int.reduceEq, Int.reduceLT, Int.reduceLE, reduceIte, Int.reduceAdd, Int.reduceSub, Int.reduceMul, Int.reduceNeg, Int.reduceToNat, Bool.false_eq_true, eq_self, if_pos, if_neg]
  | false =>
    rw [if_neg Bool.false_ne_true] at bt
    by_cases h2 : stB M n = true
    · rw [if_pos h2] at st
      by_cases h3 : M (50 + 4 * n + 2) ≤ sk - ti / 10
      · refine ⟨h', ?_, same⟩
        have ab := abs_c (lv + 1) (M (50 + 4 * n + 1) - at') h (by omega) (by omega)
        have eds : (if M (50 + 4 * n + 1) - at' < 0 then -(M (50 + 4 * n + 1) - at') else M (50 + 4 * n + 1) - at') = dsV M n at' := rfl
        rw [eds] at ab
        by_cases h4 : dsV M n at' ≤ rcG M L i re ti pl at' n (M (50 + 4 * n))
        · rw [h2, decide_eq_true h3, decide_eq_true h4]
          simp (disch := omega) only [x_4_2, x_70, x_6_1, x_33, x_65, x_4_3, x_64, x_61, x_1, x_85, x_21, x_17, x_69, x_79_2_7_d0, x_79_2_7_d1, x_79_2_7_d2, x_79_2_7_d3, x_79_2_7_d4, x_34, x_38_130, x_38_132, x_38_133, x_38_135, x_38_136, x_14, x_12, x_80_1_d0, x_80_1_d1, x_80_1_d2, x_80_1_d3, x_80_1_d4, x_6_0, x_79_4_1_d0, x_79_4_1_d1, x_79_4_1_d2, x_79_4_1_d3, x_79_4_1_d4, x_66, x_60, cb_ri, cb_rl, cb_rv, cb_th, cb_ite, ps_s, ps_n, u_9_0, u_9_24, u_9_26, u_9_45, u_9_47, u_9_102, u_9_103, r1, s1, hc1, bt, st, p2, p4, p5, q2, q3, dv, tn, ab, rc, w32_id, Int.reduceEq, Int.reduceLT, Int.reduceLE, reduceIte, Int.reduceAdd, Int.reduceSub, Int.reduceMul, Int.reduceNeg, Int.reduceToNat, Bool.false_eq_true, eq_self, if_pos, if_neg]
          rfl
        · rw [h2, decide_eq_true h3, decide_eq_false h4]
          simp (disch := omega) only [x_4_2, x_70, x_6_1, x_33, x_65, x_4_3, x_64, x_61, x_1, x_85, x_21, x_17, x_69, x_79_2_7_d0, x_79_2_7_d1, x_79_2_7_d2, x_79_2_7_d3, x_79_2_7_d4, x_34, x_38_130, x_38_132, x_38_133, x_38_135, x_38_136, x_14, x_12, x_80_1_d0, x_80_1_d1, x_80_1_d2, x_80_1_d3, x_80_1_d4, x_6_0, x_79_4_1_d0, x_79_4_1_d1, x_79_4_1_d2, x_79_4_1_d3, x_79_4_1_d4, x_66, x_60, cb_ri, cb_rl, cb_rv, cb_th, cb_ite, ps_s, ps_n, u_9_0, u_9_24, u_9_26, u_9_45, u_9_47, u_9_102, u_9_103, r1, s1, hc1, bt, st, p2, p4, p5, q2, q3, dv, tn, ab, rc, w32_id, Int.reduceEq, Int.reduceLT, Int.reduceLE, reduceIte, Int.reduceAdd, Int.reduceSub, Int.reduceMul, Int.reduceNeg, Int.reduceToNat, Bool.false_eq_true, eq_self, if_pos, if_neg]
          rfl
      · refine ⟨h, ?_, fun _ _ _ _ => rfl⟩
        rw [h2, decide_eq_false h3]
        simp (disch := omega) only [x_4_2, x_70, x_6_1, x_33, x_65, x_4_3, x_64, x_61, x_1, x_85, x_21, x_17, x_69, x_79_2_7_d0, x_79_2_7_d1, x_79_2_7_d2, x_79_2_7_d3, x_79_2_7_d4, x_34, x_38_130, x_38_132, x_38_133, x_38_135, x_38_136, x_14, x_12, x_80_1_d0, x_80_1_d1, x_80_1_d2, x_80_1_d3, x_80_1_d4, x_6_0, x_79_4_1_d0, x_79_4_1_d1, x_79_4_1_d2, x_79_4_1_d3, x_79_4_1_d4, x_66, x_60, cb_ri, cb_rl, cb_rv, cb_th, cb_ite, ps_s, ps_n, u_9_0, u_9_24, u_9_26, u_9_45, u_9_47, u_9_102, u_9_103, r1, s1, hc1, bt, st, p2, p4, p5, q2, q3, dv, tn, w32_id, Bool.and_false, Bool.false_and, boI, Int.reduceEq, Int.reduceLT, Int.reduceLE, reduceIte, Int.reduceAdd, Int.reduceSub, Int.reduceMul, Int.reduceNeg, Int.reduceToNat, Bool.false_eq_true, eq_self, if_pos, if_neg]
    · rw [if_neg h2] at st
      rw [Bool.not_eq_true] at h2
      refine ⟨h, ?_, fun _ _ _ _ => rfl⟩
      simp (disch := omega) only [x_4_2, x_70, x_6_1, x_33, x_65, x_4_3, x_64, x_61, x_1, x_85, x_21, x_17, x_69, x_79_2_7_d0, x_79_2_7_d1, x_79_2_7_d2, x_79_2_7_d3, x_79_2_7_d4, x_34, x_38_130, x_38_132, x_38_133, x_38_135, x_38_136, x_14, x_12, x_80_1_d0, x_80_1_d1, x_80_1_d2, x_80_1_d3, x_80_1_d4, x_6_0, x_79_4_1_d0, x_79_4_1_d1, x_79_4_1_d2, x_79_4_1_d3, x_79_4_1_d4, x_66, x_60, cb_ri, cb_rl, cb_rv, cb_th, cb_ite, ps_s, ps_n, u_9_0, u_9_24, u_9_26, u_9_45, u_9_47, u_9_102, u_9_103, r1, s1, hc1, bt, st, h2, Bool.false_and, boI, Int.reduceEq, Int.reduceLT, Int.reduceLE, reduceIte, Int.reduceAdd, Int.reduceSub, Int.reduceMul, Int.reduceNeg, Int.reduceToNat, Bool.false_eq_true, eq_self, if_pos, if_neg]
/-- what states and the law are made of -/
def qT (tt : Nat) : Prop := (104 ≤ tt ∧ tt ≤ 106) ∨ (109 ≤ tt ∧ tt ≤ 110) ∨ (121 ≤ tt ∧ tt ≤ 147)
theorem RS_q {h g : Hp} {s : Nat} {M : Nat → Int} {H N : Nat} (e : ∀ tt kk j, qT tt → g tt kk j = h tt kk j) (R : RS h s M H N) : RS g s M H N :=
  RS_same (fun t ht => by funext i; exact e t s i (by unfold qT; unfold stTag at ht; omega)) R
theorem LawW_q {h g : Hp} {k : Nat} {L : List LN} (e : ∀ tt kk j, qT tt → g tt kk j = h tt kk j) (W : LawW h k L) : LawW g k L := by
  obtain ⟨W1, W2, W3, W4, W5⟩ := W
  refine ⟨?_, ?_, ?_, ?_, W5⟩
  · rw [e _ _ _ (by unfold qT; omega)]; exact W1
  · rw [e _ _ _ (by unfold qT; omega)]; exact W2
  · intro i hi; rw [e _ _ _ (by unfold qT; omega), e _ _ _ (by unfold qT; omega)]; exact W3 i hi
  · intro i hi; rw [e _ _ _ (by unfold qT; omega)]; exact W4 i hi
/-- which hands of state s can have which notes, as long as states and law stay -/
def AbS (h : Hp) (s Hn N : Nat) (ab : Nat → Nat → Bool) : Prop := (h 139 s 0 = (Hn : Int) ∧ Hn ≤ 7 ∧ h 140 s 0 = (N : Int) ∧ N ≤ 14) ∧ ∀ (lv i n : Nat) (g : Hp), i < Hn → n < N → (∀ tt kk j, qT tt → g tt kk j = h tt kk j) → ∃ h', cl (lv + 3) 9 [aA 1 0, aA 7 s, aI (i : Int), aI (n : Int)] g = ri (boI (ab n i)) h' ∧ ∀ tt kk j, ¬ lwFr 0 tt kk → h' tt kk j = g tt kk j
theorem AbS_q {h g : Hp} {s Hn N : Nat} {ab : Nat → Nat → Bool} (e : ∀ tt kk j, qT tt → g tt kk j = h tt kk j) (B : AbS h s Hn N ab) : AbS g s Hn N ab :=
  ⟨⟨by rw [e _ _ _ (by unfold qT; omega)]; exact B.1.1, B.1.2.1, by rw [e _ _ _ (by unfold qT; omega)]; exact B.1.2.2.1, B.1.2.2.2⟩, fun lv i n g' h1 h2 h3 => B.2 lv i n g' h1 h2 (fun tt kk j hq => by rw [h3 tt kk j hq, e tt kk j hq])⟩
def abM (M : Nat → Int) (L : List LN) (n i : Nat) : Bool := stB M n && canB M L i n (M (50 + 4 * n))
theorem AbS_of {h : Hp} {s H N : Nat} {M : Nat → Int} {L : List LN} (R : RS h s M H N) (G : GM M H N) (W : LawW h 0 L) : AbS h s H N (abM M L) :=
  ⟨⟨R.1.1, by have := R.1.2.1; omega, R.2.1.1, R.2.1.2.1⟩, fun lv i n g h1 h2 h3 => isAble_k lv 0 s i n H N M g L (RS_q h3 R) G (LawW_q h3 W) h1 h2⟩
theorem lw_q {g g' : Hp} (e : ∀ tt kk j, ¬ lwFr 0 tt kk → g' tt kk j = g tt kk j) : ∀ tt kk j, qT tt → g' tt kk j = g tt kk j := fun tt kk j hq => e tt kk j (by unfold qT at hq; unfold lwFr; omega)
theorem handsFor_c (lv s n Hn N : Nat) (h : Hp) (ab : Nat → Nat → Bool) (B : AbS h s Hn N ab) (hn : n < N) :
    ∃ h', cl (lv + 4) 24 [aA 3 0, aA 7 s, aI (n : Int)] h = ri ((bsN (ab n) Hn : Nat) : Int) h' ∧ ∀ tt kk j, ¬ lwFr 0 tt kk → h' tt kk j = h tt kk j := by
  obtain ⟨⟨b1, b2, b3, b4⟩, B⟩ := B
  have main := loop_p (S := Hp) (F := fun j (q : Hp) => run (lv + 3) 24 5 [aA 3 0, aA 7 s, aI (n : Int), aI ((bsN (ab n) j : Nat) : Int), aI (j : Int)] [] q)
    (I := fun j q => ∀ tt kk j, ¬ lwFr 0 tt kk → q tt kk j = h tt kk j)
    (Q := fun r => ∃ h', r = ri ((bsN (ab n) Hn : Nat) : Int) h' ∧ ∀ tt kk j, ¬ lwFr 0 tt kk → h' tt kk j = h tt kk j) (N := Hn) ?_ ?_ h (fun _ _ _ _ => rfl)
  · rw [in_24]
    simp (disch := omega) only [x_1, x_7_3_I, x_7_3_A, x_7_3_U, x_7_4_I, x_7_4_A, x_7_4_U, x_61, x_4_4, x_6_1, x_33, x_65, x_4_3, x_6_0, x_35_0, x_4_2, x_79_4_1_d0, x_79_4_1_d1, x_79_4_1_d2, x_79_4_1_d3, x_79_4_1_d4, x_68, x_20, x_60, x_18, x_10_4_I, x_10_4_A, x_10_4_U, x_82, cb_ri, cb_rl, cb_rv, cb_th, cb_ite, ps_s, ps_n, u_24_0, u_24_36, u_24_37, u_24_45]
    exact main
  · intro j q hj hq
    obtain ⟨h', e1, e2⟩ := B lv j n q hj hn (lw_q hq)
    refine ⟨h', ?_, fun tt kk i hf => by rw [e2 tt kk i hf, hq tt kk i hf]⟩
    have q9 : q 139 s 0 = (Hn : Int) := by rw [hq _ _ _ (by unfold lwFr; omega)]; exact b1
    try simp only
    rw [hd_24_5]
    by_cases c : ab n j = true
    · rw [c] at e1
      have e1 : _ = ri 1 h' := e1
      simp (disch := omega) only [x_1, x_7_3_I, x_7_3_A, x_7_3_U, x_7_4_I, x_7_4_A, x_7_4_U, x_61, x_4_4, x_6_1, x_33, x_65, x_4_3, x_6_0, x_35_0, x_4_2, x_79_4_1_d0, x_79_4_1_d1, x_79_4_1_d2, x_79_4_1_d3, x_79_4_1_d4, x_68, x_20, x_60, x_18, x_10_4_I, x_10_4_A, x_10_4_U, x_82, cb_ri, cb_rl, cb_rv, cb_th, cb_ite, ps_s, ps_n, u_24_0, u_24_36, u_24_37, u_24_45, q9, e1, Int.reduceEq, Int.reduceLT, Int.reduceLE, reduceIte, Int.reduceAdd, Int.reduceSub, Int.reduceMul, Int.reduceNeg, Int.reduceToNat, Bool.false_eq_true, eq_self, if_pos, if_neg, ci, w32_id]
      rw [bs_or _ (by omega), bs_s _ c]
    · rw [Bool.not_eq_true] at c
      rw [c] at e1
      have e1 : _ = ri 0 h' := e1
      simp (disch := omega) only [x_1, x_7_3_I, x_7_3_A, x_7_3_U, x_7_4_I, x_7_4_A, x_7_4_U, x_61, x_4_4, x_6_1, x_33, x_65, x_4_3, x_6_0, x_35_0, x_4_2, x_79_4_1_d0, x_79_4_1_d1, x_79_4_1_d2, x_79_4_1_d3, x_79_4_1_d4, x_68, x_20, x_60, x_18, x_10_4_I, x_10_4_A, x_10_4_U, x_82, cb_ri, cb_rl, cb_rv, cb_th, cb_ite, ps_s, ps_n, u_24_0, u_24_36, u_24_37, u_24_45, q9, e1, Int.reduceEq, Int.reduceLT, Int.reduceLE, reduceIte, Int.reduceAdd, Int.reduceSub, Int.reduceMul, Int.reduceNeg, Int.reduceToNat, Bool.false_eq_true, eq_self, if_pos, if_neg, ci, w32_id]
      rw [show (0 : Int) = ((0 : Nat) : Int) from rfl, ior_n (bsN_mono _ (by omega)) (by omega), Nat.or_zero, bs_f _ c]
  · intro q hq
    have q9 : q 139 s 0 = (Hn : Int) := by rw [hq _ _ _ (by unfold lwFr; omega)]; exact b1
    refine ⟨q, ?_, hq⟩
    try simp only
    rw [hd_24_5]
    simp (disch := omega) only [x_1, x_7_3_I, x_7_3_A, x_7_3_U, x_7_4_I, x_7_4_A, x_7_4_U, x_61, x_4_4, x_6_1, x_33, x_65, x_4_3, x_6_0, x_35_0, x_4_2, x_79_4_1_d0, x_79_4_1_d1, x_79_4_1_d2, x_79_4_1_d3, x_79_4_1_d4, x_68, x_20, x_60, x_18, x_10_4_I, x_10_4_A, x_10_4_U, x_82, cb_ri, cb_rl, cb_rv, cb_th, cb_ite, ps_s, ps_n, u_24_0, u_24_36, u_24_37, u_24_45, q9, Int.reduceEq, Int.reduceLT, Int.reduceLE, reduceIte, Int.reduceAdd, Int.reduceSub, Int.reduceMul, Int.reduceNeg, Int.reduceToNat, Bool.false_eq_true, eq_self, if_pos, if_neg]
def gaFr (tt k : Nat) : Prop := lwFr 0 tt k ∨ (tt = 117 ∧ k = 0)
theorem gather_c (lv s Hn N : Nat) (h : Hp) (ab : Nat → Nat → Bool) (B : AbS h s Hn N ab) :
    ∃ h', cl (lv + 5) 23 [aA 3 0, aA 7 s] h = rv h' ∧ (∀ n, n < N → h' 117 0 n = ((bsN (ab n) Hn : Nat) : Int)) ∧ ∀ tt kk j, ¬ gaFr tt kk → h' tt kk j = h tt kk j := by
  obtain ⟨b1, b2, b3, b4⟩ := B.1
  have main := loop_p (S := Hp) (F := fun j (q : Hp) => run (lv + 4) 23 2 [aA 3 0, aA 7 s, aI (j : Int)] [] q)
    (I := fun j q => (∀ n, n < j → q 117 0 n = ((bsN (ab n) Hn : Nat) : Int)) ∧ ∀ tt kk j, ¬ gaFr tt kk → q tt kk j = h tt kk j)
    (Q := fun r => ∃ h', r = rv h' ∧ (∀ n, n < N → h' 117 0 n = ((bsN (ab n) Hn : Nat) : Int)) ∧ ∀ tt kk j, ¬ gaFr tt kk → h' tt kk j = h tt kk j) (N := N) ?_ ?_ h ⟨fun n hn => by omega, fun _ _ _ _ => rfl⟩
  · rw [in_23]
    simp (disch := omega) only [x_1, x_7_2_I, x_7_2_A, x_7_2_U, x_61, x_4_2, x_6_1, x_33, x_65, x_6_0, x_34, x_79_3_3_d0, x_79_3_3_d1, x_79_3_3_d2, x_79_3_3_d3, x_79_3_3_d4, x_39_117, x_10_2_I, x_10_2_A, x_10_2_U, x_60, x_83, cb_ri, cb_rl, cb_rv, cb_th, cb_ite, ps_s, ps_n, u_23_0, u_23_28]
    exact main
  · rintro j q hj ⟨i1, i2⟩
    have B' : AbS q s Hn N ab := AbS_q (fun tt kk i hq => i2 tt kk i (by unfold qT at hq; unfold gaFr lwFr; omega)) B
    obtain ⟨h', e1, e2⟩ := handsFor_c lv s j Hn N q ab B' hj
    have q9 : q 140 s 0 = (N : Int) := B'.1.2.2.1
    refine ⟨hset h' 117 0 j ((bsN (ab j) Hn : Nat) : Int), ?_, fun n hn => ?_, fun tt kk i hf => ?_⟩
    · try simp only
      rw [hd_23_2]
      simp (disch := omega) only [x_1, x_7_2_I, x_7_2_A, x_7_2_U, x_61, x_4_2, x_6_1, x_33, x_65, x_6_0, x_34, x_79_3_3_d0, x_79_3_3_d1, x_79_3_3_d2, x_79_3_3_d3, x_79_3_3_d4, x_39_117, x_10_2_I, x_10_2_A, x_10_2_U, x_60, x_83, cb_ri, cb_rl, cb_rv, cb_th, cb_ite, ps_s, ps_n, u_23_0, u_23_28, q9, e1, tn, Int.reduceEq, Int.reduceLT, Int.reduceLE, reduceIte, Int.reduceAdd, Int.reduceSub, Int.reduceMul, Int.reduceNeg, Int.reduceToNat, Bool.false_eq_true, eq_self, if_pos, if_neg, ci, w32_id]
    · by_cases e : n = j
      · rw [e, hs_eq]
      · rw [hs_i e, e2 _ _ _ (by unfold lwFr; omega)]; exact i1 n (by omega)
    · rw [hs_o (by unfold gaFr at hf; omega), e2 _ _ _ (fun z => hf (Or.inl z))]
      exact i2 tt kk i hf
  · rintro q ⟨i1, i2⟩
    have q9 : q 140 s 0 = (N : Int) := by rw [i2 _ _ _ (by unfold gaFr lwFr; omega)]; exact b3
    refine ⟨q, ?_, i1, i2⟩
    try simp only
    rw [hd_23_2]
    simp (disch := omega) only [x_1, x_7_2_I, x_7_2_A, x_7_2_U, x_61, x_4_2, x_6_1, x_33, x_65, x_6_0, x_34, x_79_3_3_d0, x_79_3_3_d1, x_79_3_3_d2, x_79_3_3_d3, x_79_3_3_d4, x_39_117, x_10_2_I, x_10_2_A, x_10_2_U, x_60, x_83, cb_ri, cb_rl, cb_rv, cb_th, cb_ite, ps_s, ps_n, u_23_0, u_23_28, q9, Int.reduceEq, Int.reduceLT, Int.reduceLE, reduceIte, Int.reduceAdd, Int.reduceSub, Int.reduceMul, Int.reduceNeg, Int.reduceToNat, Bool.false_eq_true, eq_self, if_pos, if_neg]
