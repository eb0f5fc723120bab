theorem isAble_k (lv k s i n H N : Nat) (M : Nat → Int) (h : Hp) (L : List LN) (R : RS h s M H N) (G : GM M H N) (W : LawW h k L) (hi : i < H) (hn : n < N) :
    ∃ h', cl (lv + 3) 9 [aA 1 k, aA 7 s, aI (i : Int), aI (n : Int)] h = ri (boI (stB M n && canB M L i n (M (50 + 4 * n)))) h' ∧ ∀ tt kk j, ¬ lwFr k tt kk → h' tt kk j = h tt kk j := by
  obtain ⟨h', rc, same⟩ := reachOf_k lv k s i n H N M h L R G W hi hn
  obtain ⟨RHh, RNn, RXx, -⟩ := R
  have st := isStanding_c (lv + 1) s N n M h RNn hn
  obtain ⟨r1, r2, ⟨c, hc1, hc2, hc3⟩, r3⟩ := RHh
  obtain ⟨s1, s2, -, s3⟩ := RNn
  obtain ⟨p1, p2, p3, p4, p5⟩ := r3 i hi
  obtain ⟨q1, q2, q3⟩ := s3 n hn
  have gi := G.1.2.2 i hi
  have gn := G.2.1.2.2.1 n hn
  have hb := hc3 i hi
  have bt := bit_n (a := c) (i := i) (by omega) (by omega)
  have dv : idiv (M (14 + 6 * i + 4)) 10 = M (14 + 6 * i + 4) / 10 := by
    have := idiv_10 (M (14 + 6 * i + 4)).toNat (by omega)
    rw [show (((M (14 + 6 * i + 4)).toNat : Nat) : Int) = M (14 + 6 * i + 4) by omega] at this
    rw [this]
    omega
  rw [hb] at bt
  rw [in_9]
  unfold canB
  by_cases h1 : bdB M i = true
  · refine ⟨h, ?_, fun _ _ _ _ => rfl⟩
    rw [if_pos h1] at bt
    simp (disch := omega) only [x_4_2, x_70, x_6_1, x_33, x_65, x_4_3, x_64, x_61, x_1, x_85, x_21, x_17, x_69, x_79_2_7_d0, x_79_2_7_d1, x_79_2_7_d2, x_79_2_7_d3, x_79_2_7_d4, x_34, x_38_130, x_38_132, x_38_133, x_38_135, x_38_136, x_14, x_12, x_80_1_d0, x_80_1_d1, x_80_1_d2, x_80_1_d3, x_80_1_d4, x_6_0, x_79_4_1_d0, x_79_4_1_d1, x_79_4_1_d2, x_79_4_1_d3, x_79_4_1_d4, x_66, x_60, cb_ri, cb_rl, cb_rv, cb_th, cb_ite, ps_s, ps_n, u_9_0, u_9_24, u_9_26, u_9_45, u_9_47, u_9_102, u_9_103, r1, s1, hc1, bt, h1, Bool.not_true, Bool.false_and, Bool.and_false, boI, Int.reduceEq, Int.reduceLT, Int.reduceLE, reduceIte, Int.reduceAdd, Int.reduceSub, Int.reduceMul, Int.reduceNeg, Int.reduceToNat, Bool.false_eq_true, eq_self, if_pos, if_neg]
  rw [if_neg h1] at bt
  rw [Bool.not_eq_true] at h1
  by_cases h2 : stB M n = true
  · rw [if_pos h2] at st
    by_cases h3 : M (50 + 4 * n + 2) ≤ M (14 + 6 * i + 3) - M (14 + 6 * i + 4) / 10
    · refine ⟨h', ?_, same⟩
      have ab := abs_c (lv + 1) (M (50 + 4 * n + 1) - M (14 + 6 * i + 1)) h (by omega) (by omega)
      by_cases h4 : (if M (50 + 4 * n + 1) - M (14 + 6 * i + 1) < 0 then -(M (50 + 4 * n + 1) - M (14 + 6 * i + 1)) else M (50 + 4 * n + 1) - M (14 + 6 * i + 1)) ≤ rchV M L i n (M (50 + 4 * n))
      · rw [h1, h2, decide_eq_true h3, decide_eq_true h4]
        generalize (if M (50 + 4 * n + 1) - M (14 + 6 * i + 1) < 0 then -(M (50 + 4 * n + 1) - M (14 + 6 * i + 1)) else M (50 + 4 * n + 1) - M (14 + 6 * i + 1)) = av at ab h4
        simp (disch := omega) only [x_4_2, x_70, x_6_1, x_33, x_65, x_4_3, x_64, x_61, x_1, x_85, x_21, x_17, x_69, x_79_2_7_d0, x_79_2_7_d1, x_79_2_7_d2, x_79_2_7_d3, x_79_2_7_d4, x_34, x_38_130, x_38_132, x_38_133, x_38_135, x_38_136, x_14, x_12, x_80_1_d0, x_80_1_d1, x_80_1_d2, x_80_1_d3, x_80_1_d4, x_6_0, x_79_4_1_d0, x_79_4_1_d1, x_79_4_1_d2, x_79_4_1_d3, x_79_4_1_d4, x_66, x_60, cb_ri, cb_rl, cb_rv, cb_th, cb_ite, ps_s, ps_n, u_9_0, u_9_24, u_9_26, u_9_45, u_9_47, u_9_102, u_9_103, r1, s1, hc1, bt, st, p2, p4, p5, q2, q3, dv, tn, ab, rc, w32_id, Int.reduceEq, Int.reduceLT, Int.reduceLE, reduceIte, Int.reduceAdd, Int.reduceSub, Int.reduceMul, Int.reduceNeg, Int.reduceToNat, Bool.false_eq_true, eq_self, if_pos, if_neg]
        rfl
      · rw [h1, h2, decide_eq_true h3, decide_eq_false h4]
        generalize (if M (50 + 4 * n + 1) - M (14 + 6 * i + 1) < 0 then -(M (50 + 4 * n + 1) - M (14 + 6 * i + 1)) else M (50 + 4 * n + 1) - M (14 + 6 * i + 1)) = av at ab h4
        simp (disch := omega) only [x_4_2, x_70, x_6_1, x_33, x_65, x_4_3, x_64, x_61, x_1, x_85, x_21, x_17, x_69, x_79_2_7_d0, x_79_2_7_d1, x_79_2_7_d2, x_79_2_7_d3, x_79_2_7_d4, x_34, x_38_130, x_38_132, x_38_133, x_38_135, x_38_136, x_14, x_12, x_80_1_d0, x_80_1_d1, x_80_1_d2, x_80_1_d3, x_80_1_d4, x_6_0, x_79_4_1_d0, x_79_4_1_d1, x_79_4_1_d2, x_79_4_1_d3, x_79_4_1_d4, x_66, x_60, cb_ri, cb_rl, cb_rv, cb_th, cb_ite, ps_s, ps_n, u_9_0, u_9_24, u_9_26, u_9_45, u_9_47, u_9_102, u_9_103, r1, s1, hc1, bt, st, p2, p4, p5, q2, q3, dv, tn, ab, rc, w32_id, Int.reduceEq, Int.reduceLT, Int.reduceLE, reduceIte, Int.reduceAdd, Int.reduceSub, Int.reduceMul, Int.reduceNeg, Int.reduceToNat, Bool.false_eq_true, eq_self, if_pos, if_neg]
        rfl
    · refine ⟨h, ?_, fun _ _ _ _ => rfl⟩
      rw [h1, h2, decide_eq_false h3]
      simp (disch := omega) only [x_4_2, x_70, x_6_1, x_33, x_65, x_4_3, x_64, x_61, x_1, x_85, x_21, x_17, x_69, x_79_2_7_d0, x_79_2_7_d1, x_79_2_7_d2, x_79_2_7_d3, x_79_2_7_d4, x_34, x_38_130, x_38_132, x_38_133, x_38_135, x_38_136, x_14, x_12, x_80_1_d0, x_80_1_d1, x_80_1_d2, x_80_1_d3, x_80_1_d4, x_6_0, x_79_4_1_d0, x_79_4_1_d1, x_79_4_1_d2, x_79_4_1_d3, x_79_4_1_d4, x_66, x_60, cb_ri, cb_rl, cb_rv, cb_th, cb_ite, ps_s, ps_n, u_9_0, u_9_24, u_9_26, u_9_45, u_9_47, u_9_102, u_9_103, r1, s1, hc1, bt, st, p2, p4, p5, q2, q3, dv, tn, w32_id, Bool.and_false, Bool.false_and, boI, Int.reduceEq, Int.reduceLT, Int.reduceLE, reduceIte, Int.reduceAdd, Int.reduceSub, Int.reduceMul, Int.reduceNeg, Int.reduceToNat, Bool.false_eq_true, eq_self, if_pos, if_neg]
  · rw [if_neg h2] at st
    rw [Bool.not_eq_true] at h2
    refine ⟨h, ?_, fun _ _ _ _ => rfl⟩
    simp (disch := omega) only [x_4_2, x_70, x_6_1, x_33, x_65, x_4_3, x_64, x_61, x_1, x_85, x_21, x_17, x_69, x_79_2_7_d0, x_79_2_7_d1, x_79_2_7_d2, x_79_2_7_d3, x_79_2_7_d4, x_34, x_38_130, x_38_132, x_38_133, x_38_135, x_38_136, x_14, x_12, x_80_1_d0, x_80_1_d1, x_80_1_d2, x_80_1_d3, x_80_1_d4, x_6_0, x_79_4_1_d0, x_79_4_1_d1, x_79_4_1_d2, x_79_4_1_d3, x_79_4_1_d4, x_66, x_60, cb_ri, cb_rl, cb_rv, cb_th, cb_ite, ps_s, ps_n, u_9_0, u_9_24, u_9_26, u_9_45, u_9_47, u_9_102, u_9_103, r1, s1, hc1, bt, st, h2, Bool.false_and, boI, Int.reduceEq, Int.reduceLT, Int.reduceLE, reduceIte, Int.reduceAdd, Int.reduceSub, Int.reduceMul, Int.reduceNeg, Int.reduceToNat, Bool.false_eq_true, eq_self, if_pos, if_neg]
theorem takes_k (lv k s n H N : Nat) (M : Nat → Int) (h : Hp) (L : List LN) (R : RS h s M H N) (G : GM M H N) (W : LawW h k L) (hn : n < N) :
    ∃ h', cl (lv + 2) 11 [aA 1 k, aA 7 s, aI (n : Int)] h = ri (boI (takB M L n (M (50 + 4 * n)))) h' ∧ ∀ tt kk j, ¬ lwFr k tt kk → h' tt kk j = h tt kk j := by
  obtain ⟨RHh, RNn, RXx, -⟩ := R
  obtain ⟨s1, s2, -, s3⟩ := RNn
  obtain ⟨q1, q2, q3⟩ := s3 n hn
  have x6 := RXx.2.2.1
  have gn := G.2.1.2.2.1 n hn
  have hO := nmT_ok (b := M (50 + 4 * n)) G hn (by omega)
  have tk := W.1
  unfold takB
  rw [in_11]
  by_cases c : tkL L = 0
  · refine ⟨h, ?_, fun _ _ _ _ => rfl⟩
    rw [c] at tk
    simp (disch := omega) only [x_4_2, x_70, x_6_1, x_33, x_64, x_61, x_1, x_85, x_6_0, x_69, x_34, x_39_107, x_79_3_1_d0, x_79_3_1_d1, x_79_3_1_d2, x_79_3_1_d3, x_79_3_1_d4, cb_ri, cb_rl, cb_rv, cb_th, cb_ite, ps_s, ps_n, u_11_0, u_11_12, u_11_14, u_11_23, s1, tk, c, decide_true, Bool.true_or, boI, Int.reduceEq, Int.reduceLT, Int.reduceLE, reduceIte, Int.reduceAdd, Int.reduceSub, Int.reduceMul, Int.reduceNeg, Int.reduceToNat, Bool.false_eq_true, eq_self, if_pos, if_neg]
  let h0 : Hp := hset (hset (hset (hset h 107 k 0 6) 107 k 3 0) 107 k 4 3) 107 k 7 0
  have same : ∀ tt kk j, ¬ lwFr k tt kk → h0 tt kk j = h tt kk j := by
    intro tt kk j hf
    unfold lwFr at hf
    show hset _ _ _ _ _ _ _ _ = _
    rw [hs_o (by omega), hs_o (by omega), hs_o (by omega), hs_o (by omega)]
  have W' := LawW_same same W
  obtain ⟨h', w1, w2, w3, w4⟩ := work_c lv k s n (nmT M n (M (50 + 4 * n))) h0 L W' hO (by omega) (by simp [h0, hset, nmT, fN]) (by rw [same _ _ _ (by unfold lwFr; omega), q2]; rfl) (by rw [same _ _ _ (by unfold lwFr; omega), q3]; rfl) (by simp [h0, hset, nmT, fN]) (by simp [h0, hset, nmT, fN]) (by rw [same _ _ _ (by unfold lwFr; omega), q1]; rfl) (by rw [same _ _ _ (by unfold lwFr; omega), x6]; rfl) (by simp [h0, hset, nmT, fN]) (by rw [same _ _ _ (by unfold lwFr; omega), q2]; rfl)
  refine ⟨h', ?_, fun tt kk j hf => by rw [w4 tt kk j hf, same tt kk j hf]⟩
  have w1' : cl (lv + 1) 12 [aA 1 k, aA 7 s, aI (n : Int)] (hset (hset (hset (hset h 107 k 0 6) 107 k 3 0) 107 k 4 3) 107 k 7 0) = rv h' := w1
  rw [decide_eq_false c, Bool.false_or]
  generalize takeS (nmT M n (M (50 + 4 * n))) L = tb at w3
  cases tb with
  | true =>
    have w3 : h' 112 k 0 = 1 := w3
    simp (disch := omega) only [x_4_2, x_70, x_6_1, x_33, x_64, x_61, x_1, x_85, x_6_0, x_69, x_34, x_39_107, x_79_3_1_d0, x_79_3_1_d1, x_79_3_1_d2, x_79_3_1_d3, x_79_3_1_d4, cb_ri, cb_rl, cb_rv, cb_th, cb_ite, ps_s, ps_n, u_11_0, u_11_12, u_11_14, u_11_23, s1, tk, c, w1', w3, boI, Int.reduceEq, Int.reduceLT, Int.reduceLE, reduceIte, Int.reduceAdd, Int.reduceSub, Int.reduceMul, Int.reduceNeg, Int.reduceToNat, Bool.false_eq_true, eq_self, if_pos, if_neg]
  | false =>
    have w3 : h' 112 k 0 = 0 := w3
    simp (disch := omega) only [x_4_2, x_70, x_6_1, x_33, x_64, x_61, x_1, x_85, x_6_0, x_69, x_34, x_39_107, x_79_3_1_d0, x_79_3_1_d1, x_79_3_1_d2, x_79_3_1_d3, x_79_3_1_d4, cb_ri, cb_rl, cb_rv, cb_th, cb_ite, ps_s, ps_n, u_11_0, u_11_12, u_11_14, u_11_23, s1, tk, c, w1', w3, boI, Int.reduceEq, Int.reduceLT, Int.reduceLE, reduceIte, Int.reduceAdd, Int.reduceSub, Int.reduceMul, Int.reduceNeg, Int.reduceToNat, Bool.false_eq_true, eq_self, if_pos, if_neg]
