theorem mread_m (lv : Nat) {h : Hp} {t : Nat → Int} {e : Nat} {F : Nat → Int} (T : TX h t e) (hf : h 198 0 0 = -1) (hF : FC h F) (hO : FZ F) (hD : h 199 0 0 = 0) : match lawOf t e with
    | .inl f => ∃ v z L', cl (lv + 31) 199 [aA 12 0, aI 1] (RD (mG h F []) 0) = ri v (hset (RZ (mG h F L') z) 198 0 0 (f : Int))
    | .inr L => cl (lv + 31) 199 [aA 12 0, aI 1] (RD (mG h F []) 0) = ri (L.length : Int) (RD (mG h F L) e) := by
  have T' : TX (mG h F []) t e := mL_TX T
  have sm := skip_m (lv + 28) T' (Nat.zero_le e)
  have hb := sk_b t (Nat.zero_le e)
  have hss := sk_sk t (Nat.zero_le e)
  unfold lawOf
  generalize sk t e 0 = p at sm hb hss
  have e1 := RD_a (mG h F []) p
  have e2 := (RD_TX T' p).2.1
  by_cases h1 : p = e
  · rw [if_pos h1]
    show _ = ri 0 _
    subst h1
    rw [in_199]
    simp (disch := omega) only [x_6_0, x_79_1_12_d0, x_79_1_12_d1, x_79_1_12_d2, x_79_1_12_d3, x_79_1_12_d4, x_33, x_65, x_1, x_60, x_61, x_7_2_I, x_7_2_A, x_7_2_U, x_7_3_I, x_7_3_A, x_7_3_U, x_4_2, x_68, x_63, x_4_3, x_4_1, x_79_2_12_d0, x_79_2_12_d1, x_79_2_12_d2, x_79_2_12_d3, x_79_2_12_d4, x_10_3_I, x_10_3_A, x_10_3_U, x_47_I, x_47_A, x_11, x_36, x_82, cb_ri, cb_rl, cb_rv, cb_th, cb_ite, ps_s, ps_n, u_199_0, u_199_19, u_199_20, u_199_49, u_199_51, u_199_65, u_199_76, u_199_80, u_199_106, u_199_111, u_199_133, u_199_144, sm, e1, e2, Int.reduceEq, Int.reduceLT, Int.reduceLE, reduceIte, Int.reduceAdd, Int.reduceSub, Int.reduceMul, Int.reduceNeg, Int.reduceToNat, Bool.false_eq_true, eq_self, if_pos, if_neg]
    rw [hd_199_23]
    simp (disch := omega) only [x_6_0, x_79_1_12_d0, x_79_1_12_d1, x_79_1_12_d2, x_79_1_12_d3, x_79_1_12_d4, x_33, x_65, x_1, x_60, x_61, x_7_2_I, x_7_2_A, x_7_2_U, x_7_3_I, x_7_3_A, x_7_3_U, x_4_2, x_68, x_63, x_4_3, x_4_1, x_79_2_12_d0, x_79_2_12_d1, x_79_2_12_d2, x_79_2_12_d3, x_79_2_12_d4, x_10_3_I, x_10_3_A, x_10_3_U, x_47_I, x_47_A, x_11, x_36, x_82, cb_ri, cb_rl, cb_rv, cb_th, cb_ite, ps_s, ps_n, u_199_0, u_199_19, u_199_20, u_199_49, u_199_51, u_199_65, u_199_76, u_199_80, u_199_106, u_199_111, u_199_133, u_199_144, Int.reduceEq, Int.reduceLT, Int.reduceLE, reduceIte, Int.reduceAdd, Int.reduceSub, Int.reduceMul, Int.reduceNeg, Int.reduceToNat, Bool.false_eq_true, eq_self, if_pos, if_neg]
  · rw [if_neg h1]
    have r := mread_l lv T hf hF hO hD 12 [] p hb.2 rfl (by intro x hx; cases hx)
    rw [hss] at r
    have st : cl (lv + 31) 199 [aA 12 0, aI 1] (RD (mG h F []) 0) = run (lv + 30) 199 23 [aA 12 0, aI 1, aI 1, aI (([] : List LN).length : Int)] [] (RD (mG h F []) p) := by
      rw [in_199]
      simp (disch := omega) only [x_6_0, x_79_1_12_d0, x_79_1_12_d1, x_79_1_12_d2, x_79_1_12_d3, x_79_1_12_d4, x_33, x_65, x_1, x_60, x_61, x_7_2_I, x_7_2_A, x_7_2_U, x_7_3_I, x_7_3_A, x_7_3_U, x_4_2, x_68, x_63, x_4_3, x_4_1, x_79_2_12_d0, x_79_2_12_d1, x_79_2_12_d2, x_79_2_12_d3, x_79_2_12_d4, x_10_3_I, x_10_3_A, x_10_3_U, x_47_I, x_47_A, x_11, x_36, x_82, cb_ri, cb_rl, cb_rv, cb_th, cb_ite, ps_s, ps_n, u_199_0, u_199_19, u_199_20, u_199_49, u_199_51, u_199_65, u_199_76, u_199_80, u_199_106, u_199_111, u_199_133, u_199_144, sm, e1, e2, Int.reduceEq, Int.reduceLT, Int.reduceLE, reduceIte, Int.reduceAdd, Int.reduceSub, Int.reduceMul, Int.reduceNeg, Int.reduceToNat, Bool.false_eq_true, eq_self, if_pos, if_neg]
      rfl
    rw [st]
    exact r
