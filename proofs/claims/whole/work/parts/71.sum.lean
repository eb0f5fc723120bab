/-! THE LAW's TEXT (the class's reader): sums. -/
theorem lt_adv (lv : Nat) {h : Hp} {t : Nat → Int} {e p : Nat} (cs : List Int) (B : Bt h t e) (hp : p ≤ e) : cl (lv + 1) 62 [aA 8 0] (LT h cs t e p) = rv (LT h cs t e (nxt t e p)) := by rw [adv_c lv (LT_TA B hp), LT_tp]
theorem lt_num (lv : Nat) {h : Hp} {t : Nat → Int} {e p : Nat} (cs : List Int) (B : Bt h t e) (hp : p ≤ e) : cl (lv + 1) 64 [aA 8 0] (LT h cs t e p) = ri (if p < e ∧ isD (t p) = true then 1 else 0) (LT h cs t e p) := isNumber_c lv (LT_TA B hp)
theorem lt_sign (lv : Nat) {h : Hp} {t : Nat → Int} {e p : Nat} (cs : List Int) (B : Bt h t e) (hp : p ≤ e) (c : Int) (hc1 : ¬ isL c = true) (hc2 : ¬ isD c = true) : cl (lv + 1) 65 [aA 8 0, aI c] (LT h cs t e p) = ri (if isC t e p c = true then 1 else 0) (LT h cs t e p) := isSign_c lv c (LT_TA B hp) hc1 hc2
theorem lt_word (lv : Nat) {h : Hp} {t : Nat → Int} {e p : Nat} (cs : List Int) (B : Bt h t e) (hp : p ≤ e) (s : Nat) (w : List Int) (hw : sTxt.getD s [] = w) (hs : s < 46) (hl : 1 ≤ w.length ∧ w.length ≤ 20) : cl (lv + 5) 66 [aA 8 0, aA 20 s] (LT h cs t e p) = ri (if isW t e p w = true then 1 else 0) (LT h cs t e p) := by
  have := isWord_c lv s (LT_TA (cs := cs) B hp) hs (by rw [hw]; exact hl)
  rw [hw] at this
  exact this
theorem lt_fail (lv : Nat) {h : Hp} {t : Nat → Int} {e p : Nat} (cs : List Int) (B : Bt h t e) (hp : p ≤ e) : cl (lv + 1) 67 [aA 8 0] (LT h cs t e p) = ri 0 (hset (LT h cs t e p) 150 0 0 (p : Int)) := fail_c lv (LT_TA B hp)
theorem pNum_f {t : Nat → Int} {e p : Nat} {hi : Int} {f : Nat} (h : pNum t e p hi = .inl f) : f = p := by
  unfold pNum at h
  split at h
  · cases h
  · cases h; rfl
theorem lt_pnum (lv : Nat) {h : Hp} {t : Nat → Int} {e p : Nat} (cs : List Int) (B : Bt h t e) (hp : p ≤ e) (hi : Int) (hh : hi ≤ 999) : cl (lv + 2) 70 [aA 8 0, aI hi] (LT h cs t e p) = match pNum t e p hi with
    | .inl f => ri (-1) (hset (LT h cs t e f) 150 0 0 (f : Int))
    | .inr (v, q) => ri v (LT h cs t e q) := by
  rw [passNumber_c lv hi (LT_TA B hp) hh]
  cases hn : pNum t e p hi with
  | inl f => rw [pNum_f hn]
  | inr z => obtain ⟨v, q⟩ := z; simp only [LT_tp]
theorem nm_c (lv : Nat) {h : Hp} {t : Nat → Int} {e p : Nat} (cs : List Int) (B : Bt h t e) (hp : p ≤ e) (x g : AV) : run (lv + 5) 18 51 [aA 2 0, x, g] [] (LT h cs t e p) = run (lv + 5) 18 165 [aA 2 0, x, g] [aI (nmAt t e p)] (LT h cs t e p) := by
  have w1 := lt_word lv cs B hp 8 wHand rfl (by decide) (by decide)
  have w2 := lt_word lv cs B hp 11 wKey rfl (by decide) (by decide)
  have w3 := lt_word lv cs B hp 9 wHard rfl (by decide) (by decide)
  have w4 := lt_word lv cs B hp 44 wTired rfl (by decide) (by decide)
  have w5 := lt_word lv cs B hp 30 wPlayer rfl (by decide) (by decide)
  have w6 := lt_word lv cs B hp 3 wBeat rfl (by decide) (by decide)
  have w7 := lt_word lv cs B hp 29 wPage rfl (by decide) (by decide)
  unfold nmAt
  by_cases h1 : isW t e p wHand = true
  · simp (disch := omega) only [x_1, x_7_1_I, x_7_1_A, x_7_1_U, x_61, x_4_1, x_65, x_6_0, x_35_0, x_79_1_8_d0, x_79_1_8_d1, x_79_1_8_d2, x_79_1_8_d3, x_79_1_8_d4, x_68, x_79_2_8_d0, x_79_2_8_d1, x_79_2_8_d2, x_79_2_8_d3, x_79_2_8_d4, x_7_2_I, x_7_2_A, x_7_2_U, x_4_2, x_63, x_85, x_35_2, x_11, x_79_2_1_d0, x_79_2_1_d1, x_79_2_1_d2, x_79_2_1_d3, x_79_2_1_d4, x_60, x_3, x_73, x_69, x_10_1_I, x_10_1_A, x_10_1_U, cb_ri, cb_rl, cb_rv, cb_th, cb_ite, ps_s, ps_n, u_18_0, u_18_37, u_18_51, u_18_67, u_18_83, u_18_99, u_18_115, u_18_131, u_18_147, u_18_164, u_18_179, u_18_194, u_18_207, u_18_221, u_18_234, w1, h1, Int.reduceEq, Int.reduceLT, Int.reduceLE, reduceIte, Int.reduceAdd, Int.reduceSub, Int.reduceMul, Int.reduceNeg, Int.reduceToNat, Bool.false_eq_true, eq_self, if_pos, if_neg]
  by_cases h2 : isW t e p wKey = true
  · simp (disch := omega) only [x_1, x_7_1_I, x_7_1_A, x_7_1_U, x_61, x_4_1, x_65, x_6_0, x_35_0, x_79_1_8_d0, x_79_1_8_d1, x_79_1_8_d2, x_79_1_8_d3, x_79_1_8_d4, x_68, x_79_2_8_d0, x_79_2_8_d1, x_79_2_8_d2, x_79_2_8_d3, x_79_2_8_d4, x_7_2_I, x_7_2_A, x_7_2_U, x_4_2, x_63, x_85, x_35_2, x_11, x_79_2_1_d0, x_79_2_1_d1, x_79_2_1_d2, x_79_2_1_d3, x_79_2_1_d4, x_60, x_3, x_73, x_69, x_10_1_I, x_10_1_A, x_10_1_U, cb_ri, cb_rl, cb_rv, cb_th, cb_ite, ps_s, ps_n, u_18_0, u_18_37, u_18_51, u_18_67, u_18_83, u_18_99, u_18_115, u_18_131, u_18_147, u_18_164, u_18_179, u_18_194, u_18_207, u_18_221, u_18_234, w1, w2, h1, h2, Int.reduceEq, Int.reduceLT, Int.reduceLE, reduceIte, Int.reduceAdd, Int.reduceSub, Int.reduceMul, Int.reduceNeg, Int.reduceToNat, Bool.false_eq_true, eq_self, if_pos, if_neg]
  by_cases h3 : isW t e p wHard = true
  · simp (disch := omega) only [x_1, x_7_1_I, x_7_1_A, x_7_1_U, x_61, x_4_1, x_65, x_6_0, x_35_0, x_79_1_8_d0, x_79_1_8_d1, x_79_1_8_d2, x_79_1_8_d3, x_79_1_8_d4, x_68, x_79_2_8_d0, x_79_2_8_d1, x_79_2_8_d2, x_79_2_8_d3, x_79_2_8_d4, x_7_2_I, x_7_2_A, x_7_2_U, x_4_2, x_63, x_85, x_35_2, x_11, x_79_2_1_d0, x_79_2_1_d1, x_79_2_1_d2, x_79_2_1_d3, x_79_2_1_d4, x_60, x_3, x_73, x_69, x_10_1_I, x_10_1_A, x_10_1_U, cb_ri, cb_rl, cb_rv, cb_th, cb_ite, ps_s, ps_n, u_18_0, u_18_37, u_18_51, u_18_67, u_18_83, u_18_99, u_18_115, u_18_131, u_18_147, u_18_164, u_18_179, u_18_194, u_18_207, u_18_221, u_18_234, w1, w2, w3, h1, h2, h3, Int.reduceEq, Int.reduceLT, Int.reduceLE, reduceIte, Int.reduceAdd, Int.reduceSub, Int.reduceMul, Int.reduceNeg, Int.reduceToNat, Bool.false_eq_true, eq_self, if_pos, if_neg]
  by_cases h4 : isW t e p wTired = true
  · simp (disch := omega) only [x_1, x_7_1_I, x_7_1_A, x_7_1_U, x_61, x_4_1, x_65, x_6_0, x_35_0, x_79_1_8_d0, x_79_1_8_d1, x_79_1_8_d2, x_79_1_8_d3, x_79_1_8_d4, x_68, x_79_2_8_d0, x_79_2_8_d1, x_79_2_8_d2, x_79_2_8_d3, x_79_2_8_d4, x_7_2_I, x_7_2_A, x_7_2_U, x_4_2, x_63, x_85, x_35_2, x_11, x_79_2_1_d0, x_79_2_1_d1, x_79_2_1_d2, x_79_2_1_d3, x_79_2_1_d4, x_60, x_3, x_73, x_69, x_10_1_I, x_10_1_A, x_10_1_U, cb_ri, cb_rl, cb_rv, cb_th, cb_ite, ps_s, ps_n, u_18_0, u_18_37, u_18_51, u_18_67, u_18_83, u_18_99, u_18_115, u_18_131, u_18_147, u_18_164, u_18_179, u_18_194, u_18_207, u_18_221, u_18_234, w1, w2, w3, w4, h1, h2, h3, h4, Int.reduceEq, Int.reduceLT, Int.reduceLE, reduceIte, Int.reduceAdd, Int.reduceSub, Int.reduceMul, Int.reduceNeg, Int.reduceToNat, Bool.false_eq_true, eq_self, if_pos, if_neg]
  by_cases h5 : isW t e p wPlayer = true
  · simp (disch := omega) only [x_1, x_7_1_I, x_7_1_A, x_7_1_U, x_61, x_4_1, x_65, x_6_0, x_35_0, x_79_1_8_d0, x_79_1_8_d1, x_79_1_8_d2, x_79_1_8_d3, x_79_1_8_d4, x_68, x_79_2_8_d0, x_79_2_8_d1, x_79_2_8_d2, x_79_2_8_d3, x_79_2_8_d4, x_7_2_I, x_7_2_A, x_7_2_U, x_4_2, x_63, x_85, x_35_2, x_11, x_79_2_1_d0, x_79_2_1_d1, x_79_2_1_d2, x_79_2_1_d3, x_79_2_1_d4, x_60, x_3, x_73, x_69, x_10_1_I, x_10_1_A, x_10_1_U, cb_ri, cb_rl, cb_rv, cb_th, cb_ite, ps_s, ps_n, u_18_0, u_18_37, u_18_51, u_18_67, u_18_83, u_18_99, u_18_115, u_18_131, u_18_147, u_18_164, u_18_179, u_18_194, u_18_207, u_18_221, u_18_234, w1, w2, w3, w4, w5, h1, h2, h3, h4, h5, Int.reduceEq, Int.reduceLT, Int.reduceLE, reduceIte, Int.reduceAdd, Int.reduceSub, Int.reduceMul, Int.reduceNeg, Int.reduceToNat, Bool.false_eq_true, eq_self, if_pos, if_neg]
  by_cases h6 : isW t e p wBeat = true
  · simp (disch := omega) only [x_1, x_7_1_I, x_7_1_A, x_7_1_U, x_61, x_4_1, x_65, x_6_0, x_35_0, x_79_1_8_d0, x_79_1_8_d1, x_79_1_8_d2, x_79_1_8_d3, x_79_1_8_d4, x_68, x_79_2_8_d0, x_79_2_8_d1, x_79_2_8_d2, x_79_2_8_d3, x_79_2_8_d4, x_7_2_I, x_7_2_A, x_7_2_U, x_4_2, x_63, x_85, x_35_2, x_11, x_79_2_1_d0, x_79_2_1_d1, x_79_2_1_d2, x_79_2_1_d3, x_79_2_1_d4, x_60, x_3, x_73, x_69, x_10_1_I, x_10_1_A, x_10_1_U, cb_ri, cb_rl, cb_rv, cb_th, cb_ite, ps_s, ps_n, u_18_0, u_18_37, u_18_51, u_18_67, u_18_83, u_18_99, u_18_115, u_18_131, u_18_147, u_18_164, u_18_179, u_18_194, u_18_207, u_18_221, u_18_234, w1, w2, w3, w4, w5, w6, h1, h2, h3, h4, h5, h6, Int.reduceEq, Int.reduceLT, Int.reduceLE, reduceIte, Int.reduceAdd, Int.reduceSub, Int.reduceMul, Int.reduceNeg, Int.reduceToNat, Bool.false_eq_true, eq_self, if_pos, if_neg]
  by_cases h7 : isW t e p wPage = true
  · simp (disch := omega) only [x_1, x_7_1_I, x_7_1_A, x_7_1_U, x_61, x_4_1, x_65, x_6_0, x_35_0, x_79_1_8_d0, x_79_1_8_d1, x_79_1_8_d2, x_79_1_8_d3, x_79_1_8_d4, x_68, x_79_2_8_d0, x_79_2_8_d1, x_79_2_8_d2, x_79_2_8_d3, x_79_2_8_d4, x_7_2_I, x_7_2_A, x_7_2_U, x_4_2, x_63, x_85, x_35_2, x_11, x_79_2_1_d0, x_79_2_1_d1, x_79_2_1_d2, x_79_2_1_d3, x_79_2_1_d4, x_60, x_3, x_73, x_69, x_10_1_I, x_10_1_A, x_10_1_U, cb_ri, cb_rl, cb_rv, cb_th, cb_ite, ps_s, ps_n, u_18_0, u_18_37, u_18_51, u_18_67, u_18_83, u_18_99, u_18_115, u_18_131, u_18_147, u_18_164, u_18_179, u_18_194, u_18_207, u_18_221, u_18_234, w1, w2, w3, w4, w5, w6, w7, h1, h2, h3, h4, h5, h6, h7, Int.reduceEq, Int.reduceLT, Int.reduceLE, reduceIte, Int.reduceAdd, Int.reduceSub, Int.reduceMul, Int.reduceNeg, Int.reduceToNat, Bool.false_eq_true, eq_self, if_pos, if_neg]
  · simp (disch := omega) only [x_1, x_7_1_I, x_7_1_A, x_7_1_U, x_61, x_4_1, x_65, x_6_0, x_35_0, x_79_1_8_d0, x_79_1_8_d1, x_79_1_8_d2, x_79_1_8_d3, x_79_1_8_d4, x_68, x_79_2_8_d0, x_79_2_8_d1, x_79_2_8_d2, x_79_2_8_d3, x_79_2_8_d4, x_7_2_I, x_7_2_A, x_7_2_U, x_4_2, x_63, x_85, x_35_2, x_11, x_79_2_1_d0, x_79_2_1_d1, x_79_2_1_d2, x_79_2_1_d3, x_79_2_1_d4, x_60, x_3, x_73, x_69, x_10_1_I, x_10_1_A, x_10_1_U, cb_ri, cb_rl, cb_rv, cb_th, cb_ite, ps_s, ps_n, u_18_0, u_18_37, u_18_51, u_18_67, u_18_83, u_18_99, u_18_115, u_18_131, u_18_147, u_18_164, u_18_179, u_18_194, u_18_207, u_18_221, u_18_234, w1, w2, w3, w4, w5, w6, w7, h1, h2, h3, h4, h5, h6, h7, Int.reduceEq, Int.reduceLT, Int.reduceLE, reduceIte, Int.reduceAdd, Int.reduceSub, Int.reduceMul, Int.reduceNeg, Int.reduceToNat, Bool.false_eq_true, eq_self, if_pos, if_neg]
theorem part_c (lv : Nat) {h : Hp} {t : Nat → Int} {e p : Nat} (cs : List Int) (B : Bt h t e) (hp : p ≤ e) (i : Nat) (hi : i < 400) (hl : cs.length < 400) (g : AV) : match pPart t e p with
    | .inl f => run (lv + 5) 18 2 [aA 2 0, aI (i : Int), g] [] (LT h cs t e p) = ri 0 (hset (LT h cs t e f) 150 0 0 (f : Int))
    | .inr (op, q) => ∃ g', run (lv + 5) 18 2 [aA 2 0, aI (i : Int), g] [] (LT h cs t e p) = run (lv + 5) 18 194 [aA 2 0, aI (i : Int), g'] [] (LT h (cs ++ [op]) t e q) := by
  have d1 := lt_num (lv + 4) cs B hp
  unfold pPart
  by_cases h1 : p < e ∧ isD (t p) = true
  · rw [if_pos h1]
    rw [if_pos h1] at d1
    have d2 := lt_pnum (lv + 3) cs B hp 999 (by omega)
    cases hn : pNum t e p 999 with
    | inl f =>
      rw [hn] at d2
      show run _ _ _ _ _ _ = _
      rw [hd_18_2]
      simp (disch := omega) only [x_1, x_7_1_I, x_7_1_A, x_7_1_U, x_61, x_4_1, x_65, x_6_0, x_35_0, x_79_1_8_d0, x_79_1_8_d1, x_79_1_8_d2, x_79_1_8_d3, x_79_1_8_d4, x_68, x_79_2_8_d0, x_79_2_8_d1, x_79_2_8_d2, x_79_2_8_d3, x_79_2_8_d4, x_7_2_I, x_7_2_A, x_7_2_U, x_4_2, x_63, x_85, x_35_2, x_11, x_79_2_1_d0, x_79_2_1_d1, x_79_2_1_d2, x_79_2_1_d3, x_79_2_1_d4, x_60, x_3, x_73, x_69, x_10_1_I, x_10_1_A, x_10_1_U, cb_ri, cb_rl, cb_rv, cb_th, cb_ite, ps_s, ps_n, u_18_0, u_18_37, u_18_51, u_18_67, u_18_83, u_18_99, u_18_115, u_18_131, u_18_147, u_18_164, u_18_165, u_18_179, u_18_194, u_18_207, u_18_221, u_18_234, d1, d2, Int.reduceEq, Int.reduceLT, Int.reduceLE, reduceIte, Int.reduceAdd, Int.reduceSub, Int.reduceMul, Int.reduceNeg, Int.reduceToNat, Bool.false_eq_true, eq_self, if_pos, if_neg]
    | inr z =>
      obtain ⟨v, q⟩ := z
      rw [hn] at d2
      have hb := pNum_len hp hn
      have em := emit_c (lv + 4) h cs t e q (16 + v) hl
      refine ⟨aI v, ?_⟩
      rw [hd_18_2]
      simp (disch := omega) only [x_1, x_7_1_I, x_7_1_A, x_7_1_U, x_61, x_4_1, x_65, x_6_0, x_35_0, x_79_1_8_d0, x_79_1_8_d1, x_79_1_8_d2, x_79_1_8_d3, x_79_1_8_d4, x_68, x_79_2_8_d0, x_79_2_8_d1, x_79_2_8_d2, x_79_2_8_d3, x_79_2_8_d4, x_7_2_I, x_7_2_A, x_7_2_U, x_4_2, x_63, x_85, x_35_2, x_11, x_79_2_1_d0, x_79_2_1_d1, x_79_2_1_d2, x_79_2_1_d3, x_79_2_1_d4, x_60, x_3, x_73, x_69, x_10_1_I, x_10_1_A, x_10_1_U, cb_ri, cb_rl, cb_rv, cb_th, cb_ite, ps_s, ps_n, u_18_0, u_18_37, u_18_51, u_18_67, u_18_83, u_18_99, u_18_115, u_18_131, u_18_147, u_18_164, u_18_165, u_18_179, u_18_207, u_18_221, u_18_234, d1, d2, em, w32_id, Int.reduceEq, Int.reduceLT, Int.reduceLE, reduceIte, Int.reduceAdd, Int.reduceSub, Int.reduceMul, Int.reduceNeg, Int.reduceToNat, Bool.false_eq_true, eq_self, if_pos, if_neg]
  · rw [if_neg h1]
    rw [if_neg h1] at d1
    have nm := nm_c lv cs B hp (aI (i : Int)) g
    by_cases h2 : nmAt t e p = -1
    · rw [if_pos h2]
      have d3 := lt_fail (lv + 4) cs B hp
      show run _ _ _ _ _ _ = _
      rw [hd_18_2]
      simp (disch := omega) only [x_1, x_7_1_I, x_7_1_A, x_7_1_U, x_61, x_4_1, x_65, x_6_0, x_35_0, x_79_1_8_d0, x_79_1_8_d1, x_79_1_8_d2, x_79_1_8_d3, x_79_1_8_d4, x_68, x_79_2_8_d0, x_79_2_8_d1, x_79_2_8_d2, x_79_2_8_d3, x_79_2_8_d4, x_7_2_I, x_7_2_A, x_7_2_U, x_4_2, x_63, x_85, x_35_2, x_11, x_79_2_1_d0, x_79_2_1_d1, x_79_2_1_d2, x_79_2_1_d3, x_79_2_1_d4, x_60, x_3, x_73, x_69, x_10_1_I, x_10_1_A, x_10_1_U, cb_ri, cb_rl, cb_rv, cb_th, cb_ite, ps_s, ps_n, u_18_0, u_18_37, u_18_67, u_18_83, u_18_99, u_18_115, u_18_131, u_18_147, u_18_164, u_18_165, u_18_179, u_18_194, u_18_207, u_18_221, u_18_234, d1, nm, h2, d3, Int.reduceEq, Int.reduceLT, Int.reduceLE, reduceIte, Int.reduceAdd, Int.reduceSub, Int.reduceMul, Int.reduceNeg, Int.reduceToNat, Bool.false_eq_true, eq_self, if_pos, if_neg]
    · rw [if_neg h2]
      have em := emit_c (lv + 4) h cs t e p (nmAt t e p) hl
      have d3 := lt_adv (lv + 4) (cs ++ [nmAt t e p]) B hp
      refine ⟨aI (nmAt t e p), ?_⟩
      rw [hd_18_2]
      simp (disch := omega) only [x_1, x_7_1_I, x_7_1_A, x_7_1_U, x_61, x_4_1, x_65, x_6_0, x_35_0, x_79_1_8_d0, x_79_1_8_d1, x_79_1_8_d2, x_79_1_8_d3, x_79_1_8_d4, x_68, x_79_2_8_d0, x_79_2_8_d1, x_79_2_8_d2, x_79_2_8_d3, x_79_2_8_d4, x_7_2_I, x_7_2_A, x_7_2_U, x_4_2, x_63, x_85, x_35_2, x_11, x_79_2_1_d0, x_79_2_1_d1, x_79_2_1_d2, x_79_2_1_d3, x_79_2_1_d4, x_60, x_3, x_73, x_69, x_10_1_I, x_10_1_A, x_10_1_U, cb_ri, cb_rl, cb_rv, cb_th, cb_ite, ps_s, ps_n, u_18_0, u_18_37, u_18_67, u_18_83, u_18_99, u_18_115, u_18_131, u_18_147, u_18_164, u_18_165, u_18_179, u_18_207, u_18_221, u_18_234, d1, nm, em, d3, Int.reduceEq, Int.reduceLT, Int.reduceLE, reduceIte, Int.reduceAdd, Int.reduceSub, Int.reduceMul, Int.reduceNeg, Int.reduceToNat, Bool.false_eq_true, eq_self, if_pos, if_neg]
