theorem law_l (lv : Nat) {h : Hp} {t : Nat → Int} {e : Nat} (B : Bt h t e) : ∀ (n : Nat) (L : List LN) (p : Nat) (g2 g3 : AV), p ≤ e → L.length + n = 12 → (codesOf L).length ≤ p → match pLaw t e n L p with
    | .inl f => ∃ cs' L', run (lv + 27) 13 28 [aA 2 0, aI (L.length : Int), g2, g3] [] (LT (lnH h L) (codesOf L) t e p) = ri 0 (hset (LT (lnH h L') cs' t e f) 150 0 0 (f : Int))
    | .inr L' => run (lv + 27) 13 28 [aA 2 0, aI (L.length : Int), g2, g3] [] (LT (lnH h L) (codesOf L) t e p) = ri 1 (LT (lnH h L') (codesOf L') t e e) ∧ L'.length ≤ 12 ∧ (codesOf L').length ≤ 400 := by
  have he := B.2.2
  intro n
  induction n with
  | zero =>
    intro L p g2 g3 hp hn hl
    have fl := lt_fail (lv + 26) (codesOf L) (ln_B (L := L) B) hp
    refine ⟨codesOf L, L, ?_⟩
    rw [hd_13_28]
    simp (disch := omega) only [x_6_0, x_35_2, x_79_1_1_d0, x_79_1_1_d1, x_79_1_1_d2, x_79_1_1_d3, x_79_1_1_d4, x_35_0, x_79_1_8_d0, x_79_1_8_d1, x_79_1_8_d2, x_79_1_8_d3, x_79_1_8_d4, x_68, x_1, x_85, x_7_1_I, x_7_1_A, x_7_1_U, x_61, x_4_1, x_65, x_3, x_79_2_8_d0, x_79_2_8_d1, x_79_2_8_d2, x_79_2_8_d3, x_79_2_8_d4, x_60, x_7_2_I, x_7_2_A, x_7_2_U, x_4_2, x_63, x_69, x_7_3_I, x_7_3_A, x_7_3_U, x_4_3, x_79_2_1_d0, x_79_2_1_d1, x_79_2_1_d2, x_79_2_1_d3, x_79_2_1_d4, x_79_2_2_d0, x_79_2_2_d1, x_79_2_2_d2, x_79_2_2_d3, x_79_2_2_d4, x_79_3_1_d0, x_79_3_1_d1, x_79_3_1_d2, x_79_3_1_d3, x_79_3_1_d4, x_10_1_I, x_10_1_A, x_10_1_U, cb_ri, cb_rl, cb_rv, cb_th, cb_ite, ps_s, ps_n, u_13_0, u_13_26, u_13_50, u_13_66, u_13_67, u_13_93, u_13_109, u_13_118, u_13_126, u_13_150, u_13_167, u_13_188, u_13_202, u_13_208, fl, Int.reduceEq, Int.reduceLT, Int.reduceLE, reduceIte, Int.reduceAdd, Int.reduceSub, Int.reduceMul, Int.reduceNeg, Int.reduceToNat, Bool.false_eq_true, eq_self, if_pos, if_neg]
  | succ n ih =>
    intro L p g2 g3 hp hn hl
    have lc := line_c lv L (codesOf L) B hp (by omega) hl g2 g3
    unfold pLaw
    cases hq : pLine t e p with
    | inl f =>
      rw [hq] at lc
      obtain ⟨cs', lc⟩ := lc
      exact ⟨cs', L, lc⟩
    | inr z =>
      obtain ⟨x, q⟩ := z
      rw [hq] at lc
      have lc : _ = lnEnd _ _ _ _ _ _ _ _ := lc
      have hb := pLine_len hp hq
      have e1 := codesOf_a L x
      have e2 : (codesOf (L ++ [x])).length ≤ q := by rw [e1]; simp only [List.length_append, List.length_cons, List.length_nil]; omega
      have e3 : (L ++ [x]).length = L.length + 1 := by simp
      rw [← e1] at lc
      unfold lnEnd at lc
      dsimp only
      by_cases h1 : q = e
      · rw [if_pos h1] at lc
        rw [if_pos h1]
        refine ⟨?_, by omega, by omega⟩
        rw [lc, h1]
      · rw [if_neg h1] at lc
        rw [if_neg h1]
        by_cases h2 : isC t e q 59 = true
        · rw [if_pos h2] at lc
          rw [if_pos h2]
          have hn2 := nxt_b t (isC_lt h2)
          have r := ih (L ++ [x]) (nxt t e q) (aI (x.1 : Int)) (aI x.2.1) hn2.2 (by omega) (by omega)
          rw [lc]
          have e4 : (((L ++ [x]).length : Nat) : Int) = (L.length : Int) + 1 := by rw [e3]; omega
          rw [e4] at r
          exact r
        · rw [if_neg h2] at lc
          rw [if_neg h2]
          exact ⟨_, _, lc⟩
def LawIs (h : Hp) (k : Nat) (L : List LN) : Prop := h 113 k 0 = (L.length : Int) ∧ h 110 k 0 = tkL L ∧ h 109 k 0 = ((codesOf L).length : Int) ∧ (∀ i, i < L.length → h 105 k i = kdL L i ∧ h 106 k i = amL L i) ∧ ∀ i, i < (codesOf L).length → h 104 k i = (codesOf L).getD i 0
def lawFr (tt k : Nat) : Prop := (k = 2 ∧ (tt = 104 ∨ tt = 105 ∨ tt = 106 ∨ tt = 109 ∨ tt = 110 ∨ tt = 113)) ∨ (k = 0 ∧ 149 ≤ tt ∧ tt ≤ 155)
theorem tp_like {A C : Hp} {t : Nat → Int} {e p : Nat} (hh : ∀ tt k i, ¬ tpR tt k i → A tt k i = C tt k i) : tpH A t e p = tpH C t e p := by
  funext tt k i
  by_cases hR : tpR tt k i
  · unfold tpH; rw [if_pos hR, if_pos hR]
  · rw [tp_o hR, tp_o hR]; exact hh tt k i hR
theorem LT_fr {h : Hp} {L : List LN} {cs : List Int} {t : Nat → Int} {e p tt k i : Nat} (hf : ¬ lawFr tt k) : LT (lnH h L) cs t e p tt k i = h tt k i := by
  unfold lawFr at hf
  unfold LT
  rw [tp_o (by unfold tpR; omega)]
  unfold emH lnH
  rw [if_neg (by omega), if_neg (by omega), if_neg (by omega), if_neg (by omega), if_neg (by omega), if_neg (by omega)]
theorem LT_is (h : Hp) (L : List LN) (t : Nat → Int) (e p : Nat) : LawIs (LT (lnH h L) (codesOf L) t e p) 2 L := by
  refine ⟨?_, ?_, ?_, ?_, ?_⟩
  · rw [lt_ln _ _ _ _ _ _ _ _ _ (by omega)]; unfold lnH; rw [if_neg (by omega), if_neg (by omega), if_neg (by omega), if_pos (by omega)]
  · rw [lt_ln _ _ _ _ _ _ _ _ _ (by omega)]; unfold lnH; rw [if_neg (by omega), if_neg (by omega), if_pos (by omega)]
  · unfold LT; rw [tp_tag (by omega)]; unfold emH; rw [if_neg (by omega), if_pos (by omega)]
  · intro i hi
    refine ⟨?_, ?_⟩
    · rw [lt_ln _ _ _ _ _ _ _ _ _ (by omega)]; unfold lnH; rw [if_pos (by omega)]
    · rw [lt_ln _ _ _ _ _ _ _ _ _ (by omega)]; unfold lnH; rw [if_neg (by omega), if_pos (by omega)]
  · intro i hi
    unfold LT; rw [tp_tag (by omega)]; unfold emH; rw [if_pos (by omega)]
def opH (h : Hp) (e : Nat) : Hp := hset (hset (hset h 149 0 0 0) 152 0 0 (e : Int)) 150 0 0 (-1)
theorem useUp_c (lv : Nat) (h : Hp) : cl (lv + 1) 58 [aA 8 0] h = ri (h 149 0 0) (hset h 149 0 0 0) := by
  rw [in_58]
  simp (disch := omega) only [x_6_0, x_33, x_7_1_I, x_7_1_A, x_7_1_U, x_1, x_36, x_4_1, x_82, u_58_0, Int.reduceEq, Int.reduceLT, Int.reduceLE, reduceIte, Int.reduceAdd, Int.reduceSub, Int.reduceMul, Int.reduceNeg, Int.reduceToNat, Bool.false_eq_true, eq_self, if_pos, if_neg]
theorem open_c (lv : Nat) {h : Hp} {e : Nat} (h1 : h 149 0 0 = (e : Int)) (h2 : e ≤ 400) : cl (lv + 2) 61 [aA 8 0] h = rv (tpH (opH h e) (h 148 0) e (sk (h 148 0) e 0)) := by
  have u := useUp_c lv h
  rw [h1] at u
  rw [in_61]
  have ad := advance_c lv e 0 (hset (hset (hset (hset h 149 0 0 0) 152 0 0 (e : Int)) 153 0 0 0) 150 0 0 (-1)) (by simp only [hs_t, hs_eq, Nat.reduceEqDiff, ne_eq, not_false_eq_true]) h2 (by simp only [hs_t, hs_eq, Nat.reduceEqDiff, ne_eq, not_false_eq_true]; rfl) (by omega)
  have e1 : hset (hset (hset (hset h 149 0 0 0) 152 0 0 (e : Int)) 153 0 0 0) 150 0 0 (-1) 148 = h 148 := by
    funext k i; unfold hset; simp
  rw [e1] at ad
  simp (disch := omega) only [x_6_0, x_79_1_8_d0, x_79_1_8_d1, x_79_1_8_d2, x_79_1_8_d3, x_79_1_8_d4, x_36, x_1, x_83, cb_ri, cb_rl, cb_rv, cb_th, cb_ite, ps_s, ps_n, u_61_0, u, ad, Int.reduceEq, Int.reduceLT, Int.reduceLE, reduceIte, Int.reduceAdd, Int.reduceSub, Int.reduceMul, Int.reduceNeg, Int.reduceToNat, Bool.false_eq_true, eq_self, if_pos, if_neg]
  congr 1
  refine tp_like (fun tt k i hR => ?_)
  unfold opH hset
  unfold tpR at hR
  by_cases c : tt = 153 ∧ k = 0 ∧ i = 0
  · omega
  · simp [c]
theorem op_B {h : Hp} {e : Nat} (h2 : e ≤ 400) : Bt (opH h e) (h 148 0) e := ⟨by funext i; unfold opH hset; simp, by unfold opH hset; simp, h2⟩
theorem read_c (lv : Nat) {h : Hp} {e : Nat} (h1 : h 149 0 0 = (e : Int)) (h2 : e ≤ 400) : match lawOf (h 148 0) e with
    | .inl f => ∃ h', cl (lv + 28) 13 [aA 2 0] h = ri 0 h' ∧ h' 149 0 0 = 0 ∧ h' 150 0 0 = (f : Int) ∧ ∀ tt k i, ¬ lawFr tt k → h' tt k i = h tt k i
    | .inr L => ∃ h', cl (lv + 28) 13 [aA 2 0] h = ri 1 h' ∧ h' 149 0 0 = 0 ∧ h' 150 0 0 = -1 ∧ LawIs h' 2 L ∧ L.length ≤ 12 ∧ (codesOf L).length ≤ 400 ∧ ∀ tt k i, ¬ lawFr tt k → h' tt k i = h tt k i := by
  generalize ht : h 148 0 = t
  have cr : ∀ lv, cl (lv + 1) 6 [aA 1 2] h = rv (hset (hset (hset h 109 2 0 0) 110 2 0 0) 113 2 0 0) := by
    intro lv
    rw [in_6]
    simp (disch := omega) only [x_6_0, x_1, x_36, x_83, u_6_0, Int.reduceEq, Int.reduceLT, Int.reduceLE, reduceIte, Int.reduceAdd, Int.reduceSub, Int.reduceMul, Int.reduceNeg, Int.reduceToNat, Bool.false_eq_true, eq_self, if_pos, if_neg]
  have op := open_c (lv + 25) (h := hset (hset (hset h 109 2 0 0) 110 2 0 0) 113 2 0 0) (e := e) (by simp only [hs_t, Nat.reduceEqDiff, ne_eq, not_false_eq_true]; exact h1) h2
  have e1 : hset (hset (hset h 109 2 0 0) 110 2 0 0) 113 2 0 0 148 0 = t := by rw [← ht]; funext i; unfold hset; simp
  rw [e1] at op
  have B : Bt (opH h e) t e := by rw [← ht]; exact op_B h2
  have e2 : tpH (opH (hset (hset (hset h 109 2 0 0) 110 2 0 0) 113 2 0 0) e) t e (sk t e 0) = LT (lnH (opH h e) []) (codesOf []) t e (sk t e 0) := by
    unfold LT
    refine tp_like (fun tt k i hR => ?_)
    have e3 : codesOf [] = [] := rfl
    have e4 : tkL [] = 0 := rfl
    rw [e3]
    unfold opH hset emH lnH
    simp only [List.length_nil, Nat.not_lt_zero, and_false, if_false, e4]
    by_cases c1 : tt = 109 ∧ k = 2 ∧ i = 0
    · simp [c1]
    by_cases c2 : tt = 110 ∧ k = 2 ∧ i = 0
    · simp [c2]
    by_cases c3 : tt = 113 ∧ k = 2 ∧ i = 0
    · simp [c3]
    simp [c1, c2, c3]
  rw [e2] at op
  have hsk := sk_b t (Nat.zero_le e)
  have ie := isEnd_c (lv + 26) (LT_TA (cs := codesOf []) (ln_B (L := []) B) hsk.2)
  have q1 : ∀ (L : List LN) (cs : List Int) (p : Nat), LT (lnH (opH h e) L) cs t e p 149 0 0 = 0 ∧ LT (lnH (opH h e) L) cs t e p 150 0 0 = -1 := by
    intro L cs p
    refine ⟨?_, ?_⟩
    · rw [lt_ln _ _ _ _ _ _ _ _ _ (by omega), ln_o (by omega)]; unfold opH hset; simp
    · rw [lt_ln _ _ _ _ _ _ _ _ _ (by omega), ln_o (by omega)]; unfold opH hset; simp
  have q2 : ∀ (L : List LN) (cs : List Int) (p tt k i : Nat), ¬ lawFr tt k → LT (lnH (opH h e) L) cs t e p tt k i = h tt k i := by
    intro L cs p tt k i hf
    rw [LT_fr hf]
    unfold lawFr at hf
    unfold opH
    rw [hs_o (by omega), hs_o (by omega), hs_o (by omega)]
  unfold lawOf
  rw [in_13]
  by_cases hz : sk t e 0 = e
  · rw [if_pos hz] at ie ⊢
    refine ⟨_, ?_, (q1 [] (codesOf []) (sk t e 0)).1, (q1 [] (codesOf []) (sk t e 0)).2, LT_is _ _ _ _ _, by simp, by simp [codesOf], q2 _ _ _⟩
    simp (disch := omega) only [x_6_0, x_35_2, x_79_1_1_d0, x_79_1_1_d1, x_79_1_1_d2, x_79_1_1_d3, x_79_1_1_d4, x_35_0, x_79_1_8_d0, x_79_1_8_d1, x_79_1_8_d2, x_79_1_8_d3, x_79_1_8_d4, x_68, x_1, x_85, x_7_1_I, x_7_1_A, x_7_1_U, x_61, x_4_1, x_65, x_3, x_79_2_8_d0, x_79_2_8_d1, x_79_2_8_d2, x_79_2_8_d3, x_79_2_8_d4, x_60, x_7_2_I, x_7_2_A, x_7_2_U, x_4_2, x_63, x_69, x_7_3_I, x_7_3_A, x_7_3_U, x_4_3, x_79_2_1_d0, x_79_2_1_d1, x_79_2_1_d2, x_79_2_1_d3, x_79_2_1_d4, x_79_2_2_d0, x_79_2_2_d1, x_79_2_2_d2, x_79_2_2_d3, x_79_2_2_d4, x_79_3_1_d0, x_79_3_1_d1, x_79_3_1_d2, x_79_3_1_d3, x_79_3_1_d4, x_10_1_I, x_10_1_A, x_10_1_U, cb_ri, cb_rl, cb_rv, cb_th, cb_ite, ps_s, ps_n, u_13_0, u_13_26, u_13_50, u_13_66, u_13_67, u_13_93, u_13_109, u_13_118, u_13_126, u_13_150, u_13_167, u_13_188, u_13_202, u_13_208, cr, op, ie, Int.reduceEq, Int.reduceLT, Int.reduceLE, reduceIte, Int.reduceAdd, Int.reduceSub, Int.reduceMul, Int.reduceNeg, Int.reduceToNat, Bool.false_eq_true, eq_self, if_pos, if_neg]
  · rw [if_neg hz] at ie ⊢
    have lw := law_l lv B 12 [] (sk t e 0) none none hsk.2 rfl (Nat.zero_le _)
    have st : run (lv + 27) 13 0 [aA 2 0, none, none, none] [] h = run (lv + 27) 13 28 [aA 2 0, aI (([] : List LN).length : Int), none, none] [] (LT (lnH (opH h e) []) (codesOf []) t e (sk t e 0)) := by
      simp (disch := omega) only [x_6_0, x_35_2, x_79_1_1_d0, x_79_1_1_d1, x_79_1_1_d2, x_79_1_1_d3, x_79_1_1_d4, x_35_0, x_79_1_8_d0, x_79_1_8_d1, x_79_1_8_d2, x_79_1_8_d3, x_79_1_8_d4, x_68, x_1, x_85, x_7_1_I, x_7_1_A, x_7_1_U, x_61, x_4_1, x_65, x_3, x_79_2_8_d0, x_79_2_8_d1, x_79_2_8_d2, x_79_2_8_d3, x_79_2_8_d4, x_60, x_7_2_I, x_7_2_A, x_7_2_U, x_4_2, x_63, x_69, x_7_3_I, x_7_3_A, x_7_3_U, x_4_3, x_79_2_1_d0, x_79_2_1_d1, x_79_2_1_d2, x_79_2_1_d3, x_79_2_1_d4, x_79_2_2_d0, x_79_2_2_d1, x_79_2_2_d2, x_79_2_2_d3, x_79_2_2_d4, x_79_3_1_d0, x_79_3_1_d1, x_79_3_1_d2, x_79_3_1_d3, x_79_3_1_d4, x_10_1_I, x_10_1_A, x_10_1_U, cb_ri, cb_rl, cb_rv, cb_th, cb_ite, ps_s, ps_n, u_13_0, u_13_26, u_13_50, u_13_66, u_13_67, u_13_93, u_13_109, u_13_118, u_13_126, u_13_150, u_13_167, u_13_188, u_13_202, u_13_208, cr, op, ie, Int.reduceEq, Int.reduceLT, Int.reduceLE, reduceIte, Int.reduceAdd, Int.reduceSub, Int.reduceMul, Int.reduceNeg, Int.reduceToNat, Bool.false_eq_true, eq_self, if_pos, if_neg]
      rfl
    rw [st]
    cases hl : pLaw t e 12 [] (sk t e 0) with
    | inl f =>
      rw [hl] at lw
      obtain ⟨cs', L', lw⟩ := lw
      refine ⟨_, lw, ?_, hs_eq _ _ _ _ _, ?_⟩
      · rw [hs_o (by omega)]; exact (q1 L' cs' f).1
      · intro tt k i hf
        rw [hs_o (by unfold lawFr at hf; omega)]
        exact q2 _ _ _ _ _ _ hf
    | inr L' =>
      rw [hl] at lw
      obtain ⟨l1, l2, l3⟩ := lw
      exact ⟨_, l1, (q1 _ _ _).1, (q1 _ _ _).2, LT_is _ _ _ _ _, l2, l3, q2 _ _ _⟩
