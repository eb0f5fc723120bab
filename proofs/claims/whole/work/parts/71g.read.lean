theorem isW_nxt {t : Nat → Int} {e p : Nat} {w : List Int} (hp : p ≤ e) (h : isW t e p w = true) (hw : 1 ≤ w.length) : p + w.length ≤ nxt t e p := by
  have hlt := isW_lt hp h hw
  unfold isW at h
  simp only [Bool.and_eq_true, decide_eq_true_eq] at h
  have hL : isL (t p) = true := by
    by_cases z : isL (t p) = true
    · exact z
    · have := run_n isL t (e := e) z
      have e1 : wE t e p = p := this
      omega
  have e1 : tE t e p = wE t e p := by unfold tE; rw [if_pos hlt, if_pos hL]
  have := sk_b t (tE_le t hp)
  unfold nxt
  omega
theorem pCond_len {t : Nat → Int} {e q : Nat} (hq : q ≤ e) {a : CB2} {r : Nat} (h : pCond t e q = .inr (a, r)) : q ≤ r ∧ r ≤ e ∧ q + a.1.length ≤ r + 1 ∧ (a.1 = [17] ∨ q + a.1.length + 1 ≤ r) := by
  unfold pCond at h
  by_cases h1 : isW t e q wIf = true
  · rw [if_pos h1] at h
    have hn := nxt_b t (isW_lt hq h1 (by decide))
    have l1 := pAny_len (t := t) (X := pAtom t e 6) (pAtom_len 6) _ hn.2
    rw [h] at l1
    have l1 : nxt t e q + a.1.length ≤ r ∧ nxt t e q < r ∧ r ≤ e := l1
    omega
  · rw [if_neg h1] at h
    cases h
    exact ⟨Nat.le_refl _, hq, by simp, Or.inl rfl⟩
theorem pLine_len {t : Nat → Int} {e p : Nat} (hp : p ≤ e) {x : LN} {q : Nat} (h : pLine t e p = .inr (x, q)) : p < q ∧ q ≤ e ∧ p + x.2.2.1.length + 1 ≤ q := by
  unfold pLine at h
  by_cases hk : knd t e p = -1
  · rw [if_pos hk] at h; cases h
  rw [if_neg hk] at h
  by_cases h2 : knd t e p = 2
  · simp only [h2, if_pos] at h
    have ht : isW t e p wTake = true := by
      unfold knd at h2
      split at h2
      · omega
      · split at h2
        · omega
        · split at h2
          · assumption
          · omega
    have hn := isW_nxt hp ht (by decide)
    have hm := nxt_le t hp
    have hw : wTake.length = 4 := rfl
    cases hc : pCond t e (nxt t e p) with
    | inl f => rw [hc] at h; cases h
    | inr z =>
      obtain ⟨a, r⟩ := z
      rw [hc] at h
      cases h
      have := pCond_len hm hc
      refine ⟨by omega, by omega, ?_⟩
      show p + a.1.length + 1 ≤ q
      omega
  · simp only [h2, if_false] at h
    have hm := nxt_le t hp
    have hpe : p < e := by
      by_cases z : p < e
      · exact z
      · exfalso
        have hz : ∀ w : List Int, 1 ≤ w.length → ¬ isW t e p w = true := fun w hw y => z (isW_lt hp y hw)
        unfold knd at hk
        rw [if_neg (hz _ (by decide)), if_neg (hz _ (by decide)), if_neg (hz _ (by decide))] at hk
        exact hk rfl
    have hn := nxt_b t hpe
    cases hu : pNum t e (nxt t e p) 40 with
    | inl f => rw [hu] at h; cases h
    | inr y =>
      obtain ⟨v, s⟩ := y
      rw [hu] at h
      have hs := pNum_len hm hu
      dsimp only at h
      cases hc : pCond t e s with
      | inl f => rw [hc] at h; cases h
      | inr z =>
        obtain ⟨a, r⟩ := z
        rw [hc] at h
        cases h
        have := pCond_len hs.2.1 hc
        refine ⟨by omega, by omega, ?_⟩
        show p + a.1.length + 1 ≤ q
        omega
/-- how the class goes on behind a line -/
noncomputable def lnEnd (lv : Nat) (H : Nat → Hp) (t : Nat → Int) (e q : Nat) (i k v : Int) : Option Rs := if q = e then ri 1 (H q) else if isC t e q 59 = true then run (lv + 27) 13 28 [aA 2 0, aI (i + 1), aI k, aI v] [] (H (nxt t e q)) else ri 0 (hset (H q) 150 0 0 (q : Int))
theorem line_e (lv : Nat) {h : Hp} {t : Nat → Int} {e q : Nat} (L : List LN) (x : LN) (cs : List Int) (B : Bt h t e) (hq : q ≤ e) (hL : L.length < 12) (hl : cs.length < 400) : run (lv + 27) 13 167 [aA 2 0, aI (L.length : Int), aI (x.1 : Int), aI x.2.1] [] (LT (lnH h L) cs t e q) = lnEnd lv (fun p => LT (lnH h (L ++ [x])) (cs ++ [15]) t e p) t e q (L.length : Int) (x.1 : Int) x.2.1 := by
  have c1 := close_c (lv + 25) h L cs t e q x hL hl
  have B' := ln_B (L := L ++ [x]) B
  have c2 := isEnd_c (lv + 26) (LT_TA (cs := cs ++ [15]) B' hq)
  have c3 := lt_pass (lv + 25) (cs ++ [15]) B' hq 59 (by decide) (by decide)
  unfold lnEnd
  by_cases h1 : q = e
  · rw [if_pos h1]
    rw [if_pos h1] at c2
    simp (disch := omega) only [x_6_0, x_35_2, x_79_1_1_d0, x_79_1_1_d1, x_79_1_1_d2, x_79_1_1_d3, x_79_1_1_d4, x_35_0, x_79_1_8_d0, x_79_1_8_d1, x_79_1_8_d2, x_79_1_8_d3, x_79_1_8_d4, x_68, x_1, x_85, x_7_1_I, x_7_1_A, x_7_1_U, x_61, x_4_1, x_65, x_3, x_79_2_8_d0, x_79_2_8_d1, x_79_2_8_d2, x_79_2_8_d3, x_79_2_8_d4, x_60, x_7_2_I, x_7_2_A, x_7_2_U, x_4_2, x_63, x_69, x_7_3_I, x_7_3_A, x_7_3_U, x_4_3, x_79_2_1_d0, x_79_2_1_d1, x_79_2_1_d2, x_79_2_1_d3, x_79_2_1_d4, x_79_2_2_d0, x_79_2_2_d1, x_79_2_2_d2, x_79_2_2_d3, x_79_2_2_d4, x_79_3_1_d0, x_79_3_1_d1, x_79_3_1_d2, x_79_3_1_d3, x_79_3_1_d4, x_10_1_I, x_10_1_A, x_10_1_U, cb_ri, cb_rl, cb_rv, cb_th, cb_ite, ps_s, ps_n, u_13_0, u_13_26, u_13_50, u_13_66, u_13_67, u_13_93, u_13_109, u_13_118, u_13_126, u_13_150, u_13_167, u_13_188, u_13_202, u_13_208, c1, c2, Int.reduceEq, Int.reduceLT, Int.reduceLE, reduceIte, Int.reduceAdd, Int.reduceSub, Int.reduceMul, Int.reduceNeg, Int.reduceToNat, Bool.false_eq_true, eq_self, if_pos, if_neg]
  · rw [if_neg h1]
    rw [if_neg h1] at c2
    by_cases h2 : isC t e q 59 = true
    · rw [if_pos h2]
      rw [if_pos h2] at c3
      simp (disch := omega) only [x_6_0, x_35_2, x_79_1_1_d0, x_79_1_1_d1, x_79_1_1_d2, x_79_1_1_d3, x_79_1_1_d4, x_35_0, x_79_1_8_d0, x_79_1_8_d1, x_79_1_8_d2, x_79_1_8_d3, x_79_1_8_d4, x_68, x_1, x_85, x_7_1_I, x_7_1_A, x_7_1_U, x_61, x_4_1, x_65, x_3, x_79_2_8_d0, x_79_2_8_d1, x_79_2_8_d2, x_79_2_8_d3, x_79_2_8_d4, x_60, x_7_2_I, x_7_2_A, x_7_2_U, x_4_2, x_63, x_69, x_7_3_I, x_7_3_A, x_7_3_U, x_4_3, x_79_2_1_d0, x_79_2_1_d1, x_79_2_1_d2, x_79_2_1_d3, x_79_2_1_d4, x_79_2_2_d0, x_79_2_2_d1, x_79_2_2_d2, x_79_2_2_d3, x_79_2_2_d4, x_79_3_1_d0, x_79_3_1_d1, x_79_3_1_d2, x_79_3_1_d3, x_79_3_1_d4, x_10_1_I, x_10_1_A, x_10_1_U, cb_ri, cb_rl, cb_rv, cb_th, cb_ite, ps_s, ps_n, u_13_0, u_13_26, u_13_50, u_13_66, u_13_67, u_13_93, u_13_109, u_13_118, u_13_126, u_13_150, u_13_167, u_13_188, u_13_202, u_13_208, c1, c2, c3, w32_id, Int.reduceEq, Int.reduceLT, Int.reduceLE, reduceIte, Int.reduceAdd, Int.reduceSub, Int.reduceMul, Int.reduceNeg, Int.reduceToNat, Bool.false_eq_true, eq_self, if_pos, if_neg]
    · rw [if_neg h2]
      rw [if_neg h2] at c3
      simp (disch := omega) only [x_6_0, x_35_2, x_79_1_1_d0, x_79_1_1_d1, x_79_1_1_d2, x_79_1_1_d3, x_79_1_1_d4, x_35_0, x_79_1_8_d0, x_79_1_8_d1, x_79_1_8_d2, x_79_1_8_d3, x_79_1_8_d4, x_68, x_1, x_85, x_7_1_I, x_7_1_A, x_7_1_U, x_61, x_4_1, x_65, x_3, x_79_2_8_d0, x_79_2_8_d1, x_79_2_8_d2, x_79_2_8_d3, x_79_2_8_d4, x_60, x_7_2_I, x_7_2_A, x_7_2_U, x_4_2, x_63, x_69, x_7_3_I, x_7_3_A, x_7_3_U, x_4_3, x_79_2_1_d0, x_79_2_1_d1, x_79_2_1_d2, x_79_2_1_d3, x_79_2_1_d4, x_79_2_2_d0, x_79_2_2_d1, x_79_2_2_d2, x_79_2_2_d3, x_79_2_2_d4, x_79_3_1_d0, x_79_3_1_d1, x_79_3_1_d2, x_79_3_1_d3, x_79_3_1_d4, x_10_1_I, x_10_1_A, x_10_1_U, cb_ri, cb_rl, cb_rv, cb_th, cb_ite, ps_s, ps_n, u_13_0, u_13_26, u_13_50, u_13_66, u_13_67, u_13_93, u_13_109, u_13_118, u_13_126, u_13_150, u_13_167, u_13_188, u_13_202, u_13_208, c1, c2, c3, Int.reduceEq, Int.reduceLT, Int.reduceLE, reduceIte, Int.reduceAdd, Int.reduceSub, Int.reduceMul, Int.reduceNeg, Int.reduceToNat, Bool.false_eq_true, eq_self, if_pos, if_neg]
theorem line_c (lv : Nat) {h : Hp} {t : Nat → Int} {e p : Nat} (L : List LN) (cs : List Int) (B : Bt h t e) (hp : p ≤ e) (hL : L.length < 12) (hl : cs.length ≤ p) (g2 g3 : AV) : match pLine t e p with
    | .inl f => ∃ cs', run (lv + 27) 13 28 [aA 2 0, aI (L.length : Int), g2, g3] [] (LT (lnH h L) cs t e p) = ri 0 (hset (LT (lnH h L) cs' t e f) 150 0 0 (f : Int))
    | .inr (x, q) => run (lv + 27) 13 28 [aA 2 0, aI (L.length : Int), g2, g3] [] (LT (lnH h L) cs t e p) = lnEnd lv (fun p => LT (lnH h (L ++ [x])) (cs ++ x.2.2.1 ++ [15]) t e p) t e q (L.length : Int) (x.1 : Int) x.2.1 := by
  have he := B.2.2
  have B' := ln_B (L := L) B
  have k1 := kind_c (lv + 22) cs B' hp L.length hL g2 g3
  rw [k1]
  have hlen := fun {x : LN} {q : Nat} => pLine_len (t := t) hp (x := x) (q := q)
  unfold pLine at hlen ⊢
  by_cases hk : knd t e p = -1
  · rw [if_pos hk, if_pos hk]; exact ⟨cs, rfl⟩
  rw [if_neg hk] at hlen
  rw [if_neg hk, if_neg hk]
  have hkv : knd t e p = 0 ∨ knd t e p = 1 ∨ knd t e p = 2 := by
    unfold knd at hk ⊢
    split
    · simp
    · split
      · simp
      · split
        · simp
        · rename_i a b c; rw [if_neg a, if_neg b, if_neg c] at hk; exact absurd rfl hk
  have hpe : p < e := by
    by_cases z : p < e
    · exact z
    · exfalso
      have hz : ∀ w : List Int, 1 ≤ w.length → ¬ isW t e p w = true := fun w hw y => z (isW_lt hp y hw)
      unfold knd at hk
      rw [if_neg (hz _ (by decide)), if_neg (hz _ (by decide)), if_neg (hz _ (by decide))] at hk
      exact hk rfl
  have hn := nxt_b t hpe
  have ad := lt_adv (lv + 26) cs B' hp
  have hkn : ((knd t e p).toNat : Int) = knd t e p := by omega
  by_cases h2 : knd t e p = 2
  · simp only [h2, if_pos] at hlen ⊢
    have c1 := cond_c lv cs B' hn.2 (by omega) (L.length : Int) 2 0
    have st : run (lv + 27) 13 93 [aA 2 0, aI (L.length : Int), aI 2, g3] [] (LT (lnH h L) cs t e p) = run (lv + 27) 13 126 [aA 2 0, aI (L.length : Int), aI 2, aI 0] [] (LT (lnH h L) cs t e (nxt t e p)) := by
      simp (disch := omega) only [x_6_0, x_35_2, x_79_1_1_d0, x_79_1_1_d1, x_79_1_1_d2, x_79_1_1_d3, x_79_1_1_d4, x_35_0, x_79_1_8_d0, x_79_1_8_d1, x_79_1_8_d2, x_79_1_8_d3, x_79_1_8_d4, x_68, x_1, x_85, x_7_1_I, x_7_1_A, x_7_1_U, x_61, x_4_1, x_65, x_3, x_79_2_8_d0, x_79_2_8_d1, x_79_2_8_d2, x_79_2_8_d3, x_79_2_8_d4, x_60, x_7_2_I, x_7_2_A, x_7_2_U, x_4_2, x_63, x_69, x_7_3_I, x_7_3_A, x_7_3_U, x_4_3, x_79_2_1_d0, x_79_2_1_d1, x_79_2_1_d2, x_79_2_1_d3, x_79_2_1_d4, x_79_2_2_d0, x_79_2_2_d1, x_79_2_2_d2, x_79_2_2_d3, x_79_2_2_d4, x_79_3_1_d0, x_79_3_1_d1, x_79_3_1_d2, x_79_3_1_d3, x_79_3_1_d4, x_10_1_I, x_10_1_A, x_10_1_U, cb_ri, cb_rl, cb_rv, cb_th, cb_ite, ps_s, ps_n, u_13_0, u_13_26, u_13_50, u_13_66, u_13_67, u_13_93, u_13_109, u_13_118, u_13_150, u_13_167, u_13_188, u_13_202, u_13_208, ad, Int.reduceEq, Int.reduceLT, Int.reduceLE, reduceIte, Int.reduceAdd, Int.reduceSub, Int.reduceMul, Int.reduceNeg, Int.reduceToNat, Bool.false_eq_true, eq_self, if_pos, if_neg]
    rw [show lv + 22 + 5 = lv + 27 from rfl, st]
    cases hc : pCond t e (nxt t e p) with
    | inl f => rw [hc] at c1; exact c1
    | inr z =>
      obtain ⟨a, r⟩ := z
      rw [hc] at c1 hlen
      have c1 : _ = _ := c1
      have hr := pCond_len hn.2 hc
      have hz := hlen (x := (Int.toNat 2, 0, a)) (q := r) rfl
      have hz : p < r ∧ r ≤ e ∧ p + a.1.length + 1 ≤ r := hz
      show _ = lnEnd _ _ _ _ _ _ _ _
      rw [c1]
      exact line_e lv L (2, 0, a) (cs ++ a.1) B hr.2.1 hL (by rw [List.length_append]; omega)
  · simp only [h2, if_false] at hlen ⊢
    have pn := lt_pnum (lv + 25) cs B' hn.2 40 (by omega)
    cases hu : pNum t e (nxt t e p) 40 with
    | inl f =>
      rw [hu] at pn
      refine ⟨cs, ?_⟩
      simp (disch := omega) only [x_6_0, x_35_2, x_79_1_1_d0, x_79_1_1_d1, x_79_1_1_d2, x_79_1_1_d3, x_79_1_1_d4, x_35_0, x_79_1_8_d0, x_79_1_8_d1, x_79_1_8_d2, x_79_1_8_d3, x_79_1_8_d4, x_68, x_1, x_85, x_7_1_I, x_7_1_A, x_7_1_U, x_61, x_4_1, x_65, x_3, x_79_2_8_d0, x_79_2_8_d1, x_79_2_8_d2, x_79_2_8_d3, x_79_2_8_d4, x_60, x_7_2_I, x_7_2_A, x_7_2_U, x_4_2, x_63, x_69, x_7_3_I, x_7_3_A, x_7_3_U, x_4_3, x_79_2_1_d0, x_79_2_1_d1, x_79_2_1_d2, x_79_2_1_d3, x_79_2_1_d4, x_79_2_2_d0, x_79_2_2_d1, x_79_2_2_d2, x_79_2_2_d3, x_79_2_2_d4, x_79_3_1_d0, x_79_3_1_d1, x_79_3_1_d2, x_79_3_1_d3, x_79_3_1_d4, x_10_1_I, x_10_1_A, x_10_1_U, cb_ri, cb_rl, cb_rv, cb_th, cb_ite, ps_s, ps_n, u_13_0, u_13_26, u_13_50, u_13_66, u_13_67, u_13_93, u_13_109, u_13_118, u_13_150, u_13_167, u_13_188, u_13_202, u_13_208, ad, pn, h2, Int.reduceEq, Int.reduceLT, Int.reduceLE, reduceIte, Int.reduceAdd, Int.reduceSub, Int.reduceMul, Int.reduceNeg, Int.reduceToNat, Bool.false_eq_true, eq_self, if_pos, if_neg]
    | inr y =>
      obtain ⟨v, s⟩ := y
      rw [hu] at pn hlen
      dsimp only at hlen ⊢
      have hs := pNum_len hn.2 hu
      have c1 := cond_c lv cs B' hs.2.1 (by omega) (L.length : Int) (knd t e p) v
      have st : run (lv + 27) 13 93 [aA 2 0, aI (L.length : Int), aI (knd t e p), g3] [] (LT (lnH h L) cs t e p) = run (lv + 27) 13 126 [aA 2 0, aI (L.length : Int), aI (knd t e p), aI v] [] (LT (lnH h L) cs t e s) := by
        simp (disch := omega) only [x_6_0, x_35_2, x_79_1_1_d0, x_79_1_1_d1, x_79_1_1_d2, x_79_1_1_d3, x_79_1_1_d4, x_35_0, x_79_1_8_d0, x_79_1_8_d1, x_79_1_8_d2, x_79_1_8_d3, x_79_1_8_d4, x_68, x_1, x_85, x_7_1_I, x_7_1_A, x_7_1_U, x_61, x_4_1, x_65, x_3, x_79_2_8_d0, x_79_2_8_d1, x_79_2_8_d2, x_79_2_8_d3, x_79_2_8_d4, x_60, x_7_2_I, x_7_2_A, x_7_2_U, x_4_2, x_63, x_69, x_7_3_I, x_7_3_A, x_7_3_U, x_4_3, x_79_2_1_d0, x_79_2_1_d1, x_79_2_1_d2, x_79_2_1_d3, x_79_2_1_d4, x_79_2_2_d0, x_79_2_2_d1, x_79_2_2_d2, x_79_2_2_d3, x_79_2_2_d4, x_79_3_1_d0, x_79_3_1_d1, x_79_3_1_d2, x_79_3_1_d3, x_79_3_1_d4, x_10_1_I, x_10_1_A, x_10_1_U, cb_ri, cb_rl, cb_rv, cb_th, cb_ite, ps_s, ps_n, u_13_0, u_13_26, u_13_50, u_13_66, u_13_67, u_13_93, u_13_109, u_13_118, u_13_150, u_13_167, u_13_188, u_13_202, u_13_208, ad, pn, h2, Int.reduceEq, Int.reduceLT, Int.reduceLE, reduceIte, Int.reduceAdd, Int.reduceSub, Int.reduceMul, Int.reduceNeg, Int.reduceToNat, Bool.false_eq_true, eq_self, if_pos, if_neg]
      rw [show lv + 22 + 5 = lv + 27 from rfl, st]
      cases hc : pCond t e s with
      | inl f => rw [hc] at c1; exact c1
      | inr z =>
        obtain ⟨a, r⟩ := z
        rw [hc] at c1 hlen
        have c1 : _ = _ := c1
        have hr := pCond_len hs.2.1 hc
        have hz := hlen (x := ((knd t e p).toNat, v, a)) (q := r) rfl
        have hz : p < r ∧ r ≤ e ∧ p + a.1.length + 1 ≤ r := hz
        show _ = lnEnd _ _ _ _ _ _ _ _
        rw [c1]
        have le := line_e lv L ((knd t e p).toNat, v, a) (cs ++ a.1) B hr.2.1 hL (by rw [List.length_append]; omega)
        dsimp only at le ⊢
        rw [hkn] at le ⊢
        exact le
