theorem lt_pass (lv : Nat) {h : Hp} {t : Nat → Int} {e p : Nat} (cs : List Int) (B : Bt h t e) (hp : p ≤ e) (c : Int) (hc1 : ¬ isL c = true) (hc2 : ¬ isD c = true) : cl (lv + 2) 69 [aA 8 0, aI c] (LT h cs t e p) = if isC t e p c = true then ri 1 (LT h cs t e (nxt t e p)) else ri 0 (hset (LT h cs t e p) 150 0 0 (p : Int)) := by
  rw [passSign_c lv c (LT_TA B hp) hc1 hc2, LT_tp]
theorem atom_c {h : Hp} {t : Nat → Int} {e : Nat} (B : Bt h t e) : ∀ (d : Nat) (lv : Nat) (D : Int) (cs : List Int) (p : Nat), d ≤ 6 → D = 6 - (d : Int) → p ≤ e → cs.length ≤ p → PRes (cl (lv + 3 * d + 7) 16 [aA 2 0, aI D] (LT h cs t e p)) (pAtom t e d p) h cs t e := by
  have he := B.2.2
  intro d
  induction d with
  | zero =>
    intro lv D cs p hd hD hp hl
    have hD' : D = 6 := by omega
    subst hD'
    have w1 := lt_word (lv + 1) cs B hp 25 wNot rfl (by decide) (by decide)
    have s1 := lt_sign (lv + 5) cs B hp 40 (by decide) (by decide)
    have fl := lt_fail (lv + 5) cs B hp
    unfold pAtom
    rw [show lv + 3 * 0 + 7 = lv + 6 + 1 from rfl, in_16]
    by_cases h1 : isW t e p wNot = true
    · simp only [h1, true_or, if_pos]
      refine ⟨cs, ?_⟩
      simp (disch := omega) only [x_6_0, x_35_0, x_3, x_79_2_8_d0, x_79_2_8_d1, x_79_2_8_d2, x_79_2_8_d3, x_79_2_8_d4, x_7_2_I, x_7_2_A, x_7_2_U, x_4_2, x_69, x_1, x_68, x_61, x_4_1, x_64, x_79_1_8_d0, x_79_1_8_d1, x_79_1_8_d2, x_79_1_8_d3, x_79_1_8_d4, x_85, x_11, x_79_2_2_d0, x_79_2_2_d1, x_79_2_2_d2, x_79_2_2_d3, x_79_2_2_d4, x_60, x_35_2, x_79_2_1_d0, x_79_2_1_d1, x_79_2_1_d2, x_79_2_1_d3, x_79_2_1_d4, x_79_1_2_d0, x_79_1_2_d1, x_79_1_2_d2, x_79_1_2_d3, x_79_1_2_d4, x_7_3_I, x_7_3_A, x_7_3_U, x_4_3, x_63, cb_ri, cb_rl, cb_rv, cb_th, cb_ite, ps_s, ps_n, u_16_0, u_16_26, u_16_40, u_16_61, u_16_87, u_16_88, u_16_89, u_16_113, u_16_134, u_16_136, u_16_148, u_16_157, u_16_174, u_16_176, u_16_203, u_16_219, w1, h1, fl, Int.reduceEq, Int.reduceLT, Int.reduceLE, reduceIte, Int.reduceAdd, Int.reduceSub, Int.reduceMul, Int.reduceNeg, Int.reduceToNat, Bool.false_eq_true, eq_self, if_pos, if_neg]
    · by_cases h2 : isC t e p 40 = true
      · simp only [h2, or_true, if_pos]
        refine ⟨cs, ?_⟩
        simp (disch := omega) only [x_6_0, x_35_0, x_3, x_79_2_8_d0, x_79_2_8_d1, x_79_2_8_d2, x_79_2_8_d3, x_79_2_8_d4, x_7_2_I, x_7_2_A, x_7_2_U, x_4_2, x_69, x_1, x_68, x_61, x_4_1, x_64, x_79_1_8_d0, x_79_1_8_d1, x_79_1_8_d2, x_79_1_8_d3, x_79_1_8_d4, x_85, x_11, x_79_2_2_d0, x_79_2_2_d1, x_79_2_2_d2, x_79_2_2_d3, x_79_2_2_d4, x_60, x_35_2, x_79_2_1_d0, x_79_2_1_d1, x_79_2_1_d2, x_79_2_1_d3, x_79_2_1_d4, x_79_1_2_d0, x_79_1_2_d1, x_79_1_2_d2, x_79_1_2_d3, x_79_1_2_d4, x_7_3_I, x_7_3_A, x_7_3_U, x_4_3, x_63, cb_ri, cb_rl, cb_rv, cb_th, cb_ite, ps_s, ps_n, u_16_0, u_16_26, u_16_40, u_16_61, u_16_87, u_16_88, u_16_89, u_16_113, u_16_134, u_16_136, u_16_148, u_16_157, u_16_174, u_16_176, u_16_203, u_16_219, w1, h1, s1, h2, fl, Int.reduceEq, Int.reduceLT, Int.reduceLE, reduceIte, Int.reduceAdd, Int.reduceSub, Int.reduceMul, Int.reduceNeg, Int.reduceToNat, Bool.false_eq_true, eq_self, if_pos, if_neg]
      · have h3 : ¬ (isW t e p wNot = true ∨ isC t e p 40 = true) := by rintro (z | z); exact h1 z; exact h2 z
        rw [if_neg h3]
        have pl := plain_c lv cs B hp hl 6 none 0
        simp (disch := omega) only [x_6_0, x_35_0, x_3, x_79_2_8_d0, x_79_2_8_d1, x_79_2_8_d2, x_79_2_8_d3, x_79_2_8_d4, x_7_2_I, x_7_2_A, x_7_2_U, x_4_2, x_69, x_1, x_68, x_61, x_4_1, x_64, x_79_1_8_d0, x_79_1_8_d1, x_79_1_8_d2, x_79_1_8_d3, x_79_1_8_d4, x_85, x_11, x_79_2_2_d0, x_79_2_2_d1, x_79_2_2_d2, x_79_2_2_d3, x_79_2_2_d4, x_60, x_35_2, x_79_2_1_d0, x_79_2_1_d1, x_79_2_1_d2, x_79_2_1_d3, x_79_2_1_d4, x_79_1_2_d0, x_79_1_2_d1, x_79_1_2_d2, x_79_1_2_d3, x_79_1_2_d4, x_7_3_I, x_7_3_A, x_7_3_U, x_4_3, x_63, cb_ri, cb_rl, cb_rv, cb_th, cb_ite, ps_s, ps_n, u_16_0, u_16_26, u_16_40, u_16_61, u_16_87, u_16_88, u_16_113, u_16_134, u_16_136, u_16_148, u_16_157, u_16_174, u_16_176, u_16_203, u_16_219, w1, h1, s1, h2, Int.reduceEq, Int.reduceLT, Int.reduceLE, reduceIte, Int.reduceAdd, Int.reduceSub, Int.reduceMul, Int.reduceNeg, Int.reduceToNat, Bool.false_eq_true, eq_self, if_pos, if_neg]
        exact pl
  | succ d ih =>
    intro lv D cs p hd hD hp hl
    have w1 := lt_word (lv + 3 * d + 4) cs B hp 25 wNot rfl (by decide) (by decide)
    have s1 := lt_sign (lv + 3 * d + 8) cs B hp 40 (by decide) (by decide)
    have ad := lt_adv (lv + 3 * d + 8) cs B hp
    have ha := fun (cs : List Int) (p : Nat) (hp : p ≤ e) (hl : cs.length ≤ p) => ih lv (D + 1) cs p (by omega) (by omega) hp hl
    have hb := fun (cs : List Int) (p : Nat) (hp : p ≤ e) (hl : cs.length ≤ p) => all_c (lv + 3 * d + 2) (D + 1) (pAtom t e d) B ha (pAtom_len d) cs p hp hl
    have ho := fun (cs : List Int) (p : Nat) (hp : p ≤ e) (hl : cs.length ≤ p) => any_c (lv + 3 * d + 3) (D + 1) (pAll t e (pAtom t e d)) B hb (fun p hp => pSeq_len (by decide) (pAtom_len d) p hp) cs p hp hl
    unfold pAtom
    rw [show lv + 3 * (d + 1) + 7 = lv + 3 * d + 9 + 1 by omega, in_16]
    by_cases h1 : isW t e p wNot = true
    · rw [if_pos h1]
      have hlt := isW_lt hp h1 (by decide)
      have hn := nxt_b t hlt
      have x1 := ih (lv + 1) (D + 1) cs _ (by omega) (by omega) hn.2 (by omega)
      rw [show lv + 1 + 3 * d + 7 = lv + 3 * d + 8 by omega] at x1
      have l1 := pAtom_len (t := t) d _ hn.2
      cases hq : pAtom t e d (nxt t e p) with
      | inl f =>
        rw [hq] at x1
        obtain ⟨cs', x1⟩ := x1
        refine ⟨cs', ?_⟩
        simp (disch := omega) only [x_6_0, x_35_0, x_3, x_79_2_8_d0, x_79_2_8_d1, x_79_2_8_d2, x_79_2_8_d3, x_79_2_8_d4, x_7_2_I, x_7_2_A, x_7_2_U, x_4_2, x_69, x_1, x_68, x_61, x_4_1, x_64, x_79_1_8_d0, x_79_1_8_d1, x_79_1_8_d2, x_79_1_8_d3, x_79_1_8_d4, x_85, x_11, x_79_2_2_d0, x_79_2_2_d1, x_79_2_2_d2, x_79_2_2_d3, x_79_2_2_d4, x_60, x_35_2, x_79_2_1_d0, x_79_2_1_d1, x_79_2_1_d2, x_79_2_1_d3, x_79_2_1_d4, x_79_1_2_d0, x_79_1_2_d1, x_79_1_2_d2, x_79_1_2_d3, x_79_1_2_d4, x_7_3_I, x_7_3_A, x_7_3_U, x_4_3, x_63, cb_ri, cb_rl, cb_rv, cb_th, cb_ite, ps_s, ps_n, u_16_0, u_16_26, u_16_40, u_16_61, u_16_87, u_16_88, u_16_89, u_16_113, u_16_134, u_16_136, u_16_148, u_16_157, u_16_174, u_16_176, u_16_203, u_16_219, u_17_0, u_17_10, in_17, w1, h1, ad, x1, w32_id, Int.reduceEq, Int.reduceLT, Int.reduceLE, reduceIte, Int.reduceAdd, Int.reduceSub, Int.reduceMul, Int.reduceNeg, Int.reduceToNat, Bool.false_eq_true, eq_self, if_pos, if_neg]
      | inr z =>
        obtain ⟨a, q⟩ := z
        rw [hq] at x1 l1
        have x1 : _ = ri 1 (LT h (cs ++ a.1) t e q) := x1
        have l1 : nxt t e p + a.1.length ≤ q ∧ nxt t e p < q ∧ q ≤ e := l1
        have em := emit_c (lv + 3 * d + 7) h (cs ++ a.1) t e q 9 (by simp only [List.length_append]; omega)
        rw [List.append_assoc] at em
        show run _ _ _ _ _ _ = _
        simp (disch := omega) only [x_6_0, x_35_0, x_3, x_79_2_8_d0, x_79_2_8_d1, x_79_2_8_d2, x_79_2_8_d3, x_79_2_8_d4, x_7_2_I, x_7_2_A, x_7_2_U, x_4_2, x_69, x_1, x_68, x_61, x_4_1, x_64, x_79_1_8_d0, x_79_1_8_d1, x_79_1_8_d2, x_79_1_8_d3, x_79_1_8_d4, x_85, x_11, x_79_2_2_d0, x_79_2_2_d1, x_79_2_2_d2, x_79_2_2_d3, x_79_2_2_d4, x_60, x_35_2, x_79_2_1_d0, x_79_2_1_d1, x_79_2_1_d2, x_79_2_1_d3, x_79_2_1_d4, x_79_1_2_d0, x_79_1_2_d1, x_79_1_2_d2, x_79_1_2_d3, x_79_1_2_d4, x_7_3_I, x_7_3_A, x_7_3_U, x_4_3, x_63, cb_ri, cb_rl, cb_rv, cb_th, cb_ite, ps_s, ps_n, u_16_0, u_16_26, u_16_40, u_16_61, u_16_87, u_16_88, u_16_89, u_16_113, u_16_134, u_16_136, u_16_148, u_16_157, u_16_174, u_16_176, u_16_203, u_16_219, u_17_0, u_17_10, in_17, w1, h1, ad, x1, em, w32_id, Int.reduceEq, Int.reduceLT, Int.reduceLE, reduceIte, Int.reduceAdd, Int.reduceSub, Int.reduceMul, Int.reduceNeg, Int.reduceToNat, Bool.false_eq_true, eq_self, if_pos, if_neg]
    · rw [if_neg h1]
      by_cases h2 : isC t e p 40 = true
      · rw [if_pos h2]
        have hn := nxt_b t (isC_lt h2)
        have x1 := ho cs _ hn.2 (by omega)
        have l1 := pAny_len (t := t) (X := pAtom t e d) (pAtom_len d) _ hn.2
        unfold pAny at l1 ⊢
        cases hq : pSeq t e (pAll t e (pAtom t e d)) wOr 14 (fun a b => a || b) (nxt t e p) with
        | inl f =>
          rw [hq] at x1
          obtain ⟨cs', x1⟩ := x1
          refine ⟨cs', ?_⟩
          simp (disch := omega) only [x_6_0, x_35_0, x_3, x_79_2_8_d0, x_79_2_8_d1, x_79_2_8_d2, x_79_2_8_d3, x_79_2_8_d4, x_7_2_I, x_7_2_A, x_7_2_U, x_4_2, x_69, x_1, x_68, x_61, x_4_1, x_64, x_79_1_8_d0, x_79_1_8_d1, x_79_1_8_d2, x_79_1_8_d3, x_79_1_8_d4, x_85, x_11, x_79_2_2_d0, x_79_2_2_d1, x_79_2_2_d2, x_79_2_2_d3, x_79_2_2_d4, x_60, x_35_2, x_79_2_1_d0, x_79_2_1_d1, x_79_2_1_d2, x_79_2_1_d3, x_79_2_1_d4, x_79_1_2_d0, x_79_1_2_d1, x_79_1_2_d2, x_79_1_2_d3, x_79_1_2_d4, x_7_3_I, x_7_3_A, x_7_3_U, x_4_3, x_63, cb_ri, cb_rl, cb_rv, cb_th, cb_ite, ps_s, ps_n, u_16_0, u_16_26, u_16_40, u_16_61, u_16_87, u_16_88, u_16_89, u_16_113, u_16_134, u_16_136, u_16_148, u_16_157, u_16_174, u_16_176, u_16_203, u_16_219, w1, h1, s1, h2, ad, x1, w32_id, Int.reduceEq, Int.reduceLT, Int.reduceLE, reduceIte, Int.reduceAdd, Int.reduceSub, Int.reduceMul, Int.reduceNeg, Int.reduceToNat, Bool.false_eq_true, eq_self, if_pos, if_neg]
        | inr z =>
          obtain ⟨a, q⟩ := z
          rw [hq] at x1 l1
          have x1 : _ = ri 1 (LT h (cs ++ a.1) t e q) := x1
          have l1 : nxt t e p + a.1.length ≤ q ∧ nxt t e p < q ∧ q ≤ e := l1
          have ps := lt_pass (lv + 3 * d + 7) (cs ++ a.1) B l1.2.2 41 (by decide) (by decide)
          by_cases h3 : isC t e q 41 = true
          · simp only [h3, if_pos]
            show run _ _ _ _ _ _ = _
            simp (disch := omega) only [x_6_0, x_35_0, x_3, x_79_2_8_d0, x_79_2_8_d1, x_79_2_8_d2, x_79_2_8_d3, x_79_2_8_d4, x_7_2_I, x_7_2_A, x_7_2_U, x_4_2, x_69, x_1, x_68, x_61, x_4_1, x_64, x_79_1_8_d0, x_79_1_8_d1, x_79_1_8_d2, x_79_1_8_d3, x_79_1_8_d4, x_85, x_11, x_79_2_2_d0, x_79_2_2_d1, x_79_2_2_d2, x_79_2_2_d3, x_79_2_2_d4, x_60, x_35_2, x_79_2_1_d0, x_79_2_1_d1, x_79_2_1_d2, x_79_2_1_d3, x_79_2_1_d4, x_79_1_2_d0, x_79_1_2_d1, x_79_1_2_d2, x_79_1_2_d3, x_79_1_2_d4, x_7_3_I, x_7_3_A, x_7_3_U, x_4_3, x_63, cb_ri, cb_rl, cb_rv, cb_th, cb_ite, ps_s, ps_n, u_16_0, u_16_26, u_16_40, u_16_61, u_16_87, u_16_88, u_16_89, u_16_113, u_16_134, u_16_136, u_16_148, u_16_157, u_16_174, u_16_176, u_16_203, u_16_219, w1, h1, s1, h2, ad, x1, ps, h3, w32_id, Int.reduceEq, Int.reduceLT, Int.reduceLE, reduceIte, Int.reduceAdd, Int.reduceSub, Int.reduceMul, Int.reduceNeg, Int.reduceToNat, Bool.false_eq_true, eq_self, if_pos, if_neg]
          · simp only [h3, if_neg, Bool.false_eq_true]
            refine ⟨cs ++ a.1, ?_⟩
            simp (disch := omega) only [x_6_0, x_35_0, x_3, x_79_2_8_d0, x_79_2_8_d1, x_79_2_8_d2, x_79_2_8_d3, x_79_2_8_d4, x_7_2_I, x_7_2_A, x_7_2_U, x_4_2, x_69, x_1, x_68, x_61, x_4_1, x_64, x_79_1_8_d0, x_79_1_8_d1, x_79_1_8_d2, x_79_1_8_d3, x_79_1_8_d4, x_85, x_11, x_79_2_2_d0, x_79_2_2_d1, x_79_2_2_d2, x_79_2_2_d3, x_79_2_2_d4, x_60, x_35_2, x_79_2_1_d0, x_79_2_1_d1, x_79_2_1_d2, x_79_2_1_d3, x_79_2_1_d4, x_79_1_2_d0, x_79_1_2_d1, x_79_1_2_d2, x_79_1_2_d3, x_79_1_2_d4, x_7_3_I, x_7_3_A, x_7_3_U, x_4_3, x_63, cb_ri, cb_rl, cb_rv, cb_th, cb_ite, ps_s, ps_n, u_16_0, u_16_26, u_16_40, u_16_61, u_16_87, u_16_88, u_16_89, u_16_113, u_16_134, u_16_136, u_16_148, u_16_157, u_16_174, u_16_176, u_16_203, u_16_219, w1, h1, s1, h2, ad, x1, ps, h3, w32_id, Int.reduceEq, Int.reduceLT, Int.reduceLE, reduceIte, Int.reduceAdd, Int.reduceSub, Int.reduceMul, Int.reduceNeg, Int.reduceToNat, Bool.false_eq_true, eq_self, if_pos, if_neg]
      · rw [if_neg h2]
        have pl := plain_c (lv + 3 * d + 3) cs B hp hl D none 0
        simp (disch := omega) only [x_6_0, x_35_0, x_3, x_79_2_8_d0, x_79_2_8_d1, x_79_2_8_d2, x_79_2_8_d3, x_79_2_8_d4, x_7_2_I, x_7_2_A, x_7_2_U, x_4_2, x_69, x_1, x_68, x_61, x_4_1, x_64, x_79_1_8_d0, x_79_1_8_d1, x_79_1_8_d2, x_79_1_8_d3, x_79_1_8_d4, x_85, x_11, x_79_2_2_d0, x_79_2_2_d1, x_79_2_2_d2, x_79_2_2_d3, x_79_2_2_d4, x_60, x_35_2, x_79_2_1_d0, x_79_2_1_d1, x_79_2_1_d2, x_79_2_1_d3, x_79_2_1_d4, x_79_1_2_d0, x_79_1_2_d1, x_79_1_2_d2, x_79_1_2_d3, x_79_1_2_d4, x_7_3_I, x_7_3_A, x_7_3_U, x_4_3, x_63, cb_ri, cb_rl, cb_rv, cb_th, cb_ite, ps_s, ps_n, u_16_0, u_16_26, u_16_40, u_16_61, u_16_87, u_16_88, u_16_113, u_16_134, u_16_136, u_16_148, u_16_157, u_16_174, u_16_176, u_16_203, u_16_219, w1, h1, s1, h2, Int.reduceEq, Int.reduceLT, Int.reduceLE, reduceIte, Int.reduceAdd, Int.reduceSub, Int.reduceMul, Int.reduceNeg, Int.reduceToNat, Bool.false_eq_true, eq_self, if_pos, if_neg]
        exact pl
