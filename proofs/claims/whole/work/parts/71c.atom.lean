/-! THE LAW's TEXT (the class's reader): conditions, to any depth that the document allows. -/
theorem seqA_l (lv : Nat) {h : Hp} {t : Nat → Int} {e : Nat} (D : Int) (X : Nat → PR CB2) (cs : List Int) (B : Bt h t e)
    (hX : ∀ (cs : List Int) (p : Nat), p ≤ e → cs.length ≤ p → PRes (cl (lv + 5) 16 [aA 2 0, aI D] (LT h cs t e p)) (X p) h cs t e) (hN : ∀ p, p ≤ e → LenOk (X p) e p) : ∀ (n : Nat) (a : CB2) (p i : Nat), p ≤ e → e < p + n → i < p → cs.length + a.1.length ≤ p → PRes (run (lv + 5) 15 12 [aA 2 0, aI D, aI (i : Int)] [] (LT h (cs ++ a.1) t e p)) (pLoop t e X wAnd 13 (fun a b => a && b) n a p) h cs t e := by
  have he := B.2.2
  intro n
  induction n with
  | zero => intro a p i h1 h2; omega
  | succ n ih =>
    intro a p i h1 h2 h3 h4
    have w1 := lt_word lv (cs ++ a.1) B h1 0 wAnd rfl (by decide) (by decide)
    have ad := lt_adv (lv + 4) (cs ++ a.1) B h1
    unfold pLoop
    rw [hd_15_12]
    by_cases hc : isW t e p wAnd = true
    · rw [if_pos hc]
      have hlt := isW_lt h1 hc (by decide)
      have hn := nxt_b t hlt
      have x1 := hX (cs ++ a.1) _ hn.2 (by rw [List.length_append]; omega)
      have l1 := hN _ hn.2
      cases hq : X (nxt t e p) with
      | inl f =>
        rw [hq] at x1
        obtain ⟨cs', x1⟩ := x1
        refine ⟨cs', ?_⟩
        simp (disch := omega) only [x_6_0, x_4_1, x_79_2_2_d0, x_79_2_2_d1, x_79_2_2_d2, x_79_2_2_d3, x_79_2_2_d4, x_69, x_1, x_85, x_7_2_I, x_7_2_A, x_7_2_U, x_61, x_4_2, x_65, x_35_0, x_3, x_79_2_8_d0, x_79_2_8_d1, x_79_2_8_d2, x_79_2_8_d3, x_79_2_8_d4, x_68, x_79_1_8_d0, x_79_1_8_d1, x_79_1_8_d2, x_79_1_8_d3, x_79_1_8_d4, x_35_2, x_79_2_1_d0, x_79_2_1_d1, x_79_2_1_d2, x_79_2_1_d3, x_79_2_1_d4, x_10_2_I, x_10_2_A, x_10_2_U, x_60, cb_ri, cb_rl, cb_rv, cb_th, cb_ite, ps_s, ps_n, u_15_0, u_15_10, u_15_48, u_15_63, w1, hc, ad, x1, Int.reduceEq, Int.reduceLT, Int.reduceLE, reduceIte, Int.reduceAdd, Int.reduceSub, Int.reduceMul, Int.reduceNeg, Int.reduceToNat, Bool.false_eq_true, eq_self, if_pos, if_neg]
      | inr z =>
        obtain ⟨b, q⟩ := z
        rw [hq] at x1 l1
        have x1 : _ = ri 1 (LT h (cs ++ a.1 ++ b.1) t e q) := x1
        have l1 : nxt t e p + b.1.length ≤ q ∧ nxt t e p < q ∧ q ≤ e := l1
        have em := emit_c (lv + 4) h (cs ++ a.1 ++ b.1) t e q 13 (by simp only [List.length_append]; omega)
        have e1 : cs ++ a.1 ++ b.1 ++ [13] = cs ++ (a.1 ++ b.1 ++ [13]) := by simp
        rw [e1] at em
        simp (disch := omega) only [x_6_0, x_4_1, x_79_2_2_d0, x_79_2_2_d1, x_79_2_2_d2, x_79_2_2_d3, x_79_2_2_d4, x_69, x_1, x_85, x_7_2_I, x_7_2_A, x_7_2_U, x_61, x_4_2, x_65, x_35_0, x_3, x_79_2_8_d0, x_79_2_8_d1, x_79_2_8_d2, x_79_2_8_d3, x_79_2_8_d4, x_68, x_79_1_8_d0, x_79_1_8_d1, x_79_1_8_d2, x_79_1_8_d3, x_79_1_8_d4, x_35_2, x_79_2_1_d0, x_79_2_1_d1, x_79_2_1_d2, x_79_2_1_d3, x_79_2_1_d4, x_10_2_I, x_10_2_A, x_10_2_U, x_60, cb_ri, cb_rl, cb_rv, cb_th, cb_ite, ps_s, ps_n, u_15_0, u_15_10, u_15_48, u_15_63, w1, hc, ad, x1, em, w32_id, Int.reduceEq, Int.reduceLT, Int.reduceLE, reduceIte, Int.reduceAdd, Int.reduceSub, Int.reduceMul, Int.reduceNeg, Int.reduceToNat, Bool.false_eq_true, eq_self, if_pos, if_neg]
        exact ih (a.1 ++ b.1 ++ [13], fun F => a.2 F && b.2 F) q (i + 1) l1.2.2 (by omega) (by omega) (by simp only [List.length_append, List.length_cons, List.length_nil]; omega)
    · rw [if_neg hc]
      show ex _ _ _ _ _ _ = _
      simp (disch := omega) only [x_6_0, x_4_1, x_79_2_2_d0, x_79_2_2_d1, x_79_2_2_d2, x_79_2_2_d3, x_79_2_2_d4, x_69, x_1, x_85, x_7_2_I, x_7_2_A, x_7_2_U, x_61, x_4_2, x_65, x_35_0, x_3, x_79_2_8_d0, x_79_2_8_d1, x_79_2_8_d2, x_79_2_8_d3, x_79_2_8_d4, x_68, x_79_1_8_d0, x_79_1_8_d1, x_79_1_8_d2, x_79_1_8_d3, x_79_1_8_d4, x_35_2, x_79_2_1_d0, x_79_2_1_d1, x_79_2_1_d2, x_79_2_1_d3, x_79_2_1_d4, x_10_2_I, x_10_2_A, x_10_2_U, x_60, cb_ri, cb_rl, cb_rv, cb_th, cb_ite, ps_s, ps_n, u_15_0, u_15_10, u_15_48, u_15_63, w1, hc, Int.reduceEq, Int.reduceLT, Int.reduceLE, reduceIte, Int.reduceAdd, Int.reduceSub, Int.reduceMul, Int.reduceNeg, Int.reduceToNat, Bool.false_eq_true, eq_self, if_pos, if_neg]
theorem all_c (lv : Nat) {h : Hp} {t : Nat → Int} {e : Nat} (D : Int) (X : Nat → PR CB2) (B : Bt h t e)
    (hX : ∀ (cs : List Int) (p : Nat), p ≤ e → cs.length ≤ p → PRes (cl (lv + 5) 16 [aA 2 0, aI D] (LT h cs t e p)) (X p) h cs t e) (hN : ∀ p, p ≤ e → LenOk (X p) e p) (cs : List Int) (p : Nat) (hp : p ≤ e) (hl : cs.length ≤ p) : PRes (cl (lv + 6) 15 [aA 2 0, aI D] (LT h cs t e p)) (pAll t e X p) h cs t e := by
  have x1 := hX cs p hp hl
  have l1 := hN p hp
  unfold pAll pSeq
  rw [in_15]
  cases hq : X p with
  | inl f =>
    rw [hq] at x1
    obtain ⟨cs', x1⟩ := x1
    refine ⟨cs', ?_⟩
    simp (disch := omega) only [x_6_0, x_4_1, x_79_2_2_d0, x_79_2_2_d1, x_79_2_2_d2, x_79_2_2_d3, x_79_2_2_d4, x_69, x_1, x_85, x_7_2_I, x_7_2_A, x_7_2_U, x_61, x_4_2, x_65, x_35_0, x_3, x_79_2_8_d0, x_79_2_8_d1, x_79_2_8_d2, x_79_2_8_d3, x_79_2_8_d4, x_68, x_79_1_8_d0, x_79_1_8_d1, x_79_1_8_d2, x_79_1_8_d3, x_79_1_8_d4, x_35_2, x_79_2_1_d0, x_79_2_1_d1, x_79_2_1_d2, x_79_2_1_d3, x_79_2_1_d4, x_10_2_I, x_10_2_A, x_10_2_U, x_60, cb_ri, cb_rl, cb_rv, cb_th, cb_ite, ps_s, ps_n, u_15_0, u_15_10, u_15_48, u_15_63, x1, Int.reduceEq, Int.reduceLT, Int.reduceLE, reduceIte, Int.reduceAdd, Int.reduceSub, Int.reduceMul, Int.reduceNeg, Int.reduceToNat, Bool.false_eq_true, eq_self, if_pos, if_neg]
  | inr z =>
    obtain ⟨a, q⟩ := z
    rw [hq] at x1 l1
    have x1 : _ = ri 1 (LT h (cs ++ a.1) t e q) := x1
    have l1 : p + a.1.length ≤ q ∧ p < q ∧ q ≤ e := l1
    simp (disch := omega) only [x_6_0, x_4_1, x_79_2_2_d0, x_79_2_2_d1, x_79_2_2_d2, x_79_2_2_d3, x_79_2_2_d4, x_69, x_1, x_85, x_7_2_I, x_7_2_A, x_7_2_U, x_61, x_4_2, x_65, x_35_0, x_3, x_79_2_8_d0, x_79_2_8_d1, x_79_2_8_d2, x_79_2_8_d3, x_79_2_8_d4, x_68, x_79_1_8_d0, x_79_1_8_d1, x_79_1_8_d2, x_79_1_8_d3, x_79_1_8_d4, x_35_2, x_79_2_1_d0, x_79_2_1_d1, x_79_2_1_d2, x_79_2_1_d3, x_79_2_1_d4, x_10_2_I, x_10_2_A, x_10_2_U, x_60, cb_ri, cb_rl, cb_rv, cb_th, cb_ite, ps_s, ps_n, u_15_0, u_15_10, u_15_48, u_15_63, x1, Int.reduceEq, Int.reduceLT, Int.reduceLE, reduceIte, Int.reduceAdd, Int.reduceSub, Int.reduceMul, Int.reduceNeg, Int.reduceToNat, Bool.false_eq_true, eq_self, if_pos, if_neg]
    exact seqA_l lv D X cs B hX hN (e + 1 - q) a q 0 l1.2.2 (by omega) (by omega) (by omega)
theorem seqO_l (lv : Nat) {h : Hp} {t : Nat → Int} {e : Nat} (D : Int) (X : Nat → PR CB2) (cs : List Int) (B : Bt h t e)
    (hX : ∀ (cs : List Int) (p : Nat), p ≤ e → cs.length ≤ p → PRes (cl (lv + 5) 15 [aA 2 0, aI D] (LT h cs t e p)) (X p) h cs t e) (hN : ∀ p, p ≤ e → LenOk (X p) e p) : ∀ (n : Nat) (a : CB2) (p i : Nat), p ≤ e → e < p + n → i < p → cs.length + a.1.length ≤ p → PRes (run (lv + 5) 14 12 [aA 2 0, aI D, aI (i : Int)] [] (LT h (cs ++ a.1) t e p)) (pLoop t e X wOr 14 (fun a b => a || b) n a p) h cs t e := by
  have he := B.2.2
  intro n
  induction n with
  | zero => intro a p i h1 h2; omega
  | succ n ih =>
    intro a p i h1 h2 h3 h4
    have w1 := lt_word lv (cs ++ a.1) B h1 28 wOr rfl (by decide) (by decide)
    have ad := lt_adv (lv + 4) (cs ++ a.1) B h1
    unfold pLoop
    rw [hd_14_12]
    by_cases hc : isW t e p wOr = true
    · rw [if_pos hc]
      have hlt := isW_lt h1 hc (by decide)
      have hn := nxt_b t hlt
      have x1 := hX (cs ++ a.1) _ hn.2 (by rw [List.length_append]; omega)
      have l1 := hN _ hn.2
      cases hq : X (nxt t e p) with
      | inl f =>
        rw [hq] at x1
        obtain ⟨cs', x1⟩ := x1
        refine ⟨cs', ?_⟩
        simp (disch := omega) only [x_6_0, x_4_1, x_79_2_2_d0, x_79_2_2_d1, x_79_2_2_d2, x_79_2_2_d3, x_79_2_2_d4, x_69, x_1, x_85, x_7_2_I, x_7_2_A, x_7_2_U, x_61, x_4_2, x_65, x_35_0, x_3, x_79_2_8_d0, x_79_2_8_d1, x_79_2_8_d2, x_79_2_8_d3, x_79_2_8_d4, x_68, x_79_1_8_d0, x_79_1_8_d1, x_79_1_8_d2, x_79_1_8_d3, x_79_1_8_d4, x_35_2, x_79_2_1_d0, x_79_2_1_d1, x_79_2_1_d2, x_79_2_1_d3, x_79_2_1_d4, x_10_2_I, x_10_2_A, x_10_2_U, x_60, cb_ri, cb_rl, cb_rv, cb_th, cb_ite, ps_s, ps_n, u_14_0, u_14_10, u_14_48, u_14_63, w1, hc, ad, x1, Int.reduceEq, Int.reduceLT, Int.reduceLE, reduceIte, Int.reduceAdd, Int.reduceSub, Int.reduceMul, Int.reduceNeg, Int.reduceToNat, Bool.false_eq_true, eq_self, if_pos, if_neg]
      | inr z =>
        obtain ⟨b, q⟩ := z
        rw [hq] at x1 l1
        have x1 : _ = ri 1 (LT h (cs ++ a.1 ++ b.1) t e q) := x1
        have l1 : nxt t e p + b.1.length ≤ q ∧ nxt t e p < q ∧ q ≤ e := l1
        have em := emit_c (lv + 4) h (cs ++ a.1 ++ b.1) t e q 14 (by simp only [List.length_append]; omega)
        have e1 : cs ++ a.1 ++ b.1 ++ [14] = cs ++ (a.1 ++ b.1 ++ [14]) := by simp
        rw [e1] at em
        simp (disch := omega) only [x_6_0, x_4_1, x_79_2_2_d0, x_79_2_2_d1, x_79_2_2_d2, x_79_2_2_d3, x_79_2_2_d4, x_69, x_1, x_85, x_7_2_I, x_7_2_A, x_7_2_U, x_61, x_4_2, x_65, x_35_0, x_3, x_79_2_8_d0, x_79_2_8_d1, x_79_2_8_d2, x_79_2_8_d3, x_79_2_8_d4, x_68, x_79_1_8_d0, x_79_1_8_d1, x_79_1_8_d2, x_79_1_8_d3, x_79_1_8_d4, x_35_2, x_79_2_1_d0, x_79_2_1_d1, x_79_2_1_d2, x_79_2_1_d3, x_79_2_1_d4, x_10_2_I, x_10_2_A, x_10_2_U, x_60, cb_ri, cb_rl, cb_rv, cb_th, cb_ite, ps_s, ps_n, u_14_0, u_14_10, u_14_48, u_14_63, w1, hc, ad, x1, em, w32_id, Int.reduceEq, Int.reduceLT, Int.reduceLE, reduceIte, Int.reduceAdd, Int.reduceSub, Int.reduceMul, Int.reduceNeg, Int.reduceToNat, Bool.false_eq_true, eq_self, if_pos, if_neg]
        exact ih (a.1 ++ b.1 ++ [14], fun F => a.2 F || b.2 F) q (i + 1) l1.2.2 (by omega) (by omega) (by simp only [List.length_append, List.length_cons, List.length_nil]; omega)
    · rw [if_neg hc]
      show ex _ _ _ _ _ _ = _
      simp (disch := omega) only [x_6_0, x_4_1, x_79_2_2_d0, x_79_2_2_d1, x_79_2_2_d2, x_79_2_2_d3, x_79_2_2_d4, x_69, x_1, x_85, x_7_2_I, x_7_2_A, x_7_2_U, x_61, x_4_2, x_65, x_35_0, x_3, x_79_2_8_d0, x_79_2_8_d1, x_79_2_8_d2, x_79_2_8_d3, x_79_2_8_d4, x_68, x_79_1_8_d0, x_79_1_8_d1, x_79_1_8_d2, x_79_1_8_d3, x_79_1_8_d4, x_35_2, x_79_2_1_d0, x_79_2_1_d1, x_79_2_1_d2, x_79_2_1_d3, x_79_2_1_d4, x_10_2_I, x_10_2_A, x_10_2_U, x_60, cb_ri, cb_rl, cb_rv, cb_th, cb_ite, ps_s, ps_n, u_14_0, u_14_10, u_14_48, u_14_63, w1, hc, Int.reduceEq, Int.reduceLT, Int.reduceLE, reduceIte, Int.reduceAdd, Int.reduceSub, Int.reduceMul, Int.reduceNeg, Int.reduceToNat, Bool.false_eq_true, eq_self, if_pos, if_neg]
theorem any_c (lv : Nat) {h : Hp} {t : Nat → Int} {e : Nat} (D : Int) (X : Nat → PR CB2) (B : Bt h t e)
    (hX : ∀ (cs : List Int) (p : Nat), p ≤ e → cs.length ≤ p → PRes (cl (lv + 5) 15 [aA 2 0, aI D] (LT h cs t e p)) (X p) h cs t e) (hN : ∀ p, p ≤ e → LenOk (X p) e p) (cs : List Int) (p : Nat) (hp : p ≤ e) (hl : cs.length ≤ p) : PRes (cl (lv + 6) 14 [aA 2 0, aI D] (LT h cs t e p)) (pSeq t e X wOr 14 (fun a b => a || b) p) h cs t e := by
  have x1 := hX cs p hp hl
  have l1 := hN p hp
  unfold pSeq
  rw [in_14]
  cases hq : X p with
  | inl f =>
    rw [hq] at x1
    obtain ⟨cs', x1⟩ := x1
    refine ⟨cs', ?_⟩
    simp (disch := omega) only [x_6_0, x_4_1, x_79_2_2_d0, x_79_2_2_d1, x_79_2_2_d2, x_79_2_2_d3, x_79_2_2_d4, x_69, x_1, x_85, x_7_2_I, x_7_2_A, x_7_2_U, x_61, x_4_2, x_65, x_35_0, x_3, x_79_2_8_d0, x_79_2_8_d1, x_79_2_8_d2, x_79_2_8_d3, x_79_2_8_d4, x_68, x_79_1_8_d0, x_79_1_8_d1, x_79_1_8_d2, x_79_1_8_d3, x_79_1_8_d4, x_35_2, x_79_2_1_d0, x_79_2_1_d1, x_79_2_1_d2, x_79_2_1_d3, x_79_2_1_d4, x_10_2_I, x_10_2_A, x_10_2_U, x_60, cb_ri, cb_rl, cb_rv, cb_th, cb_ite, ps_s, ps_n, u_14_0, u_14_10, u_14_48, u_14_63, x1, Int.reduceEq, Int.reduceLT, Int.reduceLE, reduceIte, Int.reduceAdd, Int.reduceSub, Int.reduceMul, Int.reduceNeg, Int.reduceToNat, Bool.false_eq_true, eq_self, if_pos, if_neg]
  | inr z =>
    obtain ⟨a, q⟩ := z
    rw [hq] at x1 l1
    have x1 : _ = ri 1 (LT h (cs ++ a.1) t e q) := x1
    have l1 : p + a.1.length ≤ q ∧ p < q ∧ q ≤ e := l1
    simp (disch := omega) only [x_6_0, x_4_1, x_79_2_2_d0, x_79_2_2_d1, x_79_2_2_d2, x_79_2_2_d3, x_79_2_2_d4, x_69, x_1, x_85, x_7_2_I, x_7_2_A, x_7_2_U, x_61, x_4_2, x_65, x_35_0, x_3, x_79_2_8_d0, x_79_2_8_d1, x_79_2_8_d2, x_79_2_8_d3, x_79_2_8_d4, x_68, x_79_1_8_d0, x_79_1_8_d1, x_79_1_8_d2, x_79_1_8_d3, x_79_1_8_d4, x_35_2, x_79_2_1_d0, x_79_2_1_d1, x_79_2_1_d2, x_79_2_1_d3, x_79_2_1_d4, x_10_2_I, x_10_2_A, x_10_2_U, x_60, cb_ri, cb_rl, cb_rv, cb_th, cb_ite, ps_s, ps_n, u_14_0, u_14_10, u_14_48, u_14_63, x1, Int.reduceEq, Int.reduceLT, Int.reduceLE, reduceIte, Int.reduceAdd, Int.reduceSub, Int.reduceMul, Int.reduceNeg, Int.reduceToNat, Bool.false_eq_true, eq_self, if_pos, if_neg]
    exact seqO_l lv D X cs B hX hN (e + 1 - q) a q 0 l1.2.2 (by omega) (by omega) (by omega)
