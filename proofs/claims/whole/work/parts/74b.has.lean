theorem has_m (lv : Nat) {h : Hp} {t : Nat → Int} {e a : Nat} (s : Nat) (w : List Int) (T : TX h t e) (ha : a ≤ e) (hw : sTxt.getD s [] = w) (hs : s < 46) (hl : 1 ≤ w.length ∧ w.length ≤ 20) : cl (lv + 5) 188 [aA 12 0, aA 20 s] (RD h a) = if isW t e (sk t e a) w = true then ri 1 (RD h (wE t e (sk t e a))) else ri 0 (RD h (sk t e a)) := by
  have te := T.1
  have sm := skip_m (lv + 2) T ha
  have hb := sk_b t ha
  generalize sk t e a = p at sm hb
  have e1 := RD_a h p
  have e2 := (RD_TX T p).2.1
  have hlen : sLen s = ((w.length : Nat) : Int) := by rw [← hw]; rfl
  have key : ∀ d j, e - j = d → j ≤ e → run (lv + 4) 188 9 [aA 12 0, aA 20 s, aI (j : Int), none] [] (RD h p) = run (lv + 4) 188 38 [aA 12 0, aA 20 s, aI ((wE t e j : Nat) : Int), none] [] (RD h p) := by
    intro d
    induction d with
    | zero =>
      intro j h1 h2
      have e0 : j = e := by omega
      subst e0
      have e3 : wE t j j = j := runE _ _ _
      rw [e3, hd_188_9]
      simp (disch := omega) only [x_6_0, x_79_1_12_d0, x_79_1_12_d1, x_79_1_12_d2, x_79_1_12_d3, x_79_1_12_d4, x_33, x_7_2_I, x_7_2_A, x_7_2_U, x_61, x_4_2, x_65, x_79_2_12_d0, x_79_2_12_d1, x_79_2_12_d2, x_79_2_12_d3, x_79_2_12_d4, x_1, x_80_3_d0, x_80_3_d1, x_80_3_d2, x_80_3_d3, x_80_3_d4, x_68, x_10_2_I, x_10_2_A, x_10_2_U, x_60, x_12, x_6_1, x_79_1_20_d0, x_79_1_20_d1, x_79_1_20_d2, x_79_1_20_d3, x_79_1_20_d4, x_62, x_85, x_7_3_I, x_7_3_A, x_7_3_U, x_4_3, x_11, x_79_2_20_d0, x_79_2_20_d1, x_79_2_20_d2, x_79_2_20_d3, x_79_2_20_d4, x_10_3_I, x_10_3_A, x_10_3_U, x_36, cb_ri, cb_rl, cb_rv, cb_th, cb_ite, ps_s, ps_n, u_188_0, u_188_53, u_188_83, u_188_89, e2, Int.reduceEq, Int.reduceLT, Int.reduceLE, reduceIte, Int.reduceAdd, Int.reduceSub, Int.reduceMul, Int.reduceNeg, Int.reduceToNat, Bool.false_eq_true, eq_self, if_pos, if_neg]
    | succ d ih =>
      intro j h1 h2
      have l := letter_m (lv + 3) (i := j) (RD_TX T p) (by omega)
      rw [hd_188_9]
      by_cases c : isL (t j) = true
      · have e3 : wE t e j = wE t e (j + 1) := run_y _ _ (by omega) c
        have c' : 97 ≤ t j ∧ t j ≤ 122 := by unfold isL at c; exact of_decide_eq_true c
        rw [e3, ← ih (j + 1) (by omega) (by omega)]
        simp (disch := omega) only [x_6_0, x_79_1_12_d0, x_79_1_12_d1, x_79_1_12_d2, x_79_1_12_d3, x_79_1_12_d4, x_33, x_7_2_I, x_7_2_A, x_7_2_U, x_61, x_4_2, x_65, x_79_2_12_d0, x_79_2_12_d1, x_79_2_12_d2, x_79_2_12_d3, x_79_2_12_d4, x_1, x_80_3_d0, x_80_3_d1, x_80_3_d2, x_80_3_d3, x_80_3_d4, x_68, x_10_2_I, x_10_2_A, x_10_2_U, x_60, x_12, x_6_1, x_79_1_20_d0, x_79_1_20_d1, x_79_1_20_d2, x_79_1_20_d3, x_79_1_20_d4, x_62, x_85, x_7_3_I, x_7_3_A, x_7_3_U, x_4_3, x_11, x_79_2_20_d0, x_79_2_20_d1, x_79_2_20_d2, x_79_2_20_d3, x_79_2_20_d4, x_10_3_I, x_10_3_A, x_10_3_U, x_36, cb_ri, cb_rl, cb_rv, cb_th, cb_ite, ps_s, ps_n, u_188_0, u_188_53, u_188_83, u_188_89, e2, l, isIn_c, w32_id, Int.reduceEq, Int.reduceLT, Int.reduceLE, reduceIte, Int.reduceAdd, Int.reduceSub, Int.reduceMul, Int.reduceNeg, Int.reduceToNat, Bool.false_eq_true, eq_self, if_pos, if_neg, ci]
      · have e3 : wE t e j = j := run_n _ _ c
        have c' : ¬ (97 ≤ t j ∧ t j ≤ 122) := by unfold isL at c; exact fun z => c (decide_eq_true z)
        rw [e3]
        simp (disch := omega) only [x_6_0, x_79_1_12_d0, x_79_1_12_d1, x_79_1_12_d2, x_79_1_12_d3, x_79_1_12_d4, x_33, x_7_2_I, x_7_2_A, x_7_2_U, x_61, x_4_2, x_65, x_79_2_12_d0, x_79_2_12_d1, x_79_2_12_d2, x_79_2_12_d3, x_79_2_12_d4, x_1, x_80_3_d0, x_80_3_d1, x_80_3_d2, x_80_3_d3, x_80_3_d4, x_68, x_10_2_I, x_10_2_A, x_10_2_U, x_60, x_12, x_6_1, x_79_1_20_d0, x_79_1_20_d1, x_79_1_20_d2, x_79_1_20_d3, x_79_1_20_d4, x_62, x_85, x_7_3_I, x_7_3_A, x_7_3_U, x_4_3, x_11, x_79_2_20_d0, x_79_2_20_d1, x_79_2_20_d2, x_79_2_20_d3, x_79_2_20_d4, x_10_3_I, x_10_3_A, x_10_3_U, x_36, cb_ri, cb_rl, cb_rv, cb_th, cb_ite, ps_s, ps_n, u_188_0, u_188_53, u_188_83, u_188_89, e2, l, isIn_c, Int.reduceEq, Int.reduceLT, Int.reduceLE, reduceIte, Int.reduceAdd, Int.reduceSub, Int.reduceMul, Int.reduceNeg, Int.reduceToNat, Bool.false_eq_true, eq_self, if_pos, if_neg]
  have k1 := key _ p rfl hb.2
  have hwb := wE_b t hb.2
  have st : cl (lv + 5) 188 [aA 12 0, aA 20 s] (RD h a) = run (lv + 4) 188 38 [aA 12 0, aA 20 s, aI ((wE t e p : Nat) : Int), none] [] (RD h p) := by
    rw [← k1, in_188]
    simp (disch := omega) only [x_6_0, x_79_1_12_d0, x_79_1_12_d1, x_79_1_12_d2, x_79_1_12_d3, x_79_1_12_d4, x_33, x_7_2_I, x_7_2_A, x_7_2_U, x_61, x_4_2, x_65, x_79_2_12_d0, x_79_2_12_d1, x_79_2_12_d2, x_79_2_12_d3, x_79_2_12_d4, x_1, x_80_3_d0, x_80_3_d1, x_80_3_d2, x_80_3_d3, x_80_3_d4, x_68, x_10_2_I, x_10_2_A, x_10_2_U, x_60, x_12, x_6_1, x_79_1_20_d0, x_79_1_20_d1, x_79_1_20_d2, x_79_1_20_d3, x_79_1_20_d4, x_62, x_85, x_7_3_I, x_7_3_A, x_7_3_U, x_4_3, x_11, x_79_2_20_d0, x_79_2_20_d1, x_79_2_20_d2, x_79_2_20_d3, x_79_2_20_d4, x_10_3_I, x_10_3_A, x_10_3_U, x_36, cb_ri, cb_rl, cb_rv, cb_th, cb_ite, ps_s, ps_n, u_188_0, u_188_53, u_188_83, u_188_89, sm, e1, Int.reduceEq, Int.reduceLT, Int.reduceLE, reduceIte, Int.reduceAdd, Int.reduceSub, Int.reduceMul, Int.reduceNeg, Int.reduceToNat, Bool.false_eq_true, eq_self, if_pos, if_neg]
  rw [st]
  unfold isW
  by_cases h4 : wE t e p = p + w.length
  · have e5 : decide (wE t e p = p + w.length) = true := decide_eq_true h4
    have fin := RD_RD h p (wE t e p)
    have main := loop_any (F := fun i => run (lv + 4) 188 55 [aA 12 0, aA 20 s, aI ((wE t e p : Nat) : Int), aI (i : Int)] [] (RD h p)) (N := w.length) (P := fun i => !(decide (t (p + i) = w.getD i 0))) (r1 := ri 0 (RD h p)) (r0 := ri 1 (RD h (wE t e p))) ?_ ?_
    · have st2 : run (lv + 4) 188 38 [aA 12 0, aA 20 s, aI ((wE t e p : Nat) : Int), none] [] (RD h p) = run (lv + 4) 188 55 [aA 12 0, aA 20 s, aI ((wE t e p : Nat) : Int), aI ((0 : Nat) : Int)] [] (RD h p) := by
        simp (disch := omega) only [x_6_0, x_79_1_12_d0, x_79_1_12_d1, x_79_1_12_d2, x_79_1_12_d3, x_79_1_12_d4, x_33, x_7_2_I, x_7_2_A, x_7_2_U, x_61, x_4_2, x_65, x_79_2_12_d0, x_79_2_12_d1, x_79_2_12_d2, x_79_2_12_d3, x_79_2_12_d4, x_1, x_80_3_d0, x_80_3_d1, x_80_3_d2, x_80_3_d3, x_80_3_d4, x_68, x_10_2_I, x_10_2_A, x_10_2_U, x_60, x_12, x_6_1, x_79_1_20_d0, x_79_1_20_d1, x_79_1_20_d2, x_79_1_20_d3, x_79_1_20_d4, x_62, x_85, x_7_3_I, x_7_3_A, x_7_3_U, x_4_3, x_11, x_79_2_20_d0, x_79_2_20_d1, x_79_2_20_d2, x_79_2_20_d3, x_79_2_20_d4, x_10_3_I, x_10_3_A, x_10_3_U, x_36, cb_ri, cb_rl, cb_rv, cb_th, cb_ite, ps_s, ps_n, u_188_0, u_188_38, u_188_53, u_188_83, u_188_89, e1, strLen_c, hlen, w32_id, Int.reduceEq, Int.reduceLT, Int.reduceLE, reduceIte, Int.reduceAdd, Int.reduceSub, Int.reduceMul, Int.reduceNeg, Int.reduceToNat, Bool.false_eq_true, eq_self, if_pos, if_neg]
        rfl
      rw [st2]
      refine Eq.trans main ?_
      have e6 : (decide (wE t e p = p + w.length) && allB (fun i => decide (t (p + i) = w.getD i 0)) w.length) = !(anyB (fun i => !(decide (t (p + i) = w.getD i 0))) w.length) := by
        rw [e5, Bool.true_and]
        clear main hlen hl h4 e5
        generalize w.length = L
        induction L with
        | zero => rfl
        | succ L ih => simp only [allB, anyB, ih, Bool.not_or, Bool.not_not]
      rw [e6]
      generalize anyB (fun i => !(decide (t (p + i) = w.getD i 0))) w.length = bb
      cases bb <;> rfl
    · intro i hi
      have e3 := charAt_c lv s (i : Int) (RD h p) hs (by omega) (by rw [hlen]; omega)
      have e4 : sChr s (i : Int).toNat = w.getD i 0 := by rw [tn, ← hw]; rfl
      rw [e4] at e3
      have l := letter_m (lv + 3) (i := p + i) (RD_TX T p) (by omega)
      show run _ _ _ _ _ _ = if _ then _ else run _ _ _ _ _ _
      rw [hd_188_55]
      have cc : ((p : Int) + (i : Int)) = ((p + i : Nat) : Int) := by omega
      by_cases h6 : t (p + i) = w.getD i 0
      · rw [h6] at l
        simp (disch := omega) only [x_6_0, x_79_1_12_d0, x_79_1_12_d1, x_79_1_12_d2, x_79_1_12_d3, x_79_1_12_d4, x_33, x_7_2_I, x_7_2_A, x_7_2_U, x_61, x_4_2, x_65, x_79_2_12_d0, x_79_2_12_d1, x_79_2_12_d2, x_79_2_12_d3, x_79_2_12_d4, x_1, x_80_3_d0, x_80_3_d1, x_80_3_d2, x_80_3_d3, x_80_3_d4, x_68, x_10_2_I, x_10_2_A, x_10_2_U, x_60, x_12, x_6_1, x_79_1_20_d0, x_79_1_20_d1, x_79_1_20_d2, x_79_1_20_d3, x_79_1_20_d4, x_62, x_85, x_7_3_I, x_7_3_A, x_7_3_U, x_4_3, x_11, x_79_2_20_d0, x_79_2_20_d1, x_79_2_20_d2, x_79_2_20_d3, x_79_2_20_d4, x_10_3_I, x_10_3_A, x_10_3_U, x_36, cb_ri, cb_rl, cb_rv, cb_th, cb_ite, ps_s, ps_n, u_188_0, u_188_38, u_188_53, u_188_83, u_188_89, strLen_c, hlen, e1, cc, l, e3, h6, w32_id, decide_true, Bool.not_true, Int.reduceEq, Int.reduceLT, Int.reduceLE, reduceIte, Int.reduceAdd, Int.reduceSub, Int.reduceMul, Int.reduceNeg, Int.reduceToNat, Bool.false_eq_true, eq_self, if_pos, if_neg, ci]
      · simp (disch := omega) only [x_6_0, x_79_1_12_d0, x_79_1_12_d1, x_79_1_12_d2, x_79_1_12_d3, x_79_1_12_d4, x_33, x_7_2_I, x_7_2_A, x_7_2_U, x_61, x_4_2, x_65, x_79_2_12_d0, x_79_2_12_d1, x_79_2_12_d2, x_79_2_12_d3, x_79_2_12_d4, x_1, x_80_3_d0, x_80_3_d1, x_80_3_d2, x_80_3_d3, x_80_3_d4, x_68, x_10_2_I, x_10_2_A, x_10_2_U, x_60, x_12, x_6_1, x_79_1_20_d0, x_79_1_20_d1, x_79_1_20_d2, x_79_1_20_d3, x_79_1_20_d4, x_62, x_85, x_7_3_I, x_7_3_A, x_7_3_U, x_4_3, x_11, x_79_2_20_d0, x_79_2_20_d1, x_79_2_20_d2, x_79_2_20_d3, x_79_2_20_d4, x_10_3_I, x_10_3_A, x_10_3_U, x_36, cb_ri, cb_rl, cb_rv, cb_th, cb_ite, ps_s, ps_n, u_188_0, u_188_38, u_188_53, u_188_83, u_188_89, strLen_c, hlen, e1, cc, l, e3, h6, w32_id, decide_false, Bool.not_false, Int.reduceEq, Int.reduceLT, Int.reduceLE, reduceIte, Int.reduceAdd, Int.reduceSub, Int.reduceMul, Int.reduceNeg, Int.reduceToNat, Bool.false_eq_true, eq_self, if_pos, if_neg, ci]
    · show run _ _ _ _ _ _ = _
      rw [hd_188_55, ← fin]
      simp (disch := omega) only [x_6_0, x_79_1_12_d0, x_79_1_12_d1, x_79_1_12_d2, x_79_1_12_d3, x_79_1_12_d4, x_33, x_7_2_I, x_7_2_A, x_7_2_U, x_61, x_4_2, x_65, x_79_2_12_d0, x_79_2_12_d1, x_79_2_12_d2, x_79_2_12_d3, x_79_2_12_d4, x_1, x_80_3_d0, x_80_3_d1, x_80_3_d2, x_80_3_d3, x_80_3_d4, x_68, x_10_2_I, x_10_2_A, x_10_2_U, x_60, x_12, x_6_1, x_79_1_20_d0, x_79_1_20_d1, x_79_1_20_d2, x_79_1_20_d3, x_79_1_20_d4, x_62, x_85, x_7_3_I, x_7_3_A, x_7_3_U, x_4_3, x_11, x_79_2_20_d0, x_79_2_20_d1, x_79_2_20_d2, x_79_2_20_d3, x_79_2_20_d4, x_10_3_I, x_10_3_A, x_10_3_U, x_36, cb_ri, cb_rl, cb_rv, cb_th, cb_ite, ps_s, ps_n, u_188_0, u_188_38, u_188_53, u_188_83, u_188_89, strLen_c, hlen, Int.reduceEq, Int.reduceLT, Int.reduceLE, reduceIte, Int.reduceAdd, Int.reduceSub, Int.reduceMul, Int.reduceNeg, Int.reduceToNat, Bool.false_eq_true, eq_self, if_pos, if_neg]
  · have e5 : decide (wE t e p = p + w.length) = false := decide_eq_false h4
    rw [e5, Bool.false_and]
    simp (disch := omega) only [x_6_0, x_79_1_12_d0, x_79_1_12_d1, x_79_1_12_d2, x_79_1_12_d3, x_79_1_12_d4, x_33, x_7_2_I, x_7_2_A, x_7_2_U, x_61, x_4_2, x_65, x_79_2_12_d0, x_79_2_12_d1, x_79_2_12_d2, x_79_2_12_d3, x_79_2_12_d4, x_1, x_80_3_d0, x_80_3_d1, x_80_3_d2, x_80_3_d3, x_80_3_d4, x_68, x_10_2_I, x_10_2_A, x_10_2_U, x_60, x_12, x_6_1, x_79_1_20_d0, x_79_1_20_d1, x_79_1_20_d2, x_79_1_20_d3, x_79_1_20_d4, x_62, x_85, x_7_3_I, x_7_3_A, x_7_3_U, x_4_3, x_11, x_79_2_20_d0, x_79_2_20_d1, x_79_2_20_d2, x_79_2_20_d3, x_79_2_20_d4, x_10_3_I, x_10_3_A, x_10_3_U, x_36, cb_ri, cb_rl, cb_rv, cb_th, cb_ite, ps_s, ps_n, u_188_0, u_188_38, u_188_53, u_188_83, u_188_89, e1, strLen_c, hlen, w32_id, Int.reduceEq, Int.reduceLT, Int.reduceLE, reduceIte, Int.reduceAdd, Int.reduceSub, Int.reduceMul, Int.reduceNeg, Int.reduceToNat, Bool.false_eq_true, eq_self, if_pos, if_neg]
theorem isW_sk {t : Nat → Int} {e p : Nat} {w : List Int} (hp : p ≤ e) (h : isW t e p w = true) (hw : 1 ≤ w.length) : sk t e (wE t e p) = nxt t e p ∧ wE t e p ≤ e := by
  have hlt := isW_lt hp h hw
  unfold isW at h
  simp only [Bool.and_eq_true, decide_eq_true_eq] at h
  have hL : isL (t p) = true := by
    by_cases z : isL (t p) = true
    · exact z
    · have e1 : wE t e p = p := run_n isL t (e := e) z
      omega
  have e1 : tE t e p = wE t e p := by unfold tE; rw [if_pos hlt, if_pos hL]
  unfold nxt
  rw [e1]
  exact ⟨rfl, (wE_b t hp).2⟩
