theorem run_stop (P : Int → Bool) (t : Nat → Int) : ∀ d p, runD P t d p = p + d ∨ ¬ P (t (runD P t d p)) = true := by
  intro d
  induction d with
  | zero => intro p; left; rfl
  | succ d ih =>
    intro p
    by_cases h : P (t p) = true
    · have e1 : runD P t (d + 1) p = runD P t d (p + 1) := by
        show (if P (t p) = true then _ else _) = _
        rw [if_pos h]
      rw [e1]
      rcases ih (p + 1) with z | z
      · left; omega
      · right; exact z
    · have e1 : runD P t (d + 1) p = p := by
        show (if P (t p) = true then _ else _) = _
        rw [if_neg h]
      rw [e1]; right; exact h
theorem dE_stop (t : Nat → Int) {e p : Nat} (hp : p ≤ e) : dE t e p = e ∨ ¬ isD (t (dE t e p)) = true := by
  rcases run_stop isD t (e - p) p with z | z
  · left; unfold dE; omega
  · right; exact z
theorem figs_m (lv : Nat) {h : Hp} {t : Nat → Int} {e a : Nat} (lo hi : Int) (T : TX h t e) (ha : a ≤ e) (hf : h 198 0 0 = -1) : if (sk t e a < dE t e (sk t e a) ∧ dE t e (sk t e a) ≤ sk t e a + 3) ∧ lo ≤ nv t (sk t e a) (dE t e (sk t e a) - sk t e a) ∧ nv t (sk t e a) (dE t e (sk t e a) - sk t e a) ≤ hi then cl (lv + 4) 191 [aA 12 0, aI lo, aI hi] (RD h a) = ri (nv t (sk t e a) (dE t e (sk t e a) - sk t e a)) (RD h (dE t e (sk t e a))) else ∃ x z, (0 ≤ z ∧ z ≤ (e : Int)) ∧ cl (lv + 4) 191 [aA 12 0, aI lo, aI hi] (RD h a) = ri x (hset (RZ h z) 198 0 0 ((sk t e a : Nat) : Int)) := by
  have te := T.1
  have hr := here_m lv T ha
  have hb := sk_b t ha
  generalize sk t e a = p at hr hb
  have hE := dE_b t hb.2
  have hst := dE_stop t hb.2
  have hal := dE_all t e _ p rfl hb.2
  generalize dE t e p = E at hE hst hal
  have hF : ∀ j, RD h j 198 0 0 = -1 := fun j => by rw [RD_o (by omega)]; exact hf
  obtain ⟨m, hm⟩ : ∃ m, m = min E (p + 4) := ⟨_, rfl⟩
  have nb : ∀ j, p ≤ j → j ≤ m → j ≤ p + 3 → 0 ≤ nv t p (j - p) ∧ nv t p (j - p) ≤ 999 := by
    intro j h1 h2 h3
    have := nv_b (t := t) (p := p) (j - p) (fun i hi => hal (p + i) (by omega) (by omega))
    exact ⟨this.1, this.2.2.2 (by omega)⟩
  have key : ∀ d j, m - j = d → p ≤ j → j ≤ m → run (lv + 3) 191 18 [aA 12 0, aI lo, aI hi, aI (p : Int), aI (nv t p (j - p))] [] (RD h j) = run (lv + 3) 191 89 [aA 12 0, aI lo, aI hi, aI (p : Int), aI (nv t p (m - p))] [] (RD h m) := by
    intro d
    induction d with
    | zero =>
      intro j h1 h2 h3
      have e0 : j = m := by omega
      subst e0
      have e1 := RD_a h j
      have e2 := (RD_TX T j).2.1
      rw [hd_191_18]
      by_cases c1 : j < e
      · have l := letter_m (lv + 2) (i := j) (RD_TX T j) (by omega)
        by_cases c2 : 48 ≤ t j ∧ t j ≤ 57
        · have c3 : ¬ j = E := by
            intro z
            rcases hst with y | y
            · omega
            · rw [← z] at y
              exact y (by unfold isD; exact decide_eq_true c2)
          simp (disch := omega) only [x_6_0, x_33, x_1, x_62, x_82, x_79_1_12_d0, x_79_1_12_d1, x_79_1_12_d2, x_79_1_12_d3, x_79_1_12_d4, x_7_3_I, x_7_3_A, x_7_3_U, x_7_4_I, x_7_4_A, x_7_4_U, x_61, x_65, x_79_2_12_d0, x_79_2_12_d1, x_79_2_12_d2, x_79_2_12_d3, x_79_2_12_d4, x_80_3_d0, x_80_3_d1, x_80_3_d2, x_80_3_d3, x_80_3_d4, x_68, x_4_3, x_12, x_66, x_4_4, x_13, x_11, x_47_I, x_47_A, x_36, x_60, x_4_1, x_64, x_4_2, x_67, cb_ri, cb_rl, cb_rv, cb_th, cb_ite, ps_s, ps_n, u_191_0, u_191_10, u_191_119, u_191_124, e1, e2, l, isIn_c, w32_id, Int.reduceEq, Int.reduceLT, Int.reduceLE, reduceIte, Int.reduceAdd, Int.reduceSub, Int.reduceMul, Int.reduceNeg, Int.reduceToNat, Bool.false_eq_true, eq_self, if_pos, if_neg]
        · simp (disch := omega) only [x_6_0, x_33, x_1, x_62, x_82, x_79_1_12_d0, x_79_1_12_d1, x_79_1_12_d2, x_79_1_12_d3, x_79_1_12_d4, x_7_3_I, x_7_3_A, x_7_3_U, x_7_4_I, x_7_4_A, x_7_4_U, x_61, x_65, x_79_2_12_d0, x_79_2_12_d1, x_79_2_12_d2, x_79_2_12_d3, x_79_2_12_d4, x_80_3_d0, x_80_3_d1, x_80_3_d2, x_80_3_d3, x_80_3_d4, x_68, x_4_3, x_12, x_66, x_4_4, x_13, x_11, x_47_I, x_47_A, x_36, x_60, x_4_1, x_64, x_4_2, x_67, cb_ri, cb_rl, cb_rv, cb_th, cb_ite, ps_s, ps_n, u_191_0, u_191_10, u_191_119, u_191_124, e1, e2, l, isIn_c, c2, Int.reduceEq, Int.reduceLT, Int.reduceLE, reduceIte, Int.reduceAdd, Int.reduceSub, Int.reduceMul, Int.reduceNeg, Int.reduceToNat, Bool.false_eq_true, eq_self, if_pos, if_neg]
      · simp (disch := omega) only [x_6_0, x_33, x_1, x_62, x_82, x_79_1_12_d0, x_79_1_12_d1, x_79_1_12_d2, x_79_1_12_d3, x_79_1_12_d4, x_7_3_I, x_7_3_A, x_7_3_U, x_7_4_I, x_7_4_A, x_7_4_U, x_61, x_65, x_79_2_12_d0, x_79_2_12_d1, x_79_2_12_d2, x_79_2_12_d3, x_79_2_12_d4, x_80_3_d0, x_80_3_d1, x_80_3_d2, x_80_3_d3, x_80_3_d4, x_68, x_4_3, x_12, x_66, x_4_4, x_13, x_11, x_47_I, x_47_A, x_36, x_60, x_4_1, x_64, x_4_2, x_67, cb_ri, cb_rl, cb_rv, cb_th, cb_ite, ps_s, ps_n, u_191_0, u_191_10, u_191_119, u_191_124, e1, e2, Int.reduceEq, Int.reduceLT, Int.reduceLE, reduceIte, Int.reduceAdd, Int.reduceSub, Int.reduceMul, Int.reduceNeg, Int.reduceToNat, Bool.false_eq_true, eq_self, if_pos, if_neg]
    | succ d ih =>
      intro j h1 h2 h3
      have e1 := RD_a h j
      have e2 := (RD_TX T j).2.1
      have l := letter_m (lv + 2) (i := j) (RD_TX T j) (by omega)
      have c2 := isD_t (hal j h2 (by omega))
      have st := RD_RD h j (j + 1)
      have nb1 := nb j h2 h3 (by omega)
      have nv1 : nv t p (j + 1 - p) = 10 * nv t p (j - p) + t j - 48 := by
        rw [show j + 1 - p = (j - p) + 1 by omega]
        show 10 * nv t p (j - p) + t (p + (j - p)) - 48 = _
        rw [show p + (j - p) = j by omega]
      rw [← ih (j + 1) (by omega) (by omega) (by omega), ← st, nv1, hd_191_18]
      generalize nv t p (j - p) = x at nb1
      generalize t j = y at l c2
      simp (disch := omega) only [x_6_0, x_33, x_1, x_62, x_82, x_79_1_12_d0, x_79_1_12_d1, x_79_1_12_d2, x_79_1_12_d3, x_79_1_12_d4, x_7_3_I, x_7_3_A, x_7_3_U, x_7_4_I, x_7_4_A, x_7_4_U, x_61, x_65, x_79_2_12_d0, x_79_2_12_d1, x_79_2_12_d2, x_79_2_12_d3, x_79_2_12_d4, x_80_3_d0, x_80_3_d1, x_80_3_d2, x_80_3_d3, x_80_3_d4, x_68, x_4_3, x_12, x_66, x_4_4, x_13, x_11, x_47_I, x_47_A, x_36, x_60, x_4_1, x_64, x_4_2, x_67, cb_ri, cb_rl, cb_rv, cb_th, cb_ite, ps_s, ps_n, u_191_0, u_191_10, u_191_119, u_191_124, e1, e2, l, isIn_c, w32_id, Int.reduceEq, Int.reduceLT, Int.reduceLE, reduceIte, Int.reduceAdd, Int.reduceSub, Int.reduceMul, Int.reduceNeg, Int.reduceToNat, Bool.false_eq_true, eq_self, if_pos, if_neg, ci]
  have k1 := key _ p rfl (by omega) (by omega)
  have st : cl (lv + 4) 191 [aA 12 0, aI lo, aI hi] (RD h a) = run (lv + 3) 191 89 [aA 12 0, aI lo, aI hi, aI (p : Int), aI (nv t p (m - p))] [] (RD h m) := by
    rw [← k1, Nat.sub_self, in_191]
    have := hF a
    simp (disch := omega) only [x_6_0, x_33, x_1, x_62, x_82, x_79_1_12_d0, x_79_1_12_d1, x_79_1_12_d2, x_79_1_12_d3, x_79_1_12_d4, x_7_3_I, x_7_3_A, x_7_3_U, x_7_4_I, x_7_4_A, x_7_4_U, x_61, x_65, x_79_2_12_d0, x_79_2_12_d1, x_79_2_12_d2, x_79_2_12_d3, x_79_2_12_d4, x_80_3_d0, x_80_3_d1, x_80_3_d2, x_80_3_d3, x_80_3_d4, x_68, x_4_3, x_12, x_66, x_4_4, x_13, x_11, x_47_I, x_47_A, x_36, x_60, x_4_1, x_64, x_4_2, x_67, cb_ri, cb_rl, cb_rv, cb_th, cb_ite, ps_s, ps_n, u_191_0, u_191_10, u_191_119, u_191_124, this, hr, Int.reduceEq, Int.reduceLT, Int.reduceLE, reduceIte, Int.reduceAdd, Int.reduceSub, Int.reduceMul, Int.reduceNeg, Int.reduceToNat, Bool.false_eq_true, eq_self, if_pos, if_neg]
    rfl
  rw [st]
  have e1 := RD_a h m
  have wr := wrong_m (lv + 2) (RD h m) (p : Int) (hF m)
  by_cases c : (p < E ∧ E ≤ p + 3) ∧ lo ≤ nv t p (E - p) ∧ nv t p (E - p) ≤ hi
  · rw [if_pos c]
    have em : m = E := by omega
    subst em
    simp (disch := omega) only [x_6_0, x_33, x_1, x_62, x_82, x_79_1_12_d0, x_79_1_12_d1, x_79_1_12_d2, x_79_1_12_d3, x_79_1_12_d4, x_7_3_I, x_7_3_A, x_7_3_U, x_7_4_I, x_7_4_A, x_7_4_U, x_61, x_65, x_79_2_12_d0, x_79_2_12_d1, x_79_2_12_d2, x_79_2_12_d3, x_79_2_12_d4, x_80_3_d0, x_80_3_d1, x_80_3_d2, x_80_3_d3, x_80_3_d4, x_68, x_4_3, x_12, x_66, x_4_4, x_13, x_11, x_47_I, x_47_A, x_36, x_60, x_4_1, x_64, x_4_2, x_67, cb_ri, cb_rl, cb_rv, cb_th, cb_ite, ps_s, ps_n, u_191_0, u_191_10, u_191_89, u_191_119, u_191_124, e1, w32_id, Int.reduceEq, Int.reduceLT, Int.reduceLE, reduceIte, Int.reduceAdd, Int.reduceSub, Int.reduceMul, Int.reduceNeg, Int.reduceToNat, Bool.false_eq_true, eq_self, if_pos, if_neg]
  · rw [if_neg c]
    refine ⟨nv t p (m - p), (m : Int), by omega, ?_⟩
    show _ = ri _ (hset (RD h m) 198 0 0 _)
    by_cases c1 : m = p
    · have c1' : (m : Int) = (p : Int) := by omega
      simp (disch := omega) only [x_6_0, x_33, x_1, x_62, x_82, x_79_1_12_d0, x_79_1_12_d1, x_79_1_12_d2, x_79_1_12_d3, x_79_1_12_d4, x_7_3_I, x_7_3_A, x_7_3_U, x_7_4_I, x_7_4_A, x_7_4_U, x_61, x_65, x_79_2_12_d0, x_79_2_12_d1, x_79_2_12_d2, x_79_2_12_d3, x_79_2_12_d4, x_80_3_d0, x_80_3_d1, x_80_3_d2, x_80_3_d3, x_80_3_d4, x_68, x_4_3, x_12, x_66, x_4_4, x_13, x_11, x_47_I, x_47_A, x_36, x_60, x_4_1, x_64, x_4_2, x_67, cb_ri, cb_rl, cb_rv, cb_th, cb_ite, ps_s, ps_n, u_191_0, u_191_10, u_191_89, u_191_119, u_191_124, e1, c1', wr, w32_id, Int.reduceEq, Int.reduceLT, Int.reduceLE, reduceIte, Int.reduceAdd, Int.reduceSub, Int.reduceMul, Int.reduceNeg, Int.reduceToNat, Bool.false_eq_true, eq_self, if_pos, if_neg]
    by_cases c2 : m ≤ p + 3
    · have em : m = E := by omega
      subst em
      by_cases c3 : nv t p (m - p) < lo
      · simp (disch := omega) only [x_6_0, x_33, x_1, x_62, x_82, x_79_1_12_d0, x_79_1_12_d1, x_79_1_12_d2, x_79_1_12_d3, x_79_1_12_d4, x_7_3_I, x_7_3_A, x_7_3_U, x_7_4_I, x_7_4_A, x_7_4_U, x_61, x_65, x_79_2_12_d0, x_79_2_12_d1, x_79_2_12_d2, x_79_2_12_d3, x_79_2_12_d4, x_80_3_d0, x_80_3_d1, x_80_3_d2, x_80_3_d3, x_80_3_d4, x_68, x_4_3, x_12, x_66, x_4_4, x_13, x_11, x_47_I, x_47_A, x_36, x_60, x_4_1, x_64, x_4_2, x_67, cb_ri, cb_rl, cb_rv, cb_th, cb_ite, ps_s, ps_n, u_191_0, u_191_10, u_191_89, u_191_119, u_191_124, e1, wr, w32_id, Int.reduceEq, Int.reduceLT, Int.reduceLE, reduceIte, Int.reduceAdd, Int.reduceSub, Int.reduceMul, Int.reduceNeg, Int.reduceToNat, Bool.false_eq_true, eq_self, if_pos, if_neg]
      · simp (disch := omega) only [x_6_0, x_33, x_1, x_62, x_82, x_79_1_12_d0, x_79_1_12_d1, x_79_1_12_d2, x_79_1_12_d3, x_79_1_12_d4, x_7_3_I, x_7_3_A, x_7_3_U, x_7_4_I, x_7_4_A, x_7_4_U, x_61, x_65, x_79_2_12_d0, x_79_2_12_d1, x_79_2_12_d2, x_79_2_12_d3, x_79_2_12_d4, x_80_3_d0, x_80_3_d1, x_80_3_d2, x_80_3_d3, x_80_3_d4, x_68, x_4_3, x_12, x_66, x_4_4, x_13, x_11, x_47_I, x_47_A, x_36, x_60, x_4_1, x_64, x_4_2, x_67, cb_ri, cb_rl, cb_rv, cb_th, cb_ite, ps_s, ps_n, u_191_0, u_191_10, u_191_89, u_191_119, u_191_124, e1, wr, w32_id, Int.reduceEq, Int.reduceLT, Int.reduceLE, reduceIte, Int.reduceAdd, Int.reduceSub, Int.reduceMul, Int.reduceNeg, Int.reduceToNat, Bool.false_eq_true, eq_self, if_pos, if_neg]
    · simp (disch := omega) only [x_6_0, x_33, x_1, x_62, x_82, x_79_1_12_d0, x_79_1_12_d1, x_79_1_12_d2, x_79_1_12_d3, x_79_1_12_d4, x_7_3_I, x_7_3_A, x_7_3_U, x_7_4_I, x_7_4_A, x_7_4_U, x_61, x_65, x_79_2_12_d0, x_79_2_12_d1, x_79_2_12_d2, x_79_2_12_d3, x_79_2_12_d4, x_80_3_d0, x_80_3_d1, x_80_3_d2, x_80_3_d3, x_80_3_d4, x_68, x_4_3, x_12, x_66, x_4_4, x_13, x_11, x_47_I, x_47_A, x_36, x_60, x_4_1, x_64, x_4_2, x_67, cb_ri, cb_rl, cb_rv, cb_th, cb_ite, ps_s, ps_n, u_191_0, u_191_10, u_191_89, u_191_119, u_191_124, e1, wr, w32_id, Int.reduceEq, Int.reduceLT, Int.reduceLE, reduceIte, Int.reduceAdd, Int.reduceSub, Int.reduceMul, Int.reduceNeg, Int.reduceToNat, Bool.false_eq_true, eq_self, if_pos, if_neg]
