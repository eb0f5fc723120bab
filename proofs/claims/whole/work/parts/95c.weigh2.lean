/-! all rules -/
def clH (g : Hp) (i : Nat) : Hp := fun tt k j => if tt = 101 ∧ k = 0 ∧ j < i then 0 else g tt k j
theorem clH_0 (g : Hp) : clH g 0 = g := by funext tt k j; unfold clH; rw [if_neg (by omega)]
theorem clH_s (g : Hp) (i : Nat) : hset (clH g i) 101 0 i 0 = clH g (i + 1) := by
  funext tt k j
  by_cases c : tt = 101 ∧ k = 0 ∧ j = i
  · obtain ⟨rfl, rfl, rfl⟩ := c
    rw [hs_eq]; unfold clH; rw [if_pos (by omega)]
  · rw [hs_o c]
    unfold clH
    by_cases d : tt = 101 ∧ k = 0 ∧ j < i
    · rw [if_pos d, if_pos (by omega)]
    · rw [if_neg d, if_neg (by omega)]
def wgH (g : Hp) (M t : Nat → Int) (e N : Nat) : Nat → Hp
  | 0 => clH (hset (hset g 102 0 0 0) 103 0 0 (-1)) 14
  | q + 1 => if fqB M t e q = true then gaH (wgH g M t e N q) (hqB M q) N (wqF q) else wgH g M t e N q
theorem wgH_x {g : Hp} {M t : Nat → Int} {e N : Nat} (hN : N ≤ 14) : ∀ q, wgH g M t e N q 102 0 0 = ((cnt (fqB M t e) q : Nat) : Int) ∧ wgH g M t e N q 103 0 0 = nwF (fqB M t e) q ∧ (∀ n, n < N → wgH g M t e N q 101 0 n = ((cnt (fun p => fqB M t e p && hqB M p n) q : Nat) : Int)) ∧ ∀ tt k j, ¬ (k = 0 ∧ 101 ≤ tt ∧ tt ≤ 103) → wgH g M t e N q tt k j = g tt k j := by
  intro q
  induction q with
  | zero =>
    refine ⟨?_, ?_, fun n hn => ?_, fun tt k j hf => ?_⟩
    · show clH _ _ _ _ _ = _; unfold clH; rw [if_neg (by omega), hs_t (by omega), hs_eq]; rfl
    · show clH _ _ _ _ _ = _; unfold clH; rw [if_neg (by omega), hs_eq]; rfl
    · show clH _ _ _ _ _ = _; unfold clH; rw [if_pos (by omega)]; rfl
    · show clH _ _ _ _ _ = _; unfold clH; rw [if_neg (by omega), hs_o (by omega), hs_o (by omega)]
  | succ q ih =>
    obtain ⟨i1, i2, i3, i4⟩ := ih
    simp only [wgH, nwF]
    by_cases c : fqB M t e q = true
    · rw [if_pos c, if_pos c]
      unfold gaH
      refine ⟨?_, ?_, fun n hn => ?_, fun tt k j hf => ?_⟩
      · rw [guH_o _ _ _ (by omega), hs_t (by omega), hs_eq, i1]
        show _ = ((cnt (fqB M t e) q + (if fqB M t e q = true then 1 else 0) : Nat) : Int)
        rw [if_pos c]; omega
      · rw [guH_o _ _ _ (by omega), hs_eq, i2]
      · unfold guH
        rw [if_pos ⟨rfl, rfl, hn⟩, hs_t (by omega), hs_t (by omega), i3 n hn]
        show _ = ((cnt (fun p => fqB M t e p && hqB M p n) q + (if (fqB M t e q && hqB M q n) = true then 1 else 0) : Nat) : Int)
        rw [c, Bool.true_and]
        cases hqB M q n with
        | true => rw [if_pos rfl, show boI true = 1 from rfl]; omega
        | false => rw [if_neg (by decide), show boI false = 0 from rfl]; omega
      · unfold guH; rw [if_neg (by omega), hs_o (by omega), hs_o (by omega)]; exact i4 tt k j hf
    · rw [if_neg c, if_neg c]
      refine ⟨?_, i2, fun n hn => ?_, i4⟩
      · rw [i1]
        show _ = ((cnt (fqB M t e) q + (if fqB M t e q = true then 1 else 0) : Nat) : Int)
        rw [if_neg c]; rfl
      · rw [i3 n hn]
        show _ = ((cnt (fun p => fqB M t e p && hqB M p n) q + (if (fqB M t e q && hqB M q n) = true then 1 else 0) : Nat) : Int)
        rw [Bool.eq_false_iff.mpr c, Bool.false_and, if_neg (by decide)]; rfl
theorem wg_skip {g : Hp} {M t : Nat → Int} {e N q : Nat} : ∀ d, (∀ p, q ≤ p → p < q + d → fqB M t e p = false) → wgH g M t e N (q + d) = wgH g M t e N q := by
  intro d
  induction d with
  | zero => intro _; rfl
  | succ d ih =>
    intro h
    show (if fqB M t e (q + d) = true then _ else _) = _
    rw [h (q + d) (by omega) (by omega), if_neg (by decide)]
    exact ih (fun p h1 h2 => h p h1 (by omega))
theorem weighG_c (lv H N e : Nat) (M t : Nat → Int) (h : Hp) (R : RS h 0 M H N) (hk : ∀ i, i < N → 0 ≤ M (50 + 4 * i + 1) ∧ M (50 + 4 * i + 1) ≤ 63) (ht : ∀ j, j < 400 → h 148 0 j = t j) (h0 : ∀ j, j < 400 → 0 ≤ t j) (ok : rowsB t N e) : cl (lv + 3) 0 [aA 0 0, aA 7 0, aI (e : Int)] h = rv (wgH h M t e N 640) := by
  have hN := R.2.1.2.1
  rw [in_0]
  simp (disch := omega) only [x_6_0, x_1, x_36, x_7_3_I, x_7_3_A, x_7_3_U, x_61, x_4_3, x_65, x_34, x_39_101, x_10_3_I, x_10_3_A, x_10_3_U, x_60, x_7_4_I, x_7_4_A, x_7_4_U, x_4_4, x_7_5_I, x_7_5_A, x_7_5_U, x_4_5, x_66, x_6_1, x_4_2, x_79_6_0_d0, x_79_6_0_d1, x_79_6_0_d2, x_79_6_0_d3, x_79_6_0_d4, x_68, x_79_5_0_d0, x_79_5_0_d1, x_79_5_0_d2, x_79_5_0_d3, x_79_5_0_d4, x_10_5_I, x_10_5_A, x_10_5_U, x_10_4_I, x_10_4_A, x_10_4_U, x_83, cb_ri, cb_rl, cb_rv, cb_th, cb_ite, ps_s, ps_n, u_0_0, u_0_31, u_0_83, u_0_89, u_0_95, u_0_101]
  have first := loop_up (F := fun i => run (lv + 2) 0 12 [aA 0 0, aA 7 0, aI (e : Int), aI (i : Int), none, none] [] (clH (hset (hset h 102 0 0 0) 103 0 0 (-1)) i)) (N := 14) (r := run (lv + 2) 0 33 [aA 0 0, aA 7 0, aI (e : Int), aI 0, none, none] [] (wgH h M t e N 0)) ?_ ?_ 0 (by omega)
  · rw [clH_0] at first
    refine Eq.trans first ?_
    refine loop_g (F := fun lo (v : AV × AV) => run (lv + 2) 0 33 [aA 0 0, aA 7 0, aI (e : Int), aI (lo : Int), v.1, v.2] [] (wgH h M t e N (80 * lo))) (N := 8) ?_ ?_ (none, none)
    · intro lo v hlo
      have sk : wgH h M t e N (80 * lo + 10 * lo) = wgH h M t e N (80 * lo) := wg_skip (10 * lo) (fun p h1 h2 => by unfold fqB; rw [decide_eq_false (show ¬ p / 80 ≤ p / 10 % 8 by omega), Bool.false_and])
      have fin : ∀ n, n ≤ 8 - lo → ∀ v5 : AV, ∃ w5 : AV, run (lv + 2) 0 42 [aA 0 0, aA 7 0, aI (e : Int), aI (lo : Int), aI (lo : Int), v5] [] (wgH h M t e N (80 * lo + 10 * lo)) = run (lv + 2) 0 42 [aA 0 0, aA 7 0, aI (e : Int), aI (lo : Int), aI ((lo + n : Nat) : Int), w5] [] (wgH h M t e N (80 * lo + 10 * (lo + n))) := by
        intro n
        induction n with
        | zero => intro _ v5; exact ⟨v5, rfl⟩
        | succ n ih =>
          intro hn v5
          obtain ⟨w, ih⟩ := ih (by omega) v5
          refine ⟨aI ((10 : Nat) : Int), ih.trans ?_⟩
          show _ = run _ _ _ [_, _, _, _, aI ((lo + n + 1 : Nat) : Int), _] _ (wgH h M t e N (80 * lo + 10 * (lo + n + 1)))
          have hhi : lo + n < 8 := by omega
          generalize hh : lo + n = hi at *
          clear ih
          rw [hd_0_42]
          simp (disch := omega) only [x_6_0, x_1, x_36, x_7_3_I, x_7_3_A, x_7_3_U, x_61, x_4_3, x_65, x_34, x_39_101, x_10_3_I, x_10_3_A, x_10_3_U, x_60, x_7_4_I, x_7_4_A, x_7_4_U, x_4_4, x_7_5_I, x_7_5_A, x_7_5_U, x_4_5, x_66, x_6_1, x_4_2, x_79_6_0_d0, x_79_6_0_d1, x_79_6_0_d2, x_79_6_0_d3, x_79_6_0_d4, x_68, x_79_5_0_d0, x_79_5_0_d1, x_79_5_0_d2, x_79_5_0_d3, x_79_5_0_d4, x_10_5_I, x_10_5_A, x_10_5_U, x_10_4_I, x_10_4_A, x_10_4_U, x_83, cb_ri, cb_rl, cb_rv, cb_th, cb_ite, ps_s, ps_n, u_0_0, u_0_31, u_0_83, u_0_89, u_0_95, u_0_101, Int.reduceEq, Int.reduceLT, Int.reduceLE, reduceIte, Int.reduceAdd, Int.reduceSub, Int.reduceMul, Int.reduceNeg, Int.reduceToNat, Bool.false_eq_true, eq_self, if_pos, if_neg]
          refine loop_up (F := fun hd => run (lv + 2) 0 52 [aA 0 0, aA 7 0, aI (e : Int), aI (lo : Int), aI (hi : Int), aI (hd : Int)] [] (wgH h M t e N (80 * lo + 10 * hi + hd))) (N := 10) ?_ ?_ 0 (by omega)
          · intro hd hhd
            obtain ⟨x1, x2, x3, x4⟩ := wgH_x (g := h) (M := M) (t := t) (e := e) hN (80 * lo + 10 * hi + hd)
            have R2 : RS (wgH h M t e N (80 * lo + 10 * hi + hd)) 0 M H N := RS_e (fun tt i htt => x4 tt 0 i (by unfold stTag at htt; omega)) R
            have fc := fits_c lv N e lo hi hd M t (wgH h M t e N (80 * lo + 10 * hi + hd)) R2.2.1 hk (fun j hj => by rw [x4 148 0 j (by omega)]; exact ht j hj) h0 ok
            have ac := letin_c lv H N lo hi hd M (wgH h M t e N (80 * lo + 10 * hi + hd)) R2 hk (by have := cnt_le (fqB M t e) (80 * lo + 10 * hi + hd); omega) (fun n hn => by have := cnt_le (fun p => fqB M t e p && hqB M p n) (80 * lo + 10 * hi + hd); have := x3 n hn; omega) hlo hhi
            have q1 : (80 * lo + 10 * hi + hd) / 80 = lo := by omega
            have q2 : (80 * lo + 10 * hi + hd) / 10 % 8 = hi := by omega
            have q3 : (80 * lo + 10 * hi + hd) % 10 = hd := by omega
            have ef : fqB M t e (80 * lo + 10 * hi + hd) = allB (mtP M t lo hi hd) (e / 2) := by unfold fqB; rw [q1, q2, q3, decide_eq_true (by omega), Bool.true_and]
            have eh : hqB M (80 * lo + 10 * hi + hd) = hsB M lo hi hd := by funext n; unfold hqB; rw [q1, q2, q3]
            have ew : wqF (80 * lo + 10 * hi + hd) = (hi : Int) - (lo : Int) + 1 := by unfold wqF; rw [q1, q2]
            show run _ _ _ _ _ _ = run _ _ _ _ _ (if fqB M t e (80 * lo + 10 * hi + hd) = true then gaH (wgH h M t e N (80 * lo + 10 * hi + hd)) (hqB M (80 * lo + 10 * hi + hd)) N (wqF (80 * lo + 10 * hi + hd)) else wgH h M t e N (80 * lo + 10 * hi + hd))
            rw [ef, eh, ew, hd_0_52]
            have ez : boI true = 1 := rfl
            have ef0 : boI false = 0 := rfl
            generalize wgH h M t e N (80 * lo + 10 * hi + hd) = y at *
            cases hb : allB (mtP M t lo hi hd) (e / 2) with
            | true =>
              rw [hb] at fc
              rw [if_pos rfl]
              simp (disch := omega) only [x_6_0, x_1, x_36, x_7_3_I, x_7_3_A, x_7_3_U, x_61, x_4_3, x_65, x_34, x_39_101, x_10_3_I, x_10_3_A, x_10_3_U, x_60, x_7_4_I, x_7_4_A, x_7_4_U, x_4_4, x_7_5_I, x_7_5_A, x_7_5_U, x_4_5, x_66, x_6_1, x_4_2, x_79_6_0_d0, x_79_6_0_d1, x_79_6_0_d2, x_79_6_0_d3, x_79_6_0_d4, x_68, x_79_5_0_d0, x_79_5_0_d1, x_79_5_0_d2, x_79_5_0_d3, x_79_5_0_d4, x_10_5_I, x_10_5_A, x_10_5_U, x_10_4_I, x_10_4_A, x_10_4_U, x_83, cb_ri, cb_rl, cb_rv, cb_th, cb_ite, ps_s, ps_n, u_0_0, u_0_31, u_0_83, u_0_89, u_0_95, u_0_101, fc, ac, ez, w32_id, ci, Int.reduceEq, Int.reduceLT, Int.reduceLE, reduceIte, Int.reduceAdd, Int.reduceSub, Int.reduceMul, Int.reduceNeg, Int.reduceToNat, Bool.false_eq_true, eq_self, if_pos, if_neg]
            | false =>
              rw [hb] at fc
              rw [if_neg (by decide)]
              simp (disch := omega) only [x_6_0, x_1, x_36, x_7_3_I, x_7_3_A, x_7_3_U, x_61, x_4_3, x_65, x_34, x_39_101, x_10_3_I, x_10_3_A, x_10_3_U, x_60, x_7_4_I, x_7_4_A, x_7_4_U, x_4_4, x_7_5_I, x_7_5_A, x_7_5_U, x_4_5, x_66, x_6_1, x_4_2, x_79_6_0_d0, x_79_6_0_d1, x_79_6_0_d2, x_79_6_0_d3, x_79_6_0_d4, x_68, x_79_5_0_d0, x_79_5_0_d1, x_79_5_0_d2, x_79_5_0_d3, x_79_5_0_d4, x_10_5_I, x_10_5_A, x_10_5_U, x_10_4_I, x_10_4_A, x_10_4_U, x_83, cb_ri, cb_rl, cb_rv, cb_th, cb_ite, ps_s, ps_n, u_0_0, u_0_31, u_0_83, u_0_89, u_0_95, u_0_101, fc, ef0, w32_id, ci, Int.reduceEq, Int.reduceLT, Int.reduceLE, reduceIte, Int.reduceAdd, Int.reduceSub, Int.reduceMul, Int.reduceNeg, Int.reduceToNat, Bool.false_eq_true, eq_self, if_pos, if_neg]
          · show run _ _ _ _ _ _ = _
            rw [hd_0_52]
            simp (disch := omega) only [x_6_0, x_1, x_36, x_7_3_I, x_7_3_A, x_7_3_U, x_61, x_4_3, x_65, x_34, x_39_101, x_10_3_I, x_10_3_A, x_10_3_U, x_60, x_7_4_I, x_7_4_A, x_7_4_U, x_4_4, x_7_5_I, x_7_5_A, x_7_5_U, x_4_5, x_66, x_6_1, x_4_2, x_79_6_0_d0, x_79_6_0_d1, x_79_6_0_d2, x_79_6_0_d3, x_79_6_0_d4, x_68, x_79_5_0_d0, x_79_5_0_d1, x_79_5_0_d2, x_79_5_0_d3, x_79_5_0_d4, x_10_5_I, x_10_5_A, x_10_5_U, x_10_4_I, x_10_4_A, x_10_4_U, x_83, cb_ri, cb_rl, cb_rv, cb_th, cb_ite, ps_s, ps_n, u_0_0, u_0_31, u_0_83, u_0_89, u_0_95, u_0_101, w32_id, ci, Int.reduceEq, Int.reduceLT, Int.reduceLE, reduceIte, Int.reduceAdd, Int.reduceSub, Int.reduceMul, Int.reduceNeg, Int.reduceToNat, Bool.false_eq_true, eq_self, if_pos, if_neg]
            rw [show 80 * lo + 10 * hi + 10 = 80 * lo + 10 * (hi + 1) by omega]
      obtain ⟨w5, fin⟩ := fin (8 - lo) (Nat.le_refl _) v.2
      refine ⟨(aI ((8 : Nat) : Int), w5), ?_⟩
      rw [show lo + (8 - lo) = 8 by omega, sk] at fin
      show run _ _ _ _ _ _ = run _ _ _ _ _ _
      rw [hd_0_33]
      simp (disch := omega) only [x_6_0, x_1, x_36, x_7_3_I, x_7_3_A, x_7_3_U, x_61, x_4_3, x_65, x_34, x_39_101, x_10_3_I, x_10_3_A, x_10_3_U, x_60, x_7_4_I, x_7_4_A, x_7_4_U, x_4_4, x_7_5_I, x_7_5_A, x_7_5_U, x_4_5, x_66, x_6_1, x_4_2, x_79_6_0_d0, x_79_6_0_d1, x_79_6_0_d2, x_79_6_0_d3, x_79_6_0_d4, x_68, x_79_5_0_d0, x_79_5_0_d1, x_79_5_0_d2, x_79_5_0_d3, x_79_5_0_d4, x_10_5_I, x_10_5_A, x_10_5_U, x_10_4_I, x_10_4_A, x_10_4_U, x_83, cb_ri, cb_rl, cb_rv, cb_th, cb_ite, ps_s, ps_n, u_0_0, u_0_31, u_0_83, u_0_89, u_0_95, u_0_101, Int.reduceEq, Int.reduceLT, Int.reduceLE, reduceIte, Int.reduceAdd, Int.reduceSub, Int.reduceMul, Int.reduceNeg, Int.reduceToNat, Bool.false_eq_true, eq_self, if_pos, if_neg]
      refine Eq.trans fin ?_
      rw [hd_0_42]
      simp (disch := omega) only [x_6_0, x_1, x_36, x_7_3_I, x_7_3_A, x_7_3_U, x_61, x_4_3, x_65, x_34, x_39_101, x_10_3_I, x_10_3_A, x_10_3_U, x_60, x_7_4_I, x_7_4_A, x_7_4_U, x_4_4, x_7_5_I, x_7_5_A, x_7_5_U, x_4_5, x_66, x_6_1, x_4_2, x_79_6_0_d0, x_79_6_0_d1, x_79_6_0_d2, x_79_6_0_d3, x_79_6_0_d4, x_68, x_79_5_0_d0, x_79_5_0_d1, x_79_5_0_d2, x_79_5_0_d3, x_79_5_0_d4, x_10_5_I, x_10_5_A, x_10_5_U, x_10_4_I, x_10_4_A, x_10_4_U, x_83, cb_ri, cb_rl, cb_rv, cb_th, cb_ite, ps_s, ps_n, u_0_0, u_0_31, u_0_83, u_0_89, u_0_95, u_0_101, w32_id, ci, Int.reduceEq, Int.reduceLT, Int.reduceLE, reduceIte, Int.reduceAdd, Int.reduceSub, Int.reduceMul, Int.reduceNeg, Int.reduceToNat, Bool.false_eq_true, eq_self, if_pos, if_neg]
      rw [show 80 * lo + 10 * 8 = 80 * (lo + 1) by omega]
    · intro v
      show run _ _ _ _ _ _ = _
      rw [hd_0_33]
      simp (disch := omega) only [x_6_0, x_1, x_36, x_7_3_I, x_7_3_A, x_7_3_U, x_61, x_4_3, x_65, x_34, x_39_101, x_10_3_I, x_10_3_A, x_10_3_U, x_60, x_7_4_I, x_7_4_A, x_7_4_U, x_4_4, x_7_5_I, x_7_5_A, x_7_5_U, x_4_5, x_66, x_6_1, x_4_2, x_79_6_0_d0, x_79_6_0_d1, x_79_6_0_d2, x_79_6_0_d3, x_79_6_0_d4, x_68, x_79_5_0_d0, x_79_5_0_d1, x_79_5_0_d2, x_79_5_0_d3, x_79_5_0_d4, x_10_5_I, x_10_5_A, x_10_5_U, x_10_4_I, x_10_4_A, x_10_4_U, x_83, cb_ri, cb_rl, cb_rv, cb_th, cb_ite, ps_s, ps_n, u_0_0, u_0_31, u_0_83, u_0_89, u_0_95, u_0_101, Int.reduceEq, Int.reduceLT, Int.reduceLE, reduceIte, Int.reduceAdd, Int.reduceSub, Int.reduceMul, Int.reduceNeg, Int.reduceToNat, Bool.false_eq_true, eq_self, if_pos, if_neg]
  · intro i hi
    show run _ _ _ _ _ _ = run _ _ _ _ _ _
    rw [← clH_s, hd_0_12]
    simp (disch := omega) only [x_6_0, x_1, x_36, x_7_3_I, x_7_3_A, x_7_3_U, x_61, x_4_3, x_65, x_34, x_39_101, x_10_3_I, x_10_3_A, x_10_3_U, x_60, x_7_4_I, x_7_4_A, x_7_4_U, x_4_4, x_7_5_I, x_7_5_A, x_7_5_U, x_4_5, x_66, x_6_1, x_4_2, x_79_6_0_d0, x_79_6_0_d1, x_79_6_0_d2, x_79_6_0_d3, x_79_6_0_d4, x_68, x_79_5_0_d0, x_79_5_0_d1, x_79_5_0_d2, x_79_5_0_d3, x_79_5_0_d4, x_10_5_I, x_10_5_A, x_10_5_U, x_10_4_I, x_10_4_A, x_10_4_U, x_83, cb_ri, cb_rl, cb_rv, cb_th, cb_ite, ps_s, ps_n, u_0_0, u_0_31, u_0_83, u_0_89, u_0_95, u_0_101, tn, w32_id, ci, Int.reduceEq, Int.reduceLT, Int.reduceLE, reduceIte, Int.reduceAdd, Int.reduceSub, Int.reduceMul, Int.reduceNeg, Int.reduceToNat, Bool.false_eq_true, eq_self, if_pos, if_neg]
  · show run _ _ _ _ _ _ = _
    rw [hd_0_12]
    simp (disch := omega) only [x_6_0, x_1, x_36, x_7_3_I, x_7_3_A, x_7_3_U, x_61, x_4_3, x_65, x_34, x_39_101, x_10_3_I, x_10_3_A, x_10_3_U, x_60, x_7_4_I, x_7_4_A, x_7_4_U, x_4_4, x_7_5_I, x_7_5_A, x_7_5_U, x_4_5, x_66, x_6_1, x_4_2, x_79_6_0_d0, x_79_6_0_d1, x_79_6_0_d2, x_79_6_0_d3, x_79_6_0_d4, x_68, x_79_5_0_d0, x_79_5_0_d1, x_79_5_0_d2, x_79_5_0_d3, x_79_5_0_d4, x_10_5_I, x_10_5_A, x_10_5_U, x_10_4_I, x_10_4_A, x_10_4_U, x_83, cb_ri, cb_rl, cb_rv, cb_th, cb_ite, ps_s, ps_n, u_0_0, u_0_31, u_0_83, u_0_89, u_0_95, u_0_101, Int.reduceEq, Int.reduceLT, Int.reduceLE, reduceIte, Int.reduceAdd, Int.reduceSub, Int.reduceMul, Int.reduceNeg, Int.reduceToNat, Bool.false_eq_true, eq_self, if_pos, if_neg]
    rfl
