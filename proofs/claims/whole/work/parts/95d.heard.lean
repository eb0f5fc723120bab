/-! what was heard: the reference -/
theorem hs_tw (h : Hp) (t k i : Nat) (v w : Int) : hset (hset h t k i v) t k i w = hset h t k i w := by
  funext tt kk j
  by_cases c : tt = t ∧ kk = k ∧ j = i
  · obtain ⟨rfl, rfl, rfl⟩ := c
    rw [hs_eq, hs_eq]
  · rw [hs_o c, hs_o c, hs_o c]
def mwP (t : Nat → Int) (N i : Nat) : Bool := decide ((if i % 2 = 0 then (N : Int) else 2) ≤ t i)
theorem mw_rw (t : Nat → Int) (N e : Nat) (he : e % 2 = 0) : anyB (mwP t N) e = anyB (rwP t N) (e / 2) := by
  have key : anyB (mwP t N) e = true ↔ anyB (rwP t N) (e / 2) = true := by
    rw [anyB_iff, anyB_iff]
    constructor
    · rintro ⟨i, h1, h2⟩
      refine ⟨i / 2, by omega, ?_⟩
      have h3 := of_decide_eq_true h2
      unfold rwP
      by_cases c : i % 2 = 0
      · rw [if_pos c] at h3
        rw [show 2 * (i / 2) = i by omega, decide_eq_true h3, Bool.true_or]
      · rw [if_neg c] at h3
        rw [show 2 * (i / 2) + 1 = i by omega, decide_eq_true h3, Bool.or_true]
    · rintro ⟨r, h1, h2⟩
      unfold rwP at h2
      rw [Bool.or_eq_true] at h2
      rcases h2 with h2 | h2
      · exact ⟨2 * r, by omega, by unfold mwP; rw [if_pos (by omega)]; exact h2⟩
      · exact ⟨2 * r + 1, by omega, by unfold mwP; rw [if_neg (by omega)]; exact h2⟩
  cases h1 : anyB (mwP t N) e with
  | true => exact (key.mp h1).symm
  | false =>
    cases h2 : anyB (rwP t N) (e / 2) with
    | true => rw [key.mpr h2] at h1; exact h1.symm
    | false => rfl
theorem hrow_m (lv e N : Nat) (t : Nat → Int) (q : Hp) (q3 : ∀ j, j < 400 → q 193 0 j = t j) (q4 : q 187 0 4 = (N : Int)) (he : e ≤ 40) : run lv 277 30 [aA 12 0, aI (e : Int), aI 1, aI 0, none, none] [] q = if anyB (mwP t N) e = true then ri (-1) q else run lv 277 82 [aA 12 0, aI (e : Int), aI 1, aI (e : Int), none, none] [] q := by
  refine loop_any (F := fun i => run lv 277 30 [aA 12 0, aI (e : Int), aI 1, aI (i : Int), none, none] [] q) (N := e) ?_ ?_
  · intro i hi
    have y := q3 i (by omega)
    have ir := irem_q (x := (i : Int)) 2 (by omega)
    show run _ _ _ _ _ _ = if _ then _ else run _ _ _ _ _ _
    unfold mwP
    rw [hd_277_30]
    by_cases c : i % 2 = 0
    · rw [if_pos c]
      have c' : (i : Int) % 2 = 0 := by omega
      by_cases d : (N : Int) ≤ t i
      · rw [if_pos (decide_eq_true d)]
        simp (disch := omega) only [x_6_0, x_33, x_7_1_I, x_7_1_A, x_7_1_U, x_1, x_36, x_4_1, x_15, x_69, x_66, x_60, x_61, x_7_2_I, x_7_2_A, x_7_2_U, x_7_3_I, x_7_3_A, x_7_3_U, x_4_3, x_65, x_4_2, x_68, x_34, x_38_187, x_38_193, x_10_3_I, x_10_3_A, x_10_3_U, x_82, x_7_4_I, x_7_4_A, x_7_4_U, x_4_4, x_14, x_41_212, x_7_5_I, x_7_5_A, x_7_5_U, x_4_5, x_40_212, x_79_3_12_d0, x_79_3_12_d1, x_79_3_12_d2, x_79_3_12_d3, x_79_3_12_d4, x_11, x_63, x_10_5_I, x_10_5_A, x_10_5_U, x_10_4_I, x_10_4_A, x_10_4_U, cb_ri, cb_rl, cb_rv, cb_th, cb_ite, ps_s, ps_n, u_277_0, u_277_26, u_277_27, u_277_60, u_277_61, u_277_68, u_277_69, u_277_76, u_277_121, u_277_122, u_277_178, u_277_179, u_277_186, u_277_187, u_277_194, u_277_209, u_277_210, u_277_218, tn, y, ir, c', q4, d, Int.reduceEq, Int.reduceLT, Int.reduceLE, reduceIte, Int.reduceAdd, Int.reduceSub, Int.reduceMul, Int.reduceNeg, Int.reduceToNat, Bool.false_eq_true, eq_self, if_pos, if_neg, ci, w32_id]
        rw [hd_277_30]
        by_cases d2 : i + 1 < e
        · simp (disch := omega) only [x_6_0, x_33, x_7_1_I, x_7_1_A, x_7_1_U, x_1, x_36, x_4_1, x_15, x_69, x_66, x_60, x_61, x_7_2_I, x_7_2_A, x_7_2_U, x_7_3_I, x_7_3_A, x_7_3_U, x_4_3, x_65, x_4_2, x_68, x_34, x_38_187, x_38_193, x_10_3_I, x_10_3_A, x_10_3_U, x_82, x_7_4_I, x_7_4_A, x_7_4_U, x_4_4, x_14, x_41_212, x_7_5_I, x_7_5_A, x_7_5_U, x_4_5, x_40_212, x_79_3_12_d0, x_79_3_12_d1, x_79_3_12_d2, x_79_3_12_d3, x_79_3_12_d4, x_11, x_63, x_10_5_I, x_10_5_A, x_10_5_U, x_10_4_I, x_10_4_A, x_10_4_U, cb_ri, cb_rl, cb_rv, cb_th, cb_ite, ps_s, ps_n, u_277_0, u_277_26, u_277_27, u_277_60, u_277_61, u_277_68, u_277_69, u_277_76, u_277_121, u_277_122, u_277_178, u_277_179, u_277_186, u_277_187, u_277_194, u_277_209, u_277_210, u_277_218, Int.reduceEq, Int.reduceLT, Int.reduceLE, reduceIte, Int.reduceAdd, Int.reduceSub, Int.reduceMul, Int.reduceNeg, Int.reduceToNat, Bool.false_eq_true, eq_self, if_pos, if_neg]
        · simp (disch := omega) only [x_6_0, x_33, x_7_1_I, x_7_1_A, x_7_1_U, x_1, x_36, x_4_1, x_15, x_69, x_66, x_60, x_61, x_7_2_I, x_7_2_A, x_7_2_U, x_7_3_I, x_7_3_A, x_7_3_U, x_4_3, x_65, x_4_2, x_68, x_34, x_38_187, x_38_193, x_10_3_I, x_10_3_A, x_10_3_U, x_82, x_7_4_I, x_7_4_A, x_7_4_U, x_4_4, x_14, x_41_212, x_7_5_I, x_7_5_A, x_7_5_U, x_4_5, x_40_212, x_79_3_12_d0, x_79_3_12_d1, x_79_3_12_d2, x_79_3_12_d3, x_79_3_12_d4, x_11, x_63, x_10_5_I, x_10_5_A, x_10_5_U, x_10_4_I, x_10_4_A, x_10_4_U, cb_ri, cb_rl, cb_rv, cb_th, cb_ite, ps_s, ps_n, u_277_0, u_277_26, u_277_27, u_277_60, u_277_61, u_277_68, u_277_69, u_277_76, u_277_121, u_277_122, u_277_178, u_277_179, u_277_186, u_277_187, u_277_194, u_277_209, u_277_210, u_277_218, Int.reduceEq, Int.reduceLT, Int.reduceLE, reduceIte, Int.reduceAdd, Int.reduceSub, Int.reduceMul, Int.reduceNeg, Int.reduceToNat, Bool.false_eq_true, eq_self, if_pos, if_neg]
      · rw [if_neg (fun z => d (of_decide_eq_true z))]
        simp (disch := omega) only [x_6_0, x_33, x_7_1_I, x_7_1_A, x_7_1_U, x_1, x_36, x_4_1, x_15, x_69, x_66, x_60, x_61, x_7_2_I, x_7_2_A, x_7_2_U, x_7_3_I, x_7_3_A, x_7_3_U, x_4_3, x_65, x_4_2, x_68, x_34, x_38_187, x_38_193, x_10_3_I, x_10_3_A, x_10_3_U, x_82, x_7_4_I, x_7_4_A, x_7_4_U, x_4_4, x_14, x_41_212, x_7_5_I, x_7_5_A, x_7_5_U, x_4_5, x_40_212, x_79_3_12_d0, x_79_3_12_d1, x_79_3_12_d2, x_79_3_12_d3, x_79_3_12_d4, x_11, x_63, x_10_5_I, x_10_5_A, x_10_5_U, x_10_4_I, x_10_4_A, x_10_4_U, cb_ri, cb_rl, cb_rv, cb_th, cb_ite, ps_s, ps_n, u_277_0, u_277_26, u_277_27, u_277_60, u_277_61, u_277_68, u_277_69, u_277_76, u_277_121, u_277_122, u_277_178, u_277_179, u_277_186, u_277_187, u_277_194, u_277_209, u_277_210, u_277_218, tn, y, ir, c', q4, d, Int.reduceEq, Int.reduceLT, Int.reduceLE, reduceIte, Int.reduceAdd, Int.reduceSub, Int.reduceMul, Int.reduceNeg, Int.reduceToNat, Bool.false_eq_true, eq_self, if_pos, if_neg, ci, w32_id]
    · rw [if_neg c]
      have c' : ¬ (i : Int) % 2 = 0 := by omega
      by_cases d : 2 ≤ t i
      · rw [if_pos (decide_eq_true d)]
        simp (disch := omega) only [x_6_0, x_33, x_7_1_I, x_7_1_A, x_7_1_U, x_1, x_36, x_4_1, x_15, x_69, x_66, x_60, x_61, x_7_2_I, x_7_2_A, x_7_2_U, x_7_3_I, x_7_3_A, x_7_3_U, x_4_3, x_65, x_4_2, x_68, x_34, x_38_187, x_38_193, x_10_3_I, x_10_3_A, x_10_3_U, x_82, x_7_4_I, x_7_4_A, x_7_4_U, x_4_4, x_14, x_41_212, x_7_5_I, x_7_5_A, x_7_5_U, x_4_5, x_40_212, x_79_3_12_d0, x_79_3_12_d1, x_79_3_12_d2, x_79_3_12_d3, x_79_3_12_d4, x_11, x_63, x_10_5_I, x_10_5_A, x_10_5_U, x_10_4_I, x_10_4_A, x_10_4_U, cb_ri, cb_rl, cb_rv, cb_th, cb_ite, ps_s, ps_n, u_277_0, u_277_26, u_277_27, u_277_60, u_277_61, u_277_68, u_277_69, u_277_76, u_277_121, u_277_122, u_277_178, u_277_179, u_277_186, u_277_187, u_277_194, u_277_209, u_277_210, u_277_218, tn, y, ir, c', q4, d, Int.reduceEq, Int.reduceLT, Int.reduceLE, reduceIte, Int.reduceAdd, Int.reduceSub, Int.reduceMul, Int.reduceNeg, Int.reduceToNat, Bool.false_eq_true, eq_self, if_pos, if_neg, ci, w32_id]
        rw [hd_277_30]
        by_cases d2 : i + 1 < e
        · simp (disch := omega) only [x_6_0, x_33, x_7_1_I, x_7_1_A, x_7_1_U, x_1, x_36, x_4_1, x_15, x_69, x_66, x_60, x_61, x_7_2_I, x_7_2_A, x_7_2_U, x_7_3_I, x_7_3_A, x_7_3_U, x_4_3, x_65, x_4_2, x_68, x_34, x_38_187, x_38_193, x_10_3_I, x_10_3_A, x_10_3_U, x_82, x_7_4_I, x_7_4_A, x_7_4_U, x_4_4, x_14, x_41_212, x_7_5_I, x_7_5_A, x_7_5_U, x_4_5, x_40_212, x_79_3_12_d0, x_79_3_12_d1, x_79_3_12_d2, x_79_3_12_d3, x_79_3_12_d4, x_11, x_63, x_10_5_I, x_10_5_A, x_10_5_U, x_10_4_I, x_10_4_A, x_10_4_U, cb_ri, cb_rl, cb_rv, cb_th, cb_ite, ps_s, ps_n, u_277_0, u_277_26, u_277_27, u_277_60, u_277_61, u_277_68, u_277_69, u_277_76, u_277_121, u_277_122, u_277_178, u_277_179, u_277_186, u_277_187, u_277_194, u_277_209, u_277_210, u_277_218, Int.reduceEq, Int.reduceLT, Int.reduceLE, reduceIte, Int.reduceAdd, Int.reduceSub, Int.reduceMul, Int.reduceNeg, Int.reduceToNat, Bool.false_eq_true, eq_self, if_pos, if_neg]
        · simp (disch := omega) only [x_6_0, x_33, x_7_1_I, x_7_1_A, x_7_1_U, x_1, x_36, x_4_1, x_15, x_69, x_66, x_60, x_61, x_7_2_I, x_7_2_A, x_7_2_U, x_7_3_I, x_7_3_A, x_7_3_U, x_4_3, x_65, x_4_2, x_68, x_34, x_38_187, x_38_193, x_10_3_I, x_10_3_A, x_10_3_U, x_82, x_7_4_I, x_7_4_A, x_7_4_U, x_4_4, x_14, x_41_212, x_7_5_I, x_7_5_A, x_7_5_U, x_4_5, x_40_212, x_79_3_12_d0, x_79_3_12_d1, x_79_3_12_d2, x_79_3_12_d3, x_79_3_12_d4, x_11, x_63, x_10_5_I, x_10_5_A, x_10_5_U, x_10_4_I, x_10_4_A, x_10_4_U, cb_ri, cb_rl, cb_rv, cb_th, cb_ite, ps_s, ps_n, u_277_0, u_277_26, u_277_27, u_277_60, u_277_61, u_277_68, u_277_69, u_277_76, u_277_121, u_277_122, u_277_178, u_277_179, u_277_186, u_277_187, u_277_194, u_277_209, u_277_210, u_277_218, Int.reduceEq, Int.reduceLT, Int.reduceLE, reduceIte, Int.reduceAdd, Int.reduceSub, Int.reduceMul, Int.reduceNeg, Int.reduceToNat, Bool.false_eq_true, eq_self, if_pos, if_neg]
      · rw [if_neg (fun z => d (of_decide_eq_true z))]
        simp (disch := omega) only [x_6_0, x_33, x_7_1_I, x_7_1_A, x_7_1_U, x_1, x_36, x_4_1, x_15, x_69, x_66, x_60, x_61, x_7_2_I, x_7_2_A, x_7_2_U, x_7_3_I, x_7_3_A, x_7_3_U, x_4_3, x_65, x_4_2, x_68, x_34, x_38_187, x_38_193, x_10_3_I, x_10_3_A, x_10_3_U, x_82, x_7_4_I, x_7_4_A, x_7_4_U, x_4_4, x_14, x_41_212, x_7_5_I, x_7_5_A, x_7_5_U, x_4_5, x_40_212, x_79_3_12_d0, x_79_3_12_d1, x_79_3_12_d2, x_79_3_12_d3, x_79_3_12_d4, x_11, x_63, x_10_5_I, x_10_5_A, x_10_5_U, x_10_4_I, x_10_4_A, x_10_4_U, cb_ri, cb_rl, cb_rv, cb_th, cb_ite, ps_s, ps_n, u_277_0, u_277_26, u_277_27, u_277_60, u_277_61, u_277_68, u_277_69, u_277_76, u_277_121, u_277_122, u_277_178, u_277_179, u_277_186, u_277_187, u_277_194, u_277_209, u_277_210, u_277_218, tn, y, ir, c', q4, d, Int.reduceEq, Int.reduceLT, Int.reduceLE, reduceIte, Int.reduceAdd, Int.reduceSub, Int.reduceMul, Int.reduceNeg, Int.reduceToNat, Bool.false_eq_true, eq_self, if_pos, if_neg, ci, w32_id]
  · show run _ _ _ _ _ _ = _
    rw [hd_277_30]
    simp (disch := omega) only [x_6_0, x_33, x_7_1_I, x_7_1_A, x_7_1_U, x_1, x_36, x_4_1, x_15, x_69, x_66, x_60, x_61, x_7_2_I, x_7_2_A, x_7_2_U, x_7_3_I, x_7_3_A, x_7_3_U, x_4_3, x_65, x_4_2, x_68, x_34, x_38_187, x_38_193, x_10_3_I, x_10_3_A, x_10_3_U, x_82, x_7_4_I, x_7_4_A, x_7_4_U, x_4_4, x_14, x_41_212, x_7_5_I, x_7_5_A, x_7_5_U, x_4_5, x_40_212, x_79_3_12_d0, x_79_3_12_d1, x_79_3_12_d2, x_79_3_12_d3, x_79_3_12_d4, x_11, x_63, x_10_5_I, x_10_5_A, x_10_5_U, x_10_4_I, x_10_4_A, x_10_4_U, cb_ri, cb_rl, cb_rv, cb_th, cb_ite, ps_s, ps_n, u_277_0, u_277_26, u_277_27, u_277_60, u_277_61, u_277_68, u_277_69, u_277_76, u_277_121, u_277_122, u_277_178, u_277_179, u_277_186, u_277_187, u_277_194, u_277_209, u_277_210, u_277_218, Int.reduceEq, Int.reduceLT, Int.reduceLE, reduceIte, Int.reduceAdd, Int.reduceSub, Int.reduceMul, Int.reduceNeg, Int.reduceToNat, Bool.false_eq_true, eq_self, if_pos, if_neg]
def htH (g : Hp) (f : Nat → Bool) (q : Nat) : Hp := fun tt k j => if tt = 212 ∧ k = 0 ∧ j < q then boI (f j) else g tt k j
theorem htH_0 (g : Hp) (f : Nat → Bool) : htH g f 0 = g := by funext tt k j; unfold htH; rw [if_neg (by omega)]
theorem htH_s (g : Hp) (f : Nat → Bool) (q : Nat) : hset (htH g f q) 212 0 q (boI (f q)) = htH g f (q + 1) := by
  funext tt k j
  by_cases c : tt = 212 ∧ k = 0 ∧ j = q
  · obtain ⟨rfl, rfl, rfl⟩ := c
    rw [hs_eq]; unfold htH; rw [if_pos (by omega)]
  · rw [hs_o c]
    unfold htH
    by_cases d : tt = 212 ∧ k = 0 ∧ j < q
    · rw [if_pos d, if_pos (by omega)]
    · rw [if_neg d, if_neg (by omega)]
theorem htH_o (g : Hp) (f : Nat → Bool) (q : Nat) {tt k j : Nat} (h : tt ≠ 212) : htH g f q tt k j = g tt k j := by unfold htH; rw [if_neg (by omega)]
theorem htH_i (g : Hp) (f : Nat → Bool) {q j : Nat} (h : j < q) : htH g f q 212 0 j = boI (f j) := by unfold htH; rw [if_pos ⟨rfl, rfl, h⟩]
theorem hinner_m (lv N e q : Nat) (M t : Nat → Int) (g : Hp) (x3 : Int) (g7 : g 187 0 = M) (hN : N ≤ 14) (hk : ∀ i, i < N → 0 ≤ M (50 + 4 * i + 1) ∧ M (50 + 4 * i + 1) ≤ 63) (ht : ∀ j, j < 400 → g 193 0 j = t j) (h0 : ∀ j, j < 400 → 0 ≤ t j) (ok : rowsB t N e) (hq : q < 640) : ∃ w5 : AV, run (lv + 2) 277 126 [aA 12 0, aI (e : Int), aI 1, aI x3, aI (q : Int), aI 0] [] (hset g 212 0 q (boI (decide (q / 80 ≤ q / 10 % 8)))) = run (lv + 2) 277 194 [aA 12 0, aI (e : Int), aI 1, aI x3, aI (q : Int), w5] [] (hset g 212 0 q (boI (fqB M t e q))) := by
  have ez : boI true = 1 := rfl
  have ef : boI false = 0 := rfl
  obtain ⟨k1, k2, -⟩ := id ok
  cases hb : decide (q / 80 ≤ q / 10 % 8) with
  | false =>
    have e1 : fqB M t e q = false := by unfold fqB; rw [hb, Bool.false_and]
    rw [e1]
    refine ⟨aI 0, ?_⟩
    rw [hd_277_126]
    by_cases c : 0 < e
    · simp (disch := omega) only [x_6_0, x_33, x_7_1_I, x_7_1_A, x_7_1_U, x_1, x_36, x_4_1, x_15, x_69, x_66, x_60, x_61, x_7_2_I, x_7_2_A, x_7_2_U, x_7_3_I, x_7_3_A, x_7_3_U, x_4_3, x_65, x_4_2, x_68, x_34, x_38_187, x_38_193, x_10_3_I, x_10_3_A, x_10_3_U, x_82, x_7_4_I, x_7_4_A, x_7_4_U, x_4_4, x_14, x_41_212, x_7_5_I, x_7_5_A, x_7_5_U, x_4_5, x_40_212, x_79_3_12_d0, x_79_3_12_d1, x_79_3_12_d2, x_79_3_12_d3, x_79_3_12_d4, x_11, x_63, x_10_5_I, x_10_5_A, x_10_5_U, x_10_4_I, x_10_4_A, x_10_4_U, cb_ri, cb_rl, cb_rv, cb_th, cb_ite, ps_s, ps_n, u_277_0, u_277_26, u_277_27, u_277_60, u_277_61, u_277_68, u_277_69, u_277_76, u_277_82, u_277_121, u_277_122, u_277_178, u_277_179, u_277_186, u_277_187, u_277_209, u_277_210, u_277_218, tn, hs_eq, ef, Int.reduceEq, Int.reduceLT, Int.reduceLE, reduceIte, Int.reduceAdd, Int.reduceSub, Int.reduceMul, Int.reduceNeg, Int.reduceToNat, Bool.false_eq_true, eq_self, if_pos, if_neg]
    · simp (disch := omega) only [x_6_0, x_33, x_7_1_I, x_7_1_A, x_7_1_U, x_1, x_36, x_4_1, x_15, x_69, x_66, x_60, x_61, x_7_2_I, x_7_2_A, x_7_2_U, x_7_3_I, x_7_3_A, x_7_3_U, x_4_3, x_65, x_4_2, x_68, x_34, x_38_187, x_38_193, x_10_3_I, x_10_3_A, x_10_3_U, x_82, x_7_4_I, x_7_4_A, x_7_4_U, x_4_4, x_14, x_41_212, x_7_5_I, x_7_5_A, x_7_5_U, x_4_5, x_40_212, x_79_3_12_d0, x_79_3_12_d1, x_79_3_12_d2, x_79_3_12_d3, x_79_3_12_d4, x_11, x_63, x_10_5_I, x_10_5_A, x_10_5_U, x_10_4_I, x_10_4_A, x_10_4_U, cb_ri, cb_rl, cb_rv, cb_th, cb_ite, ps_s, ps_n, u_277_0, u_277_26, u_277_27, u_277_60, u_277_61, u_277_68, u_277_69, u_277_76, u_277_82, u_277_121, u_277_122, u_277_178, u_277_179, u_277_186, u_277_187, u_277_209, u_277_210, u_277_218, tn, hs_eq, ef, Int.reduceEq, Int.reduceLT, Int.reduceLE, reduceIte, Int.reduceAdd, Int.reduceSub, Int.reduceMul, Int.reduceNeg, Int.reduceToNat, Bool.false_eq_true, eq_self, if_pos, if_neg]
  | true =>
    have e1 : fqB M t e q = allB (mtP M t (q / 80) (q / 10 % 8) (q % 10)) (e / 2) := by unfold fqB; rw [hb, Bool.true_and]
    rw [e1]
    have lf := loop_f (F := fun r (_ : Unit) => run (lv + 2) 277 126 [aA 12 0, aI (e : Int), aI 1, aI x3, aI (q : Int), aI ((2 * r : Nat) : Int)] [] (hset g 212 0 q 1)) (N := e / 2) (P := fun r => ! mtP M t (q / 80) (q / 10 % 8) (q % 10) r) (r := fun r => run (lv + 2) 277 194 [aA 12 0, aI (e : Int), aI 1, aI x3, aI (q : Int), aI ((2 * r : Nat) + 2 : Int)] [] (hset g 212 0 q 0)) (d := run (lv + 2) 277 194 [aA 12 0, aI (e : Int), aI 1, aI x3, aI (q : Int), aI (e : Int)] [] (hset g 212 0 q 1)) ?_ ?_ ()
    · rcases lf with ⟨r, q1, q2, -, q3⟩ | ⟨q1, q2⟩
      · have : ¬ allB (mtP M t (q / 80) (q / 10 % 8) (q % 10)) (e / 2) = true := fun z => by have := allB_iff.mp z r q1; rw [this] at q2; exact absurd q2 (by decide)
        rw [Bool.eq_false_iff.mpr this]
        exact ⟨_, q3⟩
      · have : allB (mtP M t (q / 80) (q / 10 % 8) (q % 10)) (e / 2) = true := allB_iff.mpr (fun i hi => by
          cases hb : mtP M t (q / 80) (q / 10 % 8) (q % 10) i with
          | true => rfl
          | false => have := q1 i hi; rw [hb] at this; exact absurd this (by decide))
        rw [this]
        exact ⟨_, q2⟩
    · intro r _ hr
      refine ⟨(), ?_⟩
      obtain ⟨b1, b2⟩ := row_ok ok hr
      have n1 := h0 (2 * r) (by omega)
      have n2 := h0 (2 * r + 1) (by omega)
      have y1 : hset g 212 0 q 1 193 0 (2 * r) = t (2 * r) := by rw [hs_t (by omega)]; exact ht (2 * r) (by omega)
      have y2 : hset g 212 0 q 1 193 0 (2 * r + 1) = t (2 * r + 1) := by rw [hs_t (by omega)]; exact ht (2 * r + 1) (by omega)
      have z1 : (((2 * r : Nat) : Int) + 1).toNat = 2 * r + 1 := by omega
      have z2 : ((2 * (r + 1) : Nat) : Int) = ((2 * r : Nat) : Int) + 2 := by omega
      have e7 : hset g 212 0 q 1 187 0 = M := by rw [← g7]; exact funext (fun j => hs_t (by omega))
      have hs := hasBy_m lv N q (t (2 * r)).toNat (hset g 212 0 q 1) hN (by rw [e7]; exact hk _ (by omega)) (by omega) hq
      rw [e7, show (((t (2 * r)).toNat : Nat) : Int) = t (2 * r) by omega] at hs
      show run _ _ _ _ _ _ = if _ then run _ _ _ _ _ _ else run _ _ _ _ _ _
      have hdef : mtP M t (q / 80) (q / 10 % 8) (q % 10) r = (hsB M (q / 80) (q / 10 % 8) (q % 10) (t (2 * r)).toNat == decide (t (2 * r + 1) = 1)) := rfl
      rw [hdef, z2, hd_277_126]
      have hlt : ((2 * r : Nat) : Int) + 1 < (e : Int) := by omega
      generalize hq : 2 * r = p at *
      by_cases d : t (p + 1) = 1
      · rw [decide_eq_true d]
        cases hb : hsB M (q / 80) (q / 10 % 8) (q % 10) (t p).toNat with
        | true =>
          rw [hb] at hs
          rw [if_neg (by decide)]
          simp (disch := omega) only [x_6_0, x_33, x_7_1_I, x_7_1_A, x_7_1_U, x_1, x_36, x_4_1, x_15, x_69, x_66, x_60, x_61, x_7_2_I, x_7_2_A, x_7_2_U, x_7_3_I, x_7_3_A, x_7_3_U, x_4_3, x_65, x_4_2, x_68, x_34, x_38_187, x_38_193, x_10_3_I, x_10_3_A, x_10_3_U, x_82, x_7_4_I, x_7_4_A, x_7_4_U, x_4_4, x_14, x_41_212, x_7_5_I, x_7_5_A, x_7_5_U, x_4_5, x_40_212, x_79_3_12_d0, x_79_3_12_d1, x_79_3_12_d2, x_79_3_12_d3, x_79_3_12_d4, x_11, x_63, x_10_5_I, x_10_5_A, x_10_5_U, x_10_4_I, x_10_4_A, x_10_4_U, cb_ri, cb_rl, cb_rv, cb_th, cb_ite, ps_s, ps_n, u_277_0, u_277_26, u_277_27, u_277_60, u_277_61, u_277_68, u_277_69, u_277_76, u_277_82, u_277_121, u_277_122, u_277_178, u_277_179, u_277_186, u_277_187, u_277_209, u_277_210, u_277_218, tn, hs_eq, y1, z1, y2, hs, ez, ef, d, w32_id, hs_tw, Int.reduceEq, Int.reduceLT, Int.reduceLE, reduceIte, Int.reduceAdd, Int.reduceSub, Int.reduceMul, Int.reduceNeg, Int.reduceToNat, Bool.false_eq_true, eq_self, if_pos, if_neg]
        | false =>
          rw [hb] at hs
          rw [if_pos (by decide)]
          simp (disch := omega) only [x_6_0, x_33, x_7_1_I, x_7_1_A, x_7_1_U, x_1, x_36, x_4_1, x_15, x_69, x_66, x_60, x_61, x_7_2_I, x_7_2_A, x_7_2_U, x_7_3_I, x_7_3_A, x_7_3_U, x_4_3, x_65, x_4_2, x_68, x_34, x_38_187, x_38_193, x_10_3_I, x_10_3_A, x_10_3_U, x_82, x_7_4_I, x_7_4_A, x_7_4_U, x_4_4, x_14, x_41_212, x_7_5_I, x_7_5_A, x_7_5_U, x_4_5, x_40_212, x_79_3_12_d0, x_79_3_12_d1, x_79_3_12_d2, x_79_3_12_d3, x_79_3_12_d4, x_11, x_63, x_10_5_I, x_10_5_A, x_10_5_U, x_10_4_I, x_10_4_A, x_10_4_U, cb_ri, cb_rl, cb_rv, cb_th, cb_ite, ps_s, ps_n, u_277_0, u_277_26, u_277_27, u_277_60, u_277_61, u_277_68, u_277_69, u_277_76, u_277_82, u_277_121, u_277_122, u_277_178, u_277_179, u_277_186, u_277_187, u_277_209, u_277_210, u_277_218, tn, hs_eq, y1, z1, y2, hs, ez, ef, d, w32_id, hs_tw, Int.reduceEq, Int.reduceLT, Int.reduceLE, reduceIte, Int.reduceAdd, Int.reduceSub, Int.reduceMul, Int.reduceNeg, Int.reduceToNat, Bool.false_eq_true, eq_self, if_pos, if_neg]
          rw [hd_277_126]
          by_cases d2 : (p : Int) + 2 < (e : Int)
          · simp (disch := omega) only [x_6_0, x_33, x_7_1_I, x_7_1_A, x_7_1_U, x_1, x_36, x_4_1, x_15, x_69, x_66, x_60, x_61, x_7_2_I, x_7_2_A, x_7_2_U, x_7_3_I, x_7_3_A, x_7_3_U, x_4_3, x_65, x_4_2, x_68, x_34, x_38_187, x_38_193, x_10_3_I, x_10_3_A, x_10_3_U, x_82, x_7_4_I, x_7_4_A, x_7_4_U, x_4_4, x_14, x_41_212, x_7_5_I, x_7_5_A, x_7_5_U, x_4_5, x_40_212, x_79_3_12_d0, x_79_3_12_d1, x_79_3_12_d2, x_79_3_12_d3, x_79_3_12_d4, x_11, x_63, x_10_5_I, x_10_5_A, x_10_5_U, x_10_4_I, x_10_4_A, x_10_4_U, cb_ri, cb_rl, cb_rv, cb_th, cb_ite, ps_s, ps_n, u_277_0, u_277_26, u_277_27, u_277_60, u_277_61, u_277_68, u_277_69, u_277_76, u_277_82, u_277_121, u_277_122, u_277_178, u_277_179, u_277_186, u_277_187, u_277_209, u_277_210, u_277_218, tn, hs_eq, Int.reduceEq, Int.reduceLT, Int.reduceLE, reduceIte, Int.reduceAdd, Int.reduceSub, Int.reduceMul, Int.reduceNeg, Int.reduceToNat, Bool.false_eq_true, eq_self, if_pos, if_neg]
          · simp (disch := omega) only [x_6_0, x_33, x_7_1_I, x_7_1_A, x_7_1_U, x_1, x_36, x_4_1, x_15, x_69, x_66, x_60, x_61, x_7_2_I, x_7_2_A, x_7_2_U, x_7_3_I, x_7_3_A, x_7_3_U, x_4_3, x_65, x_4_2, x_68, x_34, x_38_187, x_38_193, x_10_3_I, x_10_3_A, x_10_3_U, x_82, x_7_4_I, x_7_4_A, x_7_4_U, x_4_4, x_14, x_41_212, x_7_5_I, x_7_5_A, x_7_5_U, x_4_5, x_40_212, x_79_3_12_d0, x_79_3_12_d1, x_79_3_12_d2, x_79_3_12_d3, x_79_3_12_d4, x_11, x_63, x_10_5_I, x_10_5_A, x_10_5_U, x_10_4_I, x_10_4_A, x_10_4_U, cb_ri, cb_rl, cb_rv, cb_th, cb_ite, ps_s, ps_n, u_277_0, u_277_26, u_277_27, u_277_60, u_277_61, u_277_68, u_277_69, u_277_76, u_277_82, u_277_121, u_277_122, u_277_178, u_277_179, u_277_186, u_277_187, u_277_209, u_277_210, u_277_218, tn, hs_eq, Int.reduceEq, Int.reduceLT, Int.reduceLE, reduceIte, Int.reduceAdd, Int.reduceSub, Int.reduceMul, Int.reduceNeg, Int.reduceToNat, Bool.false_eq_true, eq_self, if_pos, if_neg]
      · rw [decide_eq_false d]
        cases hb : hsB M (q / 80) (q / 10 % 8) (q % 10) (t p).toNat with
        | true =>
          rw [hb] at hs
          rw [if_pos (by decide)]
          simp (disch := omega) only [x_6_0, x_33, x_7_1_I, x_7_1_A, x_7_1_U, x_1, x_36, x_4_1, x_15, x_69, x_66, x_60, x_61, x_7_2_I, x_7_2_A, x_7_2_U, x_7_3_I, x_7_3_A, x_7_3_U, x_4_3, x_65, x_4_2, x_68, x_34, x_38_187, x_38_193, x_10_3_I, x_10_3_A, x_10_3_U, x_82, x_7_4_I, x_7_4_A, x_7_4_U, x_4_4, x_14, x_41_212, x_7_5_I, x_7_5_A, x_7_5_U, x_4_5, x_40_212, x_79_3_12_d0, x_79_3_12_d1, x_79_3_12_d2, x_79_3_12_d3, x_79_3_12_d4, x_11, x_63, x_10_5_I, x_10_5_A, x_10_5_U, x_10_4_I, x_10_4_A, x_10_4_U, cb_ri, cb_rl, cb_rv, cb_th, cb_ite, ps_s, ps_n, u_277_0, u_277_26, u_277_27, u_277_60, u_277_61, u_277_68, u_277_69, u_277_76, u_277_82, u_277_121, u_277_122, u_277_178, u_277_179, u_277_186, u_277_187, u_277_209, u_277_210, u_277_218, tn, hs_eq, y1, z1, y2, hs, ez, ef, d, w32_id, hs_tw, Int.reduceEq, Int.reduceLT, Int.reduceLE, reduceIte, Int.reduceAdd, Int.reduceSub, Int.reduceMul, Int.reduceNeg, Int.reduceToNat, Bool.false_eq_true, eq_self, if_pos, if_neg]
          rw [hd_277_126]
          by_cases d2 : (p : Int) + 2 < (e : Int)
          · simp (disch := omega) only [x_6_0, x_33, x_7_1_I, x_7_1_A, x_7_1_U, x_1, x_36, x_4_1, x_15, x_69, x_66, x_60, x_61, x_7_2_I, x_7_2_A, x_7_2_U, x_7_3_I, x_7_3_A, x_7_3_U, x_4_3, x_65, x_4_2, x_68, x_34, x_38_187, x_38_193, x_10_3_I, x_10_3_A, x_10_3_U, x_82, x_7_4_I, x_7_4_A, x_7_4_U, x_4_4, x_14, x_41_212, x_7_5_I, x_7_5_A, x_7_5_U, x_4_5, x_40_212, x_79_3_12_d0, x_79_3_12_d1, x_79_3_12_d2, x_79_3_12_d3, x_79_3_12_d4, x_11, x_63, x_10_5_I, x_10_5_A, x_10_5_U, x_10_4_I, x_10_4_A, x_10_4_U, cb_ri, cb_rl, cb_rv, cb_th, cb_ite, ps_s, ps_n, u_277_0, u_277_26, u_277_27, u_277_60, u_277_61, u_277_68, u_277_69, u_277_76, u_277_82, u_277_121, u_277_122, u_277_178, u_277_179, u_277_186, u_277_187, u_277_209, u_277_210, u_277_218, tn, hs_eq, Int.reduceEq, Int.reduceLT, Int.reduceLE, reduceIte, Int.reduceAdd, Int.reduceSub, Int.reduceMul, Int.reduceNeg, Int.reduceToNat, Bool.false_eq_true, eq_self, if_pos, if_neg]
          · simp (disch := omega) only [x_6_0, x_33, x_7_1_I, x_7_1_A, x_7_1_U, x_1, x_36, x_4_1, x_15, x_69, x_66, x_60, x_61, x_7_2_I, x_7_2_A, x_7_2_U, x_7_3_I, x_7_3_A, x_7_3_U, x_4_3, x_65, x_4_2, x_68, x_34, x_38_187, x_38_193, x_10_3_I, x_10_3_A, x_10_3_U, x_82, x_7_4_I, x_7_4_A, x_7_4_U, x_4_4, x_14, x_41_212, x_7_5_I, x_7_5_A, x_7_5_U, x_4_5, x_40_212, x_79_3_12_d0, x_79_3_12_d1, x_79_3_12_d2, x_79_3_12_d3, x_79_3_12_d4, x_11, x_63, x_10_5_I, x_10_5_A, x_10_5_U, x_10_4_I, x_10_4_A, x_10_4_U, cb_ri, cb_rl, cb_rv, cb_th, cb_ite, ps_s, ps_n, u_277_0, u_277_26, u_277_27, u_277_60, u_277_61, u_277_68, u_277_69, u_277_76, u_277_82, u_277_121, u_277_122, u_277_178, u_277_179, u_277_186, u_277_187, u_277_209, u_277_210, u_277_218, tn, hs_eq, Int.reduceEq, Int.reduceLT, Int.reduceLE, reduceIte, Int.reduceAdd, Int.reduceSub, Int.reduceMul, Int.reduceNeg, Int.reduceToNat, Bool.false_eq_true, eq_self, if_pos, if_neg]
        | false =>
          rw [hb] at hs
          rw [if_neg (by decide)]
          simp (disch := omega) only [x_6_0, x_33, x_7_1_I, x_7_1_A, x_7_1_U, x_1, x_36, x_4_1, x_15, x_69, x_66, x_60, x_61, x_7_2_I, x_7_2_A, x_7_2_U, x_7_3_I, x_7_3_A, x_7_3_U, x_4_3, x_65, x_4_2, x_68, x_34, x_38_187, x_38_193, x_10_3_I, x_10_3_A, x_10_3_U, x_82, x_7_4_I, x_7_4_A, x_7_4_U, x_4_4, x_14, x_41_212, x_7_5_I, x_7_5_A, x_7_5_U, x_4_5, x_40_212, x_79_3_12_d0, x_79_3_12_d1, x_79_3_12_d2, x_79_3_12_d3, x_79_3_12_d4, x_11, x_63, x_10_5_I, x_10_5_A, x_10_5_U, x_10_4_I, x_10_4_A, x_10_4_U, cb_ri, cb_rl, cb_rv, cb_th, cb_ite, ps_s, ps_n, u_277_0, u_277_26, u_277_27, u_277_60, u_277_61, u_277_68, u_277_69, u_277_76, u_277_82, u_277_121, u_277_122, u_277_178, u_277_179, u_277_186, u_277_187, u_277_209, u_277_210, u_277_218, tn, hs_eq, y1, z1, y2, hs, ez, ef, d, w32_id, hs_tw, Int.reduceEq, Int.reduceLT, Int.reduceLE, reduceIte, Int.reduceAdd, Int.reduceSub, Int.reduceMul, Int.reduceNeg, Int.reduceToNat, Bool.false_eq_true, eq_self, if_pos, if_neg]
    · intro _
      show run _ _ _ _ _ _ = run _ _ _ _ _ _
      rw [show 2 * (e / 2) = e by omega, hd_277_126]
      simp (disch := omega) only [x_6_0, x_33, x_7_1_I, x_7_1_A, x_7_1_U, x_1, x_36, x_4_1, x_15, x_69, x_66, x_60, x_61, x_7_2_I, x_7_2_A, x_7_2_U, x_7_3_I, x_7_3_A, x_7_3_U, x_4_3, x_65, x_4_2, x_68, x_34, x_38_187, x_38_193, x_10_3_I, x_10_3_A, x_10_3_U, x_82, x_7_4_I, x_7_4_A, x_7_4_U, x_4_4, x_14, x_41_212, x_7_5_I, x_7_5_A, x_7_5_U, x_4_5, x_40_212, x_79_3_12_d0, x_79_3_12_d1, x_79_3_12_d2, x_79_3_12_d3, x_79_3_12_d4, x_11, x_63, x_10_5_I, x_10_5_A, x_10_5_U, x_10_4_I, x_10_4_A, x_10_4_U, cb_ri, cb_rl, cb_rv, cb_th, cb_ite, ps_s, ps_n, u_277_0, u_277_26, u_277_27, u_277_60, u_277_61, u_277_68, u_277_69, u_277_76, u_277_82, u_277_121, u_277_122, u_277_178, u_277_179, u_277_186, u_277_187, u_277_209, u_277_210, u_277_218, Int.reduceEq, Int.reduceLT, Int.reduceLE, reduceIte, Int.reduceAdd, Int.reduceSub, Int.reduceMul, Int.reduceNeg, Int.reduceToNat, Bool.false_eq_true, eq_self, if_pos, if_neg]
