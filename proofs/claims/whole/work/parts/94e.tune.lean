/-! TUNES. -/
def hgF (M : Nat → Int) (b : Int) (hi : Bool) : Nat → Int
  | 0 => -1
  | i + 1 => if atB M b i = true ∧ (hgF M b hi i = -1 ∨ (hi = true ∧ hgF M b hi i < M (50 + 4 * i + 1)) ∨ (hi = false ∧ M (50 + 4 * i + 1) < hgF M b hi i)) then M (50 + 4 * i + 1) else hgF M b hi i
/-- the answer and the set of keys -/
theorem hgF_top {M : Nat → Int} {b : Int} {hi : Bool} : ∀ {n : Nat}, (∀ i, i < n → 0 ≤ M (50 + 4 * i + 1) ∧ M (50 + 4 * i + 1) ≤ 63) → (oKs M b n = 0 ∧ hgF M b hi n = -1) ∨ ∃ k : Nat, k ≤ 63 ∧ hgF M b hi n = (k : Int) ∧ (oKs M b n).testBit k = true ∧ (hi = true → ∀ j, k < j → (oKs M b n).testBit j = false) ∧ (hi = false → ∀ j, j < k → (oKs M b n).testBit j = false) := by
  intro n
  induction n with
  | zero => intro _; exact Or.inl ⟨rfl, rfl⟩
  | succ n ih =>
    intro hk
    have ih := ih (fun i hi => hk i (by omega))
    have hkn := hk n (by omega)
    obtain ⟨w, hw⟩ : ∃ w : Nat, M (50 + 4 * n + 1) = (w : Int) := ⟨(M (50 + 4 * n + 1)).toNat, by omega⟩
    simp only [oKs, hgF, hw, tn]
    by_cases c : atB M b n = true
    · simp only [c, true_and, if_true]
      right
      rcases ih with ⟨a1, a2⟩ | ⟨k, a1, a2, a3, a4, a5⟩
      · refine ⟨w, by omega, by rw [a2]; simp, ?_, fun _ j hj => ?_, fun _ j hj => ?_⟩
        · rw [a1, tb_or]; simp
        · rw [a1, tb_or, Nat.zero_testBit]; simp; omega
        · rw [a1, tb_or, Nat.zero_testBit]; simp; omega
      · rw [a2]
        have n1 : ¬ (k : Int) = -1 := by omega
        cases hi with
        | true =>
          simp only [n1, true_and, false_or, Bool.true_eq_false, false_and, or_false]
          by_cases c2 : (k : Int) < (w : Int)
          · rw [if_pos c2]
            refine ⟨w, by omega, rfl, by rw [tb_or]; simp, fun _ j hj => ?_, fun z => absurd z (by decide)⟩
            rw [tb_or, a4 rfl j (by omega)]; simp; omega
          · rw [if_neg c2]
            refine ⟨k, a1, rfl, by rw [tb_or, a3]; rfl, fun _ j hj => ?_, fun z => absurd z (by decide)⟩
            rw [tb_or, a4 rfl j (by omega)]; simp; omega
        | false =>
          simp only [n1, true_and, false_or, Bool.false_eq_true, false_and]
          by_cases c2 : (w : Int) < (k : Int)
          · rw [if_pos c2]
            refine ⟨w, by omega, rfl, by rw [tb_or]; simp, fun z => absurd z (by decide), fun _ j hj => ?_⟩
            rw [tb_or, a5 rfl j (by omega)]; simp; omega
          · rw [if_neg c2]
            refine ⟨k, a1, rfl, by rw [tb_or, a3]; rfl, fun z => absurd z (by decide), fun _ j hj => ?_⟩
            rw [tb_or, a5 rfl j (by omega)]; simp; omega
    · simp only [c, false_and, if_false]
      exact ih
theorem hgF_nz {M : Nat → Int} {b : Int} {hi : Bool} {n : Nat} (hk : ∀ i, i < n → 0 ≤ M (50 + 4 * i + 1) ∧ M (50 + 4 * i + 1) ≤ 63) (h0 : 0 < oKs M b n) : 0 ≤ hgF M b hi n ∧ hgF M b hi n ≤ 63 := by
  rcases hgF_top (b := b) (hi := hi) hk with ⟨a, -⟩ | ⟨k, a1, a2, -⟩
  · omega
  · omega
theorem hgF_z {M : Nat → Int} {b : Int} {hi : Bool} {n : Nat} (hk : ∀ i, i < n → 0 ≤ M (50 + 4 * i + 1) ∧ M (50 + 4 * i + 1) ≤ 63) (h0 : oKs M b n = 0) : hgF M b hi n = -1 := by
  rcases hgF_top (b := b) (hi := hi) hk with ⟨-, a⟩ | ⟨k, a1, a2, a3, -⟩
  · exact a
  · rw [h0, Nat.zero_testBit] at a3; exact absurd a3 (by decide)
theorem topK_c (lv N : Nat) (M : Nat → Int) (b : Int) (h : Hp) (hk : ∀ i, i < N → 0 ≤ M (50 + 4 * i + 1) ∧ M (50 + 4 * i + 1) ≤ 63) (h0 : 0 < oKs M b N) : cl (lv + 3) 158 [aJ (kJ (oKs M b N))] h = ri (hgF M b true N) h := by
  obtain ⟨k, a1, a2, a3⟩ := highest_c lv (oKs M b N) h h0 (oKs_lt hk)
  obtain ⟨b1, b2⟩ := tpB_bit a2
  rw [a3]
  rcases hgF_top (b := b) (hi := true) hk with ⟨z, -⟩ | ⟨k', c1, c2, c3, c4, -⟩
  · omega
  · rw [c2]
    rcases Nat.lt_trichotomy k k' with z | z | z
    · rw [b2 _ z] at c3; exact absurd c3 (by decide)
    · rw [z]
    · rw [c4 rfl _ z] at b1; exact absurd b1 (by decide)
theorem lowK_c (lv N : Nat) (M : Nat → Int) (b : Int) (h : Hp) (hk : ∀ i, i < N → 0 ≤ M (50 + 4 * i + 1) ∧ M (50 + 4 * i + 1) ≤ 63) (h0 : 0 < oKs M b N) : cl (lv + 2) 317 [aJ (kJ (oKs M b N))] h = ri (hgF M b false N) h := by
  obtain ⟨k, a2⟩ := ltB_ex _ (oKs M b N) (Nat.le_refl _) h0
  obtain ⟨b1, b2⟩ := ltB_bit a2
  rw [ntz_c lv k _ h a2 (oKs_lt hk)]
  rcases hgF_top (b := b) (hi := false) hk with ⟨z, -⟩ | ⟨k', c1, c2, c3, -, c4⟩
  · omega
  · rw [c2]
    rcases Nat.lt_trichotomy k k' with z | z | z
    · rw [c4 rfl _ z] at b1; exact absurd b1 (by decide)
    · rw [z]
    · rw [b2 _ z] at c3; exact absurd c3 (by decide)
theorem jc_z {a : Nat} (ha : a = 0) : jcmp (kJ a) 0 = 0 := by rw [ha, kJ_0]; rfl
theorem jc_n {a : Nat} (ha : a < 2 ^ 64) (h0 : 0 < a) : ¬ jcmp (kJ a) 0 = 0 := by
  have : ¬ kJ a = 0 := fun z => by rw [kJ_e0 ha] at z; omega
  unfold jcmp
  split
  · omega
  · omega
theorem highest_m (lv N : Nat) (b : Int) (hi : Bool) (h : Hp) (h4 : h 187 0 4 = (N : Int)) (hN : N ≤ 14) (hk : ∀ i, i < N → 0 ≤ h 187 0 (50 + 4 * i + 1) ∧ h 187 0 (50 + 4 * i + 1) ≤ 63) : cl (lv + 4) 266 [aA 12 0, aI b, aI (boI hi)] h = ri (hgF (h 187 0) b hi N) h := by
  have na := notesOf_c lv N b h h4 hN
  have nl : bsN (atB (h 187 0) b) N < 2147483648 := Nat.lt_of_lt_of_le (bsN_mono _ hN) (by decide)
  rw [in_266]
  simp (disch := omega) only [x_1, x_7_3_I, x_7_3_A, x_7_3_U, x_7_4_I, x_7_4_A, x_7_4_U, x_61, x_4_4, x_6_0, x_34, x_38_187, x_65, x_4_1, x_79_2_12_d0, x_79_2_12_d1, x_79_2_12_d2, x_79_2_12_d3, x_79_2_12_d4, x_80_2_d0, x_80_2_d1, x_80_2_d2, x_80_2_d3, x_80_2_d4, x_68, x_4_3, x_62, x_4_2, x_79_3_12_d0, x_79_3_12_d1, x_79_3_12_d2, x_79_3_12_d3, x_79_3_12_d4, x_67, x_60, x_10_4_I, x_10_4_A, x_10_4_U, x_82, cb_ri, cb_rl, cb_rv, cb_th, cb_ite, ps_s, ps_n, u_266_0, u_266_52, u_266_63, u_266_71, u_266_77]
  refine loop_up (F := fun i => run (lv + 3) 266 5 [aA 12 0, aI b, aI (boI hi), aI (hgF (h 187 0) b hi i), aI (i : Int)] [] h) (N := N) ?_ ?_ 0 (by omega)
  · intro i hi'
    have io := isOf_c (lv + 2) (bsN (atB (h 187 0) b) N) i h nl (by omega)
    rw [bsN_bit, decide_eq_true hi', Bool.true_and] at io
    have on : cl (lv + 3) 175 [aA 12 0, aI (i : Int), aI 1] h = _ := ofNote_c (lv + 2) i 1 h (by omega) (by omega)
    have hki := hk i hi'
    show run _ _ _ _ _ _ = run _ _ _ _ _ _
    simp only [hgF]
    generalize hgF (h 187 0) b hi i = x
    rw [hd_266_5]
    by_cases c : atB (h 187 0) b i = true
    · rw [if_pos c] at io
      by_cases c1 : x = -1
      · rw [if_pos ⟨c, Or.inl c1⟩]
        simp (disch := omega) only [x_1, x_7_3_I, x_7_3_A, x_7_3_U, x_7_4_I, x_7_4_A, x_7_4_U, x_61, x_4_4, x_6_0, x_34, x_38_187, x_65, x_4_1, x_79_2_12_d0, x_79_2_12_d1, x_79_2_12_d2, x_79_2_12_d3, x_79_2_12_d4, x_80_2_d0, x_80_2_d1, x_80_2_d2, x_80_2_d3, x_80_2_d4, x_68, x_4_3, x_62, x_4_2, x_79_3_12_d0, x_79_3_12_d1, x_79_3_12_d2, x_79_3_12_d3, x_79_3_12_d4, x_67, x_60, x_10_4_I, x_10_4_A, x_10_4_U, x_82, cb_ri, cb_rl, cb_rv, cb_th, cb_ite, ps_s, ps_n, u_266_0, u_266_52, u_266_63, u_266_71, u_266_77, h4, na, io, on, c1, Int.reduceEq, Int.reduceLT, Int.reduceLE, reduceIte, Int.reduceAdd, Int.reduceSub, Int.reduceMul, Int.reduceNeg, Int.reduceToNat, Bool.false_eq_true, eq_self, if_pos, if_neg, ci, w32_id]
      · cases hi with
        | true =>
          have e1 : boI true = 1 := rfl
          by_cases c2 : x < h 187 0 (50 + 4 * i + 1)
          · rw [if_pos ⟨c, Or.inr (Or.inl ⟨rfl, c2⟩)⟩]
            simp (disch := omega) only [x_1, x_7_3_I, x_7_3_A, x_7_3_U, x_7_4_I, x_7_4_A, x_7_4_U, x_61, x_4_4, x_6_0, x_34, x_38_187, x_65, x_4_1, x_79_2_12_d0, x_79_2_12_d1, x_79_2_12_d2, x_79_2_12_d3, x_79_2_12_d4, x_80_2_d0, x_80_2_d1, x_80_2_d2, x_80_2_d3, x_80_2_d4, x_68, x_4_3, x_62, x_4_2, x_79_3_12_d0, x_79_3_12_d1, x_79_3_12_d2, x_79_3_12_d3, x_79_3_12_d4, x_67, x_60, x_10_4_I, x_10_4_A, x_10_4_U, x_82, cb_ri, cb_rl, cb_rv, cb_th, cb_ite, ps_s, ps_n, u_266_0, u_266_52, u_266_63, u_266_71, u_266_77, h4, na, io, on, c1, c2, e1, Int.reduceEq, Int.reduceLT, Int.reduceLE, reduceIte, Int.reduceAdd, Int.reduceSub, Int.reduceMul, Int.reduceNeg, Int.reduceToNat, Bool.false_eq_true, eq_self, if_pos, if_neg, ci, w32_id]
          · rw [if_neg (fun z => by rcases z.2 with z | ⟨-, z⟩ | ⟨z, -⟩; exact c1 z; exact c2 z; exact absurd z (by decide))]
            simp (disch := omega) only [x_1, x_7_3_I, x_7_3_A, x_7_3_U, x_7_4_I, x_7_4_A, x_7_4_U, x_61, x_4_4, x_6_0, x_34, x_38_187, x_65, x_4_1, x_79_2_12_d0, x_79_2_12_d1, x_79_2_12_d2, x_79_2_12_d3, x_79_2_12_d4, x_80_2_d0, x_80_2_d1, x_80_2_d2, x_80_2_d3, x_80_2_d4, x_68, x_4_3, x_62, x_4_2, x_79_3_12_d0, x_79_3_12_d1, x_79_3_12_d2, x_79_3_12_d3, x_79_3_12_d4, x_67, x_60, x_10_4_I, x_10_4_A, x_10_4_U, x_82, cb_ri, cb_rl, cb_rv, cb_th, cb_ite, ps_s, ps_n, u_266_0, u_266_52, u_266_63, u_266_71, u_266_77, h4, na, io, on, c1, c2, e1, Int.reduceEq, Int.reduceLT, Int.reduceLE, reduceIte, Int.reduceAdd, Int.reduceSub, Int.reduceMul, Int.reduceNeg, Int.reduceToNat, Bool.false_eq_true, eq_self, if_pos, if_neg, ci, w32_id]
        | false =>
          have e1 : boI false = 0 := rfl
          by_cases c2 : h 187 0 (50 + 4 * i + 1) < x
          · rw [if_pos ⟨c, Or.inr (Or.inr ⟨rfl, c2⟩)⟩]
            simp (disch := omega) only [x_1, x_7_3_I, x_7_3_A, x_7_3_U, x_7_4_I, x_7_4_A, x_7_4_U, x_61, x_4_4, x_6_0, x_34, x_38_187, x_65, x_4_1, x_79_2_12_d0, x_79_2_12_d1, x_79_2_12_d2, x_79_2_12_d3, x_79_2_12_d4, x_80_2_d0, x_80_2_d1, x_80_2_d2, x_80_2_d3, x_80_2_d4, x_68, x_4_3, x_62, x_4_2, x_79_3_12_d0, x_79_3_12_d1, x_79_3_12_d2, x_79_3_12_d3, x_79_3_12_d4, x_67, x_60, x_10_4_I, x_10_4_A, x_10_4_U, x_82, cb_ri, cb_rl, cb_rv, cb_th, cb_ite, ps_s, ps_n, u_266_0, u_266_52, u_266_63, u_266_71, u_266_77, h4, na, io, on, c1, c2, e1, Int.reduceEq, Int.reduceLT, Int.reduceLE, reduceIte, Int.reduceAdd, Int.reduceSub, Int.reduceMul, Int.reduceNeg, Int.reduceToNat, Bool.false_eq_true, eq_self, if_pos, if_neg, ci, w32_id]
          · rw [if_neg (fun z => by rcases z.2 with z | ⟨z, -⟩ | ⟨-, z⟩; exact c1 z; exact absurd z (by decide); exact c2 z)]
            simp (disch := omega) only [x_1, x_7_3_I, x_7_3_A, x_7_3_U, x_7_4_I, x_7_4_A, x_7_4_U, x_61, x_4_4, x_6_0, x_34, x_38_187, x_65, x_4_1, x_79_2_12_d0, x_79_2_12_d1, x_79_2_12_d2, x_79_2_12_d3, x_79_2_12_d4, x_80_2_d0, x_80_2_d1, x_80_2_d2, x_80_2_d3, x_80_2_d4, x_68, x_4_3, x_62, x_4_2, x_79_3_12_d0, x_79_3_12_d1, x_79_3_12_d2, x_79_3_12_d3, x_79_3_12_d4, x_67, x_60, x_10_4_I, x_10_4_A, x_10_4_U, x_82, cb_ri, cb_rl, cb_rv, cb_th, cb_ite, ps_s, ps_n, u_266_0, u_266_52, u_266_63, u_266_71, u_266_77, h4, na, io, on, c1, c2, e1, Int.reduceEq, Int.reduceLT, Int.reduceLE, reduceIte, Int.reduceAdd, Int.reduceSub, Int.reduceMul, Int.reduceNeg, Int.reduceToNat, Bool.false_eq_true, eq_self, if_pos, if_neg, ci, w32_id]
    · rw [if_neg c] at io
      rw [if_neg (fun z => c z.1)]
      simp (disch := omega) only [x_1, x_7_3_I, x_7_3_A, x_7_3_U, x_7_4_I, x_7_4_A, x_7_4_U, x_61, x_4_4, x_6_0, x_34, x_38_187, x_65, x_4_1, x_79_2_12_d0, x_79_2_12_d1, x_79_2_12_d2, x_79_2_12_d3, x_79_2_12_d4, x_80_2_d0, x_80_2_d1, x_80_2_d2, x_80_2_d3, x_80_2_d4, x_68, x_4_3, x_62, x_4_2, x_79_3_12_d0, x_79_3_12_d1, x_79_3_12_d2, x_79_3_12_d3, x_79_3_12_d4, x_67, x_60, x_10_4_I, x_10_4_A, x_10_4_U, x_82, cb_ri, cb_rl, cb_rv, cb_th, cb_ite, ps_s, ps_n, u_266_0, u_266_52, u_266_63, u_266_71, u_266_77, h4, na, io, Int.reduceEq, Int.reduceLT, Int.reduceLE, reduceIte, Int.reduceAdd, Int.reduceSub, Int.reduceMul, Int.reduceNeg, Int.reduceToNat, Bool.false_eq_true, eq_self, if_pos, if_neg, ci, w32_id]
  · show run _ _ _ _ _ _ = _
    rw [hd_266_5]
    simp (disch := omega) only [x_1, x_7_3_I, x_7_3_A, x_7_3_U, x_7_4_I, x_7_4_A, x_7_4_U, x_61, x_4_4, x_6_0, x_34, x_38_187, x_65, x_4_1, x_79_2_12_d0, x_79_2_12_d1, x_79_2_12_d2, x_79_2_12_d3, x_79_2_12_d4, x_80_2_d0, x_80_2_d1, x_80_2_d2, x_80_2_d3, x_80_2_d4, x_68, x_4_3, x_62, x_4_2, x_79_3_12_d0, x_79_3_12_d1, x_79_3_12_d2, x_79_3_12_d3, x_79_3_12_d4, x_67, x_60, x_10_4_I, x_10_4_A, x_10_4_U, x_82, cb_ri, cb_rl, cb_rv, cb_th, cb_ite, ps_s, ps_n, u_266_0, u_266_52, u_266_63, u_266_71, u_266_77, h4, Int.reduceEq, Int.reduceLT, Int.reduceLE, reduceIte, Int.reduceAdd, Int.reduceSub, Int.reduceMul, Int.reduceNeg, Int.reduceToNat, Bool.false_eq_true, eq_self, if_pos, if_neg]
