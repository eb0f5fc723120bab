/-! THE CLASS WORKS THE CODES OUT. -/
def SV (S : List Int) (i : Nat) : Int := S.reverse.getD i 0
theorem SV_c (v : Int) (S : List Int) (i : Nat) : SV (v :: S) i = if i = S.length then v else SV S i := by
  unfold SV
  rw [List.reverse_cons, List.getD_eq_getElem?_getD]
  by_cases h1 : i < S.length
  · rw [if_neg (by omega), List.getElem?_append_left (by rw [List.length_reverse]; exact h1), List.getD_eq_getElem?_getD]
  · rw [List.getElem?_append_right (by rw [List.length_reverse]; omega), List.length_reverse]
    by_cases h2 : i = S.length
    · rw [if_pos h2, h2, Nat.sub_self]; rfl
    · rw [if_neg h2, List.getD_eq_getElem?_getD, List.getElem?_eq_none (by simp only [List.length_cons, List.length_nil]; omega), List.getElem?_eq_none (by rw [List.length_reverse]; omega)]
def WK (h H : Hp) (k : Nat) (S : List Int) (gn tk : Int) : Prop := (∀ tt kk i, ¬ (kk = k ∧ (tt = 108 ∨ (i = 0 ∧ (tt = 111 ∨ tt = 112)))) → H tt kk i = h tt kk i) ∧ (∀ i, i < S.length → H 108 k i = SV S i) ∧ H 111 k 0 = gn ∧ H 112 k 0 = tk
theorem WK_set {h H : Hp} {k : Nat} {S S' : List Int} {gn tk v : Int} (w : WK h H k S gn tk) (hS : ∀ i, i < S'.length → i ≤ S.length) (i0 : Nat) (hv : ∀ i, i < S'.length → (if i = i0 then v else SV S i) = SV S' i) (hi : ∀ i, i < S'.length → ¬ i = i0 → i < S.length) : WK h (hset H 108 k i0 v) k S' gn tk := by
  obtain ⟨w1, w2, w3, w4⟩ := w
  refine ⟨?_, ?_, ?_, ?_⟩
  · intro tt kk i hn
    rw [hs_o (by omega)]
    exact w1 tt kk i hn
  · intro i hl
    have := hv i hl
    by_cases c : i = i0
    · rw [if_pos c] at this
      rw [c, hs_eq, this, c]
    · rw [if_neg c] at this
      rw [hs_o (by omega), w2 i (hi i hl c), this]
  · rw [hs_o (by omega)]; exact w3
  · rw [hs_o (by omega)]; exact w4
theorem sw0D : swD 0 = 438 := id rfl
theorem sw0T : swT 0 = [(10, 356), (11, 373), (12, 397), (13, 421)] := id rfl
theorem work_s (lv k s : Nat) (F : Nat → Int) (h H : Hp) (n line : Int) (pc N : Nat) (c : Int) (S S' : List Int) (gn tk : Int) (x6 x7 x8 : AV) (w : WK h H k S gn tk) (hF : ∀ i, i < 9 → h 107 k i = F i) (hN : h 109 k 0 = (N : Int)) (hpc : pc < N) (hN4 : N ≤ 400) (hc : h 104 k pc = c) (ok : okCd c) (hS : S.length ≤ 20) (hs : st1 F c S = some S') :
    ∃ H' y6 y7 y8, run lv 12 88 [aA 1 k, aA 7 s, aI n, aI line, aI (S.length : Int), aI (pc : Int), x6, x7, x8] [] H = run lv 12 88 [aA 1 k, aA 7 s, aI n, aI line, aI (S'.length : Int), aI ((pc + 1 : Nat) : Int), y6, y7, y8] [] H' ∧ WK h H' k S' gn tk ∧ S'.length ≤ 20 := by
  unfold okCd at ok
  have e1 : H 104 k pc = c := by rw [w.1 _ _ _ (by omega)]; exact hc
  have e2 : H 109 k 0 = (N : Int) := by rw [w.1 _ _ _ (by omega)]; exact hN
  unfold st1 at hs
  by_cases h1 : c < 9 ∨ 16 ≤ c
  · rw [if_pos h1] at hs
    by_cases h2 : S.length < 20
    · rw [if_pos h2] at hs
      cases hs
      have hk : ∀ v, WK h (hset H 108 k S.length v) k (v :: S) gn tk := fun v => WK_set w (by intro i hi; simp only [List.length_cons] at hi; omega) S.length (by intro i hi; rw [SV_c]) (by intro i hi hne; simp only [List.length_cons] at hi; omega)
      by_cases h3 : 16 ≤ c
      · refine ⟨hset H 108 k S.length (c - 16), aI c, x7, x8, ?_, ?_, ?_⟩
        · rw [hd_12_88]
          simp (disch := omega) only [x_6_0, x_34, x_1, x_6_1, x_4_2, x_38_104, x_38_105, x_38_106, x_38_107, x_38_108, x_38_134, x_38_135, x_38_136, x_39_104, x_39_105, x_39_106, x_39_107, x_39_108, x_39_134, x_39_135, x_39_136, x_33, x_65, x_60, x_61, x_36, x_37, x_7_3_I, x_7_3_A, x_7_3_U, x_7_4_I, x_7_4_A, x_7_4_U, x_7_5_I, x_7_5_A, x_7_5_U, x_4_5, x_7_6_I, x_7_6_A, x_7_6_U, x_4_6, x_64, x_4_4, x_12, x_10_4_I, x_10_4_A, x_10_4_U, x_63, x_68, x_4_3, x_47_I, x_47_A, x_69, x_16, x_11, x_18, x_10_3_I, x_10_3_A, x_10_3_U, x_7_7_I, x_7_7_A, x_7_7_U, x_7_8_I, x_7_8_A, x_7_8_U, x_76, x_4_7, x_4_8, x_67, x_17, x_10_5_I, x_10_5_A, x_10_5_U, x_83, sw_n, sw_c, u_12_0, u_12_68, u_12_69, u_12_120, u_12_148, u_12_155, u_12_162, u_12_198, u_12_252, u_12_259, u_12_282, u_12_283, u_12_287, u_12_296, u_12_356, u_12_373, u_12_392, u_12_393, u_12_397, u_12_416, u_12_417, u_12_421, u_12_438, u_12_452, u_12_458, e1, e2, tn, w32_id, Int.reduceEq, Int.reduceLT, Int.reduceLE, reduceIte, Int.reduceAdd, Int.reduceSub, Int.reduceMul, Int.reduceNeg, Int.reduceToNat, Bool.false_eq_true, eq_self, if_pos, if_neg, List.length_cons, ci]
        · rw [if_pos h3]; exact hk _
        · simp only [List.length_cons]; omega
      · have e3 : H 107 k c.toNat = F c.toNat := by rw [w.1 _ _ _ (by omega)]; exact hF _ (by omega)
        refine ⟨hset H 108 k S.length (F c.toNat), aI c, x7, x8, ?_, ?_, ?_⟩
        · rw [hd_12_88]
          simp (disch := omega) only [x_6_0, x_34, x_1, x_6_1, x_4_2, x_38_104, x_38_105, x_38_106, x_38_107, x_38_108, x_38_134, x_38_135, x_38_136, x_39_104, x_39_105, x_39_106, x_39_107, x_39_108, x_39_134, x_39_135, x_39_136, x_33, x_65, x_60, x_61, x_36, x_37, x_7_3_I, x_7_3_A, x_7_3_U, x_7_4_I, x_7_4_A, x_7_4_U, x_7_5_I, x_7_5_A, x_7_5_U, x_4_5, x_7_6_I, x_7_6_A, x_7_6_U, x_4_6, x_64, x_4_4, x_12, x_10_4_I, x_10_4_A, x_10_4_U, x_63, x_68, x_4_3, x_47_I, x_47_A, x_69, x_16, x_11, x_18, x_10_3_I, x_10_3_A, x_10_3_U, x_7_7_I, x_7_7_A, x_7_7_U, x_7_8_I, x_7_8_A, x_7_8_U, x_76, x_4_7, x_4_8, x_67, x_17, x_10_5_I, x_10_5_A, x_10_5_U, x_83, sw_n, sw_c, u_12_0, u_12_68, u_12_69, u_12_120, u_12_148, u_12_155, u_12_162, u_12_198, u_12_252, u_12_259, u_12_282, u_12_283, u_12_287, u_12_296, u_12_356, u_12_373, u_12_392, u_12_393, u_12_397, u_12_416, u_12_417, u_12_421, u_12_438, u_12_452, u_12_458, e1, e2, e3, tn, w32_id, Int.reduceEq, Int.reduceLT, Int.reduceLE, reduceIte, Int.reduceAdd, Int.reduceSub, Int.reduceMul, Int.reduceNeg, Int.reduceToNat, Bool.false_eq_true, eq_self, if_pos, if_neg, List.length_cons, ci]
        · rw [if_neg h3]; exact hk _
        · simp only [List.length_cons]; omega
    · rw [if_neg h2] at hs; cases hs
  · rw [if_neg h1] at hs
    by_cases h2 : c = 9
    · rw [if_pos h2] at hs
      cases S with
      | nil => cases hs
      | cons x S =>
        cases hs
        have e3 : H 108 k S.length = x := by rw [w.2.1 _ (by simp), SV_c, if_pos rfl]
        refine ⟨hset H 108 k S.length (w32 (1 - x)), aI c, x7, x8, ?_, ?_, ?_⟩
        · rw [hd_12_88]
          have e4 : (((S.length + 1 : Nat) : Int) - 1) = (S.length : Int) := by omega
          have e5 : (((x :: S).length : Nat) : Int) = ((S.length + 1 : Nat) : Int) := rfl
          have e6 : (((w32 (1 - x) :: S).length : Nat) : Int) = ((S.length + 1 : Nat) : Int) := rfl
          simp only [List.length_cons] at hS
          rw [e5, e6]
          simp (disch := omega) only [x_6_0, x_34, x_1, x_6_1, x_4_2, x_38_104, x_38_105, x_38_106, x_38_107, x_38_108, x_38_134, x_38_135, x_38_136, x_39_104, x_39_105, x_39_106, x_39_107, x_39_108, x_39_134, x_39_135, x_39_136, x_33, x_65, x_60, x_61, x_36, x_37, x_7_3_I, x_7_3_A, x_7_3_U, x_7_4_I, x_7_4_A, x_7_4_U, x_7_5_I, x_7_5_A, x_7_5_U, x_4_5, x_7_6_I, x_7_6_A, x_7_6_U, x_4_6, x_64, x_4_4, x_12, x_10_4_I, x_10_4_A, x_10_4_U, x_63, x_68, x_4_3, x_47_I, x_47_A, x_69, x_16, x_11, x_18, x_10_3_I, x_10_3_A, x_10_3_U, x_7_7_I, x_7_7_A, x_7_7_U, x_7_8_I, x_7_8_A, x_7_8_U, x_76, x_4_7, x_4_8, x_67, x_17, x_10_5_I, x_10_5_A, x_10_5_U, x_83, sw_n, sw_c, u_12_0, u_12_68, u_12_69, u_12_120, u_12_148, u_12_155, u_12_162, u_12_198, u_12_252, u_12_259, u_12_282, u_12_283, u_12_287, u_12_296, u_12_356, u_12_373, u_12_392, u_12_393, u_12_397, u_12_416, u_12_417, u_12_421, u_12_438, u_12_452, u_12_458, e1, e2, e3, e4, h2, tn, w32_id, Int.reduceEq, Int.reduceLT, Int.reduceLE, reduceIte, Int.reduceAdd, Int.reduceSub, Int.reduceMul, Int.reduceNeg, Int.reduceToNat, Bool.false_eq_true, eq_self, if_pos, if_neg, ci]
        · exact WK_set w (by intro i hi; simp only [List.length_cons] at hi ⊢; omega) S.length (by intro i hi; rw [SV_c, SV_c]; split <;> rfl) (by intro i hi hne; simp only [List.length_cons] at hi ⊢; omega)
        · simp only [List.length_cons] at hS ⊢; omega
    · rw [if_neg h2] at hs
      cases S with
      | nil => cases hs
      | cons y S =>
      cases S with
      | nil => cases hs
      | cons x S =>
        cases hs
        simp only [List.length_cons] at hS
        have e3 : H 108 k S.length = x := by rw [w.2.1 _ (by simp only [List.length_cons]; omega), SV_c, if_neg (by simp), SV_c, if_pos rfl]
        have e3' : H 108 k (S.length + 1) = y := by rw [w.2.1 _ (by simp), SV_c, if_pos (by simp)]
        have e4 : (((y :: x :: S).length : Nat) : Int) = ((S.length + 2 : Nat) : Int) := rfl
        have e5 : (((op2 c x y :: S).length : Nat) : Int) = ((S.length + 1 : Nat) : Int) := rfl
        have e6 : (((S.length + 2 : Nat) : Int) + -1) = ((S.length + 1 : Nat) : Int) := by omega
        have e7 : (((S.length + 1 : Nat) : Int) - 1) = (S.length : Int) := by omega
        have e8 : (((S.length + 1 : Nat) : Int)).toNat = S.length + 1 := by omega
        have hk : WK h (hset H 108 k S.length (op2 c x y)) k (op2 c x y :: S) gn tk := WK_set w (by intro i hi; simp only [List.length_cons] at hi ⊢; omega) S.length (by intro i hi; simp only [List.length_cons] at hi; rw [SV_c, SV_c, SV_c]; by_cases hz : i = S.length; rw [if_pos hz, if_pos hz]; rw [if_neg hz, if_neg (by simp only [List.length_cons]; omega), if_neg hz, if_neg hz]) (by intro i hi hne; simp only [List.length_cons] at hi ⊢; omega)
        refine ⟨_, aI c, aI x, aI y, ?_, hk, ?_⟩
        · rw [hd_12_88, e4, e5]
          have hcc : c = 10 ∨ c = 11 ∨ c = 12 ∨ c = 13 ∨ c = 14 := by omega
          rcases hcc with h3 | h3 | h3 | h3 | h3
          · rw [h3] at e1 ⊢
            simp (disch := omega) only [x_6_0, x_34, x_1, x_6_1, x_4_2, x_38_104, x_38_105, x_38_106, x_38_107, x_38_108, x_38_134, x_38_135, x_38_136, x_39_104, x_39_105, x_39_106, x_39_107, x_39_108, x_39_134, x_39_135, x_39_136, x_33, x_65, x_60, x_61, x_36, x_37, x_7_3_I, x_7_3_A, x_7_3_U, x_7_4_I, x_7_4_A, x_7_4_U, x_7_5_I, x_7_5_A, x_7_5_U, x_4_5, x_7_6_I, x_7_6_A, x_7_6_U, x_4_6, x_64, x_4_4, x_12, x_10_4_I, x_10_4_A, x_10_4_U, x_63, x_68, x_4_3, x_47_I, x_47_A, x_69, x_16, x_11, x_18, x_10_3_I, x_10_3_A, x_10_3_U, x_7_7_I, x_7_7_A, x_7_7_U, x_7_8_I, x_7_8_A, x_7_8_U, x_76, x_4_7, x_4_8, x_67, x_17, x_10_5_I, x_10_5_A, x_10_5_U, x_83, sw_n, sw_c, u_12_0, u_12_68, u_12_69, u_12_120, u_12_148, u_12_155, u_12_162, u_12_198, u_12_252, u_12_259, u_12_282, u_12_283, u_12_287, u_12_296, u_12_356, u_12_373, u_12_392, u_12_393, u_12_397, u_12_416, u_12_417, u_12_421, u_12_438, u_12_452, u_12_458, e1, e2, e3, e3', e6, e7, e8, tn, w32_id, Int.reduceEq, Int.reduceLT, Int.reduceLE, reduceIte, Int.reduceAdd, Int.reduceSub, Int.reduceMul, Int.reduceNeg, Int.reduceToNat, Bool.false_eq_true, eq_self, if_pos, if_neg, ci, sw0T, sw0D, op2]
          · rw [h3] at e1 ⊢
            by_cases h4 : x < y
            · simp (disch := omega) only [x_6_0, x_34, x_1, x_6_1, x_4_2, x_38_104, x_38_105, x_38_106, x_38_107, x_38_108, x_38_134, x_38_135, x_38_136, x_39_104, x_39_105, x_39_106, x_39_107, x_39_108, x_39_134, x_39_135, x_39_136, x_33, x_65, x_60, x_61, x_36, x_37, x_7_3_I, x_7_3_A, x_7_3_U, x_7_4_I, x_7_4_A, x_7_4_U, x_7_5_I, x_7_5_A, x_7_5_U, x_4_5, x_7_6_I, x_7_6_A, x_7_6_U, x_4_6, x_64, x_4_4, x_12, x_10_4_I, x_10_4_A, x_10_4_U, x_63, x_68, x_4_3, x_47_I, x_47_A, x_69, x_16, x_11, x_18, x_10_3_I, x_10_3_A, x_10_3_U, x_7_7_I, x_7_7_A, x_7_7_U, x_7_8_I, x_7_8_A, x_7_8_U, x_76, x_4_7, x_4_8, x_67, x_17, x_10_5_I, x_10_5_A, x_10_5_U, x_83, sw_n, sw_c, u_12_0, u_12_68, u_12_69, u_12_120, u_12_148, u_12_155, u_12_162, u_12_198, u_12_252, u_12_259, u_12_282, u_12_283, u_12_287, u_12_296, u_12_356, u_12_373, u_12_392, u_12_393, u_12_397, u_12_416, u_12_417, u_12_421, u_12_438, u_12_452, u_12_458, e1, e2, e3, e3', e6, e7, e8, tn, w32_id, Int.reduceEq, Int.reduceLT, Int.reduceLE, reduceIte, Int.reduceAdd, Int.reduceSub, Int.reduceMul, Int.reduceNeg, Int.reduceToNat, Bool.false_eq_true, eq_self, if_pos, if_neg, ci, sw0T, sw0D, op2]
            · simp (disch := omega) only [x_6_0, x_34, x_1, x_6_1, x_4_2, x_38_104, x_38_105, x_38_106, x_38_107, x_38_108, x_38_134, x_38_135, x_38_136, x_39_104, x_39_105, x_39_106, x_39_107, x_39_108, x_39_134, x_39_135, x_39_136, x_33, x_65, x_60, x_61, x_36, x_37, x_7_3_I, x_7_3_A, x_7_3_U, x_7_4_I, x_7_4_A, x_7_4_U, x_7_5_I, x_7_5_A, x_7_5_U, x_4_5, x_7_6_I, x_7_6_A, x_7_6_U, x_4_6, x_64, x_4_4, x_12, x_10_4_I, x_10_4_A, x_10_4_U, x_63, x_68, x_4_3, x_47_I, x_47_A, x_69, x_16, x_11, x_18, x_10_3_I, x_10_3_A, x_10_3_U, x_7_7_I, x_7_7_A, x_7_7_U, x_7_8_I, x_7_8_A, x_7_8_U, x_76, x_4_7, x_4_8, x_67, x_17, x_10_5_I, x_10_5_A, x_10_5_U, x_83, sw_n, sw_c, u_12_0, u_12_68, u_12_69, u_12_120, u_12_148, u_12_155, u_12_162, u_12_198, u_12_252, u_12_259, u_12_282, u_12_283, u_12_287, u_12_296, u_12_356, u_12_373, u_12_392, u_12_393, u_12_397, u_12_416, u_12_417, u_12_421, u_12_438, u_12_452, u_12_458, e1, e2, e3, e3', e6, e7, e8, tn, w32_id, Int.reduceEq, Int.reduceLT, Int.reduceLE, reduceIte, Int.reduceAdd, Int.reduceSub, Int.reduceMul, Int.reduceNeg, Int.reduceToNat, Bool.false_eq_true, eq_self, if_pos, if_neg, ci, sw0T, sw0D, op2]
          · rw [h3] at e1 ⊢
            by_cases h4 : x > y
            · simp (disch := omega) only [x_6_0, x_34, x_1, x_6_1, x_4_2, x_38_104, x_38_105, x_38_106, x_38_107, x_38_108, x_38_134, x_38_135, x_38_136, x_39_104, x_39_105, x_39_106, x_39_107, x_39_108, x_39_134, x_39_135, x_39_136, x_33, x_65, x_60, x_61, x_36, x_37, x_7_3_I, x_7_3_A, x_7_3_U, x_7_4_I, x_7_4_A, x_7_4_U, x_7_5_I, x_7_5_A, x_7_5_U, x_4_5, x_7_6_I, x_7_6_A, x_7_6_U, x_4_6, x_64, x_4_4, x_12, x_10_4_I, x_10_4_A, x_10_4_U, x_63, x_68, x_4_3, x_47_I, x_47_A, x_69, x_16, x_11, x_18, x_10_3_I, x_10_3_A, x_10_3_U, x_7_7_I, x_7_7_A, x_7_7_U, x_7_8_I, x_7_8_A, x_7_8_U, x_76, x_4_7, x_4_8, x_67, x_17, x_10_5_I, x_10_5_A, x_10_5_U, x_83, sw_n, sw_c, u_12_0, u_12_68, u_12_69, u_12_120, u_12_148, u_12_155, u_12_162, u_12_198, u_12_252, u_12_259, u_12_282, u_12_283, u_12_287, u_12_296, u_12_356, u_12_373, u_12_392, u_12_393, u_12_397, u_12_416, u_12_417, u_12_421, u_12_438, u_12_452, u_12_458, e1, e2, e3, e3', e6, e7, e8, tn, w32_id, Int.reduceEq, Int.reduceLT, Int.reduceLE, reduceIte, Int.reduceAdd, Int.reduceSub, Int.reduceMul, Int.reduceNeg, Int.reduceToNat, Bool.false_eq_true, eq_self, if_pos, if_neg, ci, sw0T, sw0D, op2]
            · simp (disch := omega) only [x_6_0, x_34, x_1, x_6_1, x_4_2, x_38_104, x_38_105, x_38_106, x_38_107, x_38_108, x_38_134, x_38_135, x_38_136, x_39_104, x_39_105, x_39_106, x_39_107, x_39_108, x_39_134, x_39_135, x_39_136, x_33, x_65, x_60, x_61, x_36, x_37, x_7_3_I, x_7_3_A, x_7_3_U, x_7_4_I, x_7_4_A, x_7_4_U, x_7_5_I, x_7_5_A, x_7_5_U, x_4_5, x_7_6_I, x_7_6_A, x_7_6_U, x_4_6, x_64, x_4_4, x_12, x_10_4_I, x_10_4_A, x_10_4_U, x_63, x_68, x_4_3, x_47_I, x_47_A, x_69, x_16, x_11, x_18, x_10_3_I, x_10_3_A, x_10_3_U, x_7_7_I, x_7_7_A, x_7_7_U, x_7_8_I, x_7_8_A, x_7_8_U, x_76, x_4_7, x_4_8, x_67, x_17, x_10_5_I, x_10_5_A, x_10_5_U, x_83, sw_n, sw_c, u_12_0, u_12_68, u_12_69, u_12_120, u_12_148, u_12_155, u_12_162, u_12_198, u_12_252, u_12_259, u_12_282, u_12_283, u_12_287, u_12_296, u_12_356, u_12_373, u_12_392, u_12_393, u_12_397, u_12_416, u_12_417, u_12_421, u_12_438, u_12_452, u_12_458, e1, e2, e3, e3', e6, e7, e8, tn, w32_id, Int.reduceEq, Int.reduceLT, Int.reduceLE, reduceIte, Int.reduceAdd, Int.reduceSub, Int.reduceMul, Int.reduceNeg, Int.reduceToNat, Bool.false_eq_true, eq_self, if_pos, if_neg, ci, sw0T, sw0D, op2]
          · rw [h3] at e1 ⊢
            simp (disch := omega) only [x_6_0, x_34, x_1, x_6_1, x_4_2, x_38_104, x_38_105, x_38_106, x_38_107, x_38_108, x_38_134, x_38_135, x_38_136, x_39_104, x_39_105, x_39_106, x_39_107, x_39_108, x_39_134, x_39_135, x_39_136, x_33, x_65, x_60, x_61, x_36, x_37, x_7_3_I, x_7_3_A, x_7_3_U, x_7_4_I, x_7_4_A, x_7_4_U, x_7_5_I, x_7_5_A, x_7_5_U, x_4_5, x_7_6_I, x_7_6_A, x_7_6_U, x_4_6, x_64, x_4_4, x_12, x_10_4_I, x_10_4_A, x_10_4_U, x_63, x_68, x_4_3, x_47_I, x_47_A, x_69, x_16, x_11, x_18, x_10_3_I, x_10_3_A, x_10_3_U, x_7_7_I, x_7_7_A, x_7_7_U, x_7_8_I, x_7_8_A, x_7_8_U, x_76, x_4_7, x_4_8, x_67, x_17, x_10_5_I, x_10_5_A, x_10_5_U, x_83, sw_n, sw_c, u_12_0, u_12_68, u_12_69, u_12_120, u_12_148, u_12_155, u_12_162, u_12_198, u_12_252, u_12_259, u_12_282, u_12_283, u_12_287, u_12_296, u_12_356, u_12_373, u_12_392, u_12_393, u_12_397, u_12_416, u_12_417, u_12_421, u_12_438, u_12_452, u_12_458, e1, e2, e3, e3', e6, e7, e8, tn, w32_id, Int.reduceEq, Int.reduceLT, Int.reduceLE, reduceIte, Int.reduceAdd, Int.reduceSub, Int.reduceMul, Int.reduceNeg, Int.reduceToNat, Bool.false_eq_true, eq_self, if_pos, if_neg, ci, sw0T, sw0D, op2]
          · rw [h3] at e1 ⊢
            simp (disch := omega) only [x_6_0, x_34, x_1, x_6_1, x_4_2, x_38_104, x_38_105, x_38_106, x_38_107, x_38_108, x_38_134, x_38_135, x_38_136, x_39_104, x_39_105, x_39_106, x_39_107, x_39_108, x_39_134, x_39_135, x_39_136, x_33, x_65, x_60, x_61, x_36, x_37, x_7_3_I, x_7_3_A, x_7_3_U, x_7_4_I, x_7_4_A, x_7_4_U, x_7_5_I, x_7_5_A, x_7_5_U, x_4_5, x_7_6_I, x_7_6_A, x_7_6_U, x_4_6, x_64, x_4_4, x_12, x_10_4_I, x_10_4_A, x_10_4_U, x_63, x_68, x_4_3, x_47_I, x_47_A, x_69, x_16, x_11, x_18, x_10_3_I, x_10_3_A, x_10_3_U, x_7_7_I, x_7_7_A, x_7_7_U, x_7_8_I, x_7_8_A, x_7_8_U, x_76, x_4_7, x_4_8, x_67, x_17, x_10_5_I, x_10_5_A, x_10_5_U, x_83, sw_n, sw_c, u_12_0, u_12_68, u_12_69, u_12_120, u_12_148, u_12_155, u_12_162, u_12_198, u_12_252, u_12_259, u_12_282, u_12_283, u_12_287, u_12_296, u_12_356, u_12_373, u_12_392, u_12_393, u_12_397, u_12_416, u_12_417, u_12_421, u_12_438, u_12_452, u_12_458, e1, e2, e3, e3', e6, e7, e8, tn, w32_id, Int.reduceEq, Int.reduceLT, Int.reduceLE, reduceIte, Int.reduceAdd, Int.reduceSub, Int.reduceMul, Int.reduceNeg, Int.reduceToNat, Bool.false_eq_true, eq_self, if_pos, if_neg, ci, sw0T, sw0D, op2]
        · simp only [List.length_cons]; omega
