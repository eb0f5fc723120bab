theorem work_l (lv k s : Nat) (F : Nat → Int) (h : Hp) (n line : Int) (N : Nat) (gn tk : Int) (hF : ∀ i, i < 9 → h 107 k i = F i) (hN : h 109 k 0 = (N : Int)) (hN4 : N ≤ 400) : ∀ (cs : List Int) (pc : Nat) (S S' : List Int) (H : Hp) (x6 x7 x8 : AV), WK h H k S gn tk → pc + cs.length ≤ N → (∀ i, i < cs.length → h 104 k (pc + i) = cs.getD i 0) → (∀ c ∈ cs, okCd c) → S.length ≤ 20 → exs F cs S = some S' →
    ∃ H' y6 y7 y8, run lv 12 88 [aA 1 k, aA 7 s, aI n, aI line, aI (S.length : Int), aI (pc : Int), x6, x7, x8] [] H = run lv 12 88 [aA 1 k, aA 7 s, aI n, aI line, aI (S'.length : Int), aI ((pc + cs.length : Nat) : Int), y6, y7, y8] [] H' ∧ WK h H' k S' gn tk := by
  intro cs
  induction cs with
  | nil =>
    intro pc S S' H x6 x7 x8 w h1 h2 h3 h4 h5
    cases h5
    exact ⟨H, x6, x7, x8, rfl, w⟩
  | cons c cs ih =>
    intro pc S S' H x6 x7 x8 w h1 h2 h3 h4 h5
    unfold exs at h5
    cases hs : st1 F c S with
    | none => rw [hs] at h5; cases h5
    | some S1 =>
      rw [hs] at h5
      simp only [List.length_cons] at h1 h2
      have c0 := h2 0 (by omega)
      obtain ⟨H1, a6, a7, a8, r1, w1, l1⟩ := work_s lv k s F h H n line pc N c S S1 gn tk x6 x7 x8 w hF hN (by omega) hN4 c0 (h3 c List.mem_cons_self) h4 hs
      obtain ⟨H2, b6, b7, b8, r2, w2⟩ := ih (pc + 1) S1 S' H1 a6 a7 a8 w1 (by omega) (by intro i hi; have := h2 (i + 1) (by omega); rw [show pc + 1 + i = pc + (i + 1) by omega, this]; rfl) (fun c hc => h3 c (List.mem_cons_of_mem _ hc)) l1 h5
      refine ⟨H2, b6, b7, b8, ?_, w2⟩
      rw [r1, r2, List.length_cons, show pc + 1 + cs.length = pc + (cs.length + 1) by omega]
def gn1 (F : Nat → Int) (x : LN) : Int := if x.2.2.2 F = true then (if x.1 = 0 then x.2.1 else -x.2.1) else 0
def tk1 (F : Nat → Int) (x : LN) : Bool := x.2.2.2 F && decide (x.1 = 2)
def gainS (F : Nat → Int) : List LN → Int
  | [] => 0
  | x :: L => gn1 F x + gainS F L
def takeS (F : Nat → Int) : List LN → Bool
  | [] => false
  | x :: L => tk1 F x || takeS F L
def boI (b : Bool) : Int := if b = true then 1 else 0
theorem work_e (lv k s : Nat) (F : Nat → Int) (h H : Hp) (n : Int) (line pc N : Nat) (x : LN) (gn : Int) (tk : Bool) (x6 x7 x8 : AV) (w : WK h H k [if x.2.2.2 F = true then 1 else 0] gn (boI tk)) (hN : h 109 k 0 = (N : Int)) (hpc : pc < N) (hN4 : N ≤ 400) (hc : h 104 k pc = 15) (hl : line < 12) (hk : h 105 k line = (x.1 : Int)) (ha : h 106 k line = x.2.1) (g : LnG x) (hg : -1000 ≤ gn ∧ gn ≤ 1000) :
    ∃ H' y6 y7 y8, run lv 12 88 [aA 1 k, aA 7 s, aI n, aI (line : Int), aI 1, aI (pc : Int), x6, x7, x8] [] H = run lv 12 88 [aA 1 k, aA 7 s, aI n, aI ((line + 1 : Nat) : Int), aI 0, aI ((pc + 1 : Nat) : Int), y6, y7, y8] [] H' ∧ WK h H' k [] (gn + gn1 F x) (boI (tk || tk1 F x)) := by
  obtain ⟨w1, w2, w3, w4⟩ := w
  have e1 : H 104 k pc = 15 := by rw [w1 _ _ _ (by omega)]; exact hc
  have e2 : H 109 k 0 = (N : Int) := by rw [w1 _ _ _ (by omega)]; exact hN
  have e3 : H 105 k line = (x.1 : Int) := by rw [w1 _ _ _ (by omega)]; exact hk
  have e4 : H 106 k line = x.2.1 := by rw [w1 _ _ _ (by omega)]; exact ha
  have e5 : H 108 k 0 = if x.2.2.2 F = true then 1 else 0 := by rw [w2 0 (by simp), SV_c]; exact if_pos rfl
  obtain ⟨-, g1, g2, g3, -⟩ := g
  unfold gn1 tk1
  rw [hd_12_88]
  by_cases hb : x.2.2.2 F = true
  · rw [if_pos hb] at e5
    simp only [hb, if_pos, Bool.true_and]
    refine ⟨hset (hset H 111 k 0 (gn + if x.1 = 0 then x.2.1 else -x.2.1)) 112 k 0 (boI (tk || decide (x.1 = 2))), aI 15, x7, x8, ?_, ?_, ?_, ?_, ?_⟩
    · by_cases hz : x.1 = 0
      · have z1 : (x.1 : Int) = 0 := by omega
        have z2 : boI (tk || decide (x.1 = 2)) = boI tk := by rw [hz]; simp
        have z3 : ior (boI tk) 0 = boI tk := by cases tk <;> rfl
        have z4 : boI tk = 0 ∨ boI tk = 1 := by cases tk <;> simp [boI]
        rw [z2, if_pos hz]
        simp (disch := first | omega | exact z4) only [x_6_0, x_34, x_1, x_6_1, x_4_2, x_38_104, x_38_105, x_38_106, x_38_107, x_38_108, x_38_134, x_38_135, x_38_136, x_39_104, x_39_105, x_39_106, x_39_107, x_39_108, x_39_134, x_39_135, x_39_136, x_33, x_65, x_60, x_61, x_36, x_37, x_7_3_I, x_7_3_A, x_7_3_U, x_7_4_I, x_7_4_A, x_7_4_U, x_7_5_I, x_7_5_A, x_7_5_U, x_4_5, x_7_6_I, x_7_6_A, x_7_6_U, x_4_6, x_64, x_4_4, x_12, x_10_4_I, x_10_4_A, x_10_4_U, x_63, x_68, x_4_3, x_47_I, x_47_A, x_69, x_16, x_11, x_18, x_10_3_I, x_10_3_A, x_10_3_U, x_7_7_I, x_7_7_A, x_7_7_U, x_7_8_I, x_7_8_A, x_7_8_U, x_76, x_4_7, x_4_8, x_67, x_17, x_10_5_I, x_10_5_A, x_10_5_U, x_83, sw_n, sw_c, u_12_0, u_12_68, u_12_69, u_12_120, u_12_148, u_12_155, u_12_162, u_12_198, u_12_252, u_12_259, u_12_282, u_12_283, u_12_287, u_12_296, u_12_356, u_12_373, u_12_392, u_12_393, u_12_397, u_12_416, u_12_417, u_12_421, u_12_438, u_12_452, u_12_458, e1, e2, e3, e4, e5, z1, w3, w4, z3, hs_t, tn, w32_id, Int.reduceEq, Int.reduceLT, Int.reduceLE, reduceIte, Int.reduceAdd, Int.reduceSub, Int.reduceMul, Int.reduceNeg, Int.reduceToNat, Bool.false_eq_true, eq_self, if_pos, if_neg, ci]
      · by_cases hy : x.1 = 2
        · have z1 : (x.1 : Int) = 2 := by omega
          have z2 : boI (tk || decide (x.1 = 2)) = 1 := by rw [hy]; simp [boI]
          have z3 : ior (boI tk) 1 = 1 := by cases tk <;> rfl
          rw [z2, if_neg hz]
          simp (disch := omega) only [x_6_0, x_34, x_1, x_6_1, x_4_2, x_38_104, x_38_105, x_38_106, x_38_107, x_38_108, x_38_134, x_38_135, x_38_136, x_39_104, x_39_105, x_39_106, x_39_107, x_39_108, x_39_134, x_39_135, x_39_136, x_33, x_65, x_60, x_61, x_36, x_37, x_7_3_I, x_7_3_A, x_7_3_U, x_7_4_I, x_7_4_A, x_7_4_U, x_7_5_I, x_7_5_A, x_7_5_U, x_4_5, x_7_6_I, x_7_6_A, x_7_6_U, x_4_6, x_64, x_4_4, x_12, x_10_4_I, x_10_4_A, x_10_4_U, x_63, x_68, x_4_3, x_47_I, x_47_A, x_69, x_16, x_11, x_18, x_10_3_I, x_10_3_A, x_10_3_U, x_7_7_I, x_7_7_A, x_7_7_U, x_7_8_I, x_7_8_A, x_7_8_U, x_76, x_4_7, x_4_8, x_67, x_17, x_10_5_I, x_10_5_A, x_10_5_U, x_83, sw_n, sw_c, u_12_0, u_12_68, u_12_69, u_12_120, u_12_148, u_12_155, u_12_162, u_12_198, u_12_252, u_12_259, u_12_282, u_12_283, u_12_287, u_12_296, u_12_356, u_12_373, u_12_392, u_12_393, u_12_397, u_12_416, u_12_417, u_12_421, u_12_438, u_12_452, u_12_458, e1, e2, e3, e4, e5, z1, w3, w4, z3, hs_t, tn, w32_id, Int.reduceEq, Int.reduceLT, Int.reduceLE, reduceIte, Int.reduceAdd, Int.reduceSub, Int.reduceMul, Int.reduceNeg, Int.reduceToNat, Bool.false_eq_true, eq_self, if_pos, if_neg, ci]
        · have z1 : (x.1 : Int) = 1 := by omega
          have z2 : boI (tk || decide (x.1 = 2)) = boI tk := by simp [hy]
          have z3 : ior (boI tk) 0 = boI tk := by cases tk <;> rfl
          have z4 : boI tk = 0 ∨ boI tk = 1 := by cases tk <;> simp [boI]
          rw [z2, if_neg hz]
          simp (disch := first | omega | exact z4) only [x_6_0, x_34, x_1, x_6_1, x_4_2, x_38_104, x_38_105, x_38_106, x_38_107, x_38_108, x_38_134, x_38_135, x_38_136, x_39_104, x_39_105, x_39_106, x_39_107, x_39_108, x_39_134, x_39_135, x_39_136, x_33, x_65, x_60, x_61, x_36, x_37, x_7_3_I, x_7_3_A, x_7_3_U, x_7_4_I, x_7_4_A, x_7_4_U, x_7_5_I, x_7_5_A, x_7_5_U, x_4_5, x_7_6_I, x_7_6_A, x_7_6_U, x_4_6, x_64, x_4_4, x_12, x_10_4_I, x_10_4_A, x_10_4_U, x_63, x_68, x_4_3, x_47_I, x_47_A, x_69, x_16, x_11, x_18, x_10_3_I, x_10_3_A, x_10_3_U, x_7_7_I, x_7_7_A, x_7_7_U, x_7_8_I, x_7_8_A, x_7_8_U, x_76, x_4_7, x_4_8, x_67, x_17, x_10_5_I, x_10_5_A, x_10_5_U, x_83, sw_n, sw_c, u_12_0, u_12_68, u_12_69, u_12_120, u_12_148, u_12_155, u_12_162, u_12_198, u_12_252, u_12_259, u_12_282, u_12_283, u_12_287, u_12_296, u_12_356, u_12_373, u_12_392, u_12_393, u_12_397, u_12_416, u_12_417, u_12_421, u_12_438, u_12_452, u_12_458, e1, e2, e3, e4, e5, z1, w3, w4, z3, hs_t, tn, w32_id, Int.reduceEq, Int.reduceLT, Int.reduceLE, reduceIte, Int.reduceAdd, Int.reduceSub, Int.reduceMul, Int.reduceNeg, Int.reduceToNat, Bool.false_eq_true, eq_self, if_pos, if_neg, ci]
    · intro tt kk i hn
      rw [hs_o (by omega), hs_o (by omega)]
      exact w1 tt kk i hn
    · intro i hi; simp at hi
    · rw [hs_o (by omega), hs_eq]
    · rw [hs_eq]
  · rw [if_neg hb] at e5
    rw [Bool.not_eq_true] at hb
    simp only [hb, Bool.false_eq_true, if_false, Bool.false_and, Bool.or_false, Int.add_zero]
    refine ⟨H, aI 15, x7, x8, ?_, w1, ?_, w3, w4⟩
    · simp (disch := omega) only [x_6_0, x_34, x_1, x_6_1, x_4_2, x_38_104, x_38_105, x_38_106, x_38_107, x_38_108, x_38_134, x_38_135, x_38_136, x_39_104, x_39_105, x_39_106, x_39_107, x_39_108, x_39_134, x_39_135, x_39_136, x_33, x_65, x_60, x_61, x_36, x_37, x_7_3_I, x_7_3_A, x_7_3_U, x_7_4_I, x_7_4_A, x_7_4_U, x_7_5_I, x_7_5_A, x_7_5_U, x_4_5, x_7_6_I, x_7_6_A, x_7_6_U, x_4_6, x_64, x_4_4, x_12, x_10_4_I, x_10_4_A, x_10_4_U, x_63, x_68, x_4_3, x_47_I, x_47_A, x_69, x_16, x_11, x_18, x_10_3_I, x_10_3_A, x_10_3_U, x_7_7_I, x_7_7_A, x_7_7_U, x_7_8_I, x_7_8_A, x_7_8_U, x_76, x_4_7, x_4_8, x_67, x_17, x_10_5_I, x_10_5_A, x_10_5_U, x_83, sw_n, sw_c, u_12_0, u_12_68, u_12_69, u_12_120, u_12_148, u_12_155, u_12_162, u_12_198, u_12_252, u_12_259, u_12_282, u_12_283, u_12_287, u_12_296, u_12_356, u_12_373, u_12_392, u_12_393, u_12_397, u_12_416, u_12_417, u_12_421, u_12_438, u_12_452, u_12_458, e1, e2, e3, e4, e5, tn, w32_id, Int.reduceEq, Int.reduceLT, Int.reduceLE, reduceIte, Int.reduceAdd, Int.reduceSub, Int.reduceMul, Int.reduceNeg, Int.reduceToNat, Bool.false_eq_true, eq_self, if_pos, if_neg, ci]
    · intro i hi; simp at hi
