/-! HANDS ON KEYS. -/
def hnF (K : Nat → Bool) (r : Int) : Nat → Int × Int
  | 0 => (0, -1)
  | i + 1 => if (hnF K r i).2 < (i : Int) ∧ K i = true then ((hnF K r i).1 + 1, (i : Int) + 2 * r) else hnF K r i
theorem hnF_b {K : Nat → Bool} {r : Int} (h0 : 0 ≤ r) (h1 : r ≤ 40) : ∀ i, 0 ≤ (hnF K r i).1 ∧ (hnF K r i).1 ≤ (i : Int) ∧ -1 ≤ (hnF K r i).2 ∧ (hnF K r i).2 ≤ (i : Int) + 80 := by
  intro i
  induction i with
  | zero => show 0 ≤ (0 : Int) ∧ (0 : Int) ≤ 0 ∧ -1 ≤ (-1 : Int) ∧ (-1 : Int) ≤ 0 + 80; omega
  | succ i ih =>
    simp only [hnF]
    split
    · refine ⟨?_, ?_, ?_, ?_⟩ <;> simp only [] <;> omega
    · omega
theorem jc10 : jcmp 1 0 = 1 := rfl
theorem jc00 : jcmp 0 0 = 0 := rfl
theorem GN_key {M : Nat → Int} {N : Nat} (G : GN M N) : ∀ i, i < N → 0 ≤ M (50 + 4 * i + 1) ∧ M (50 + 4 * i + 1) ≤ 63 := fun i hi => (G.2.2.1 i hi).2.1
theorem ag_hands (lc lr H N : Nat) (p r : Int) (h : Hp) (I : INV h H N) : AGt t20 (fun h => cl (lc + 80) 109 [aA 11 0, aI p, aI r] h) (fun h => cl (lr + 80) 258 [aA 12 0, aI p, aI r] h) h := by
  have hk := GN_key I.1.2.1.2.1
  by_cases c : 0 ≤ p ∧ p < 12
  · by_cases d : 0 ≤ r ∧ r ≤ 40
    · refine AGt_q I (v := (hnF (fun j => anyB (thB (h 187 0) (j : Int) p (-1)) N) r 64).1) ⟨h, ?_, Sm_r _ _⟩ (fun g s J => ⟨hset g 186 0 0 0, ?_, hs_eq _ _ _ _ _, rsc_186 g 0⟩)
      · show cl (lc + 80) _ _ _ = _
        have cb := checkBeat_c (lc + 78) p h
        rw [if_pos c] at cb
        have ka := keysAt_c (lc + 77) 0 N (h 187 0) p h I.1.1.2.1 hk
        have kb := oKs_bit (b := p) hk
        have kl := oKs_lt (b := p) hk
        rw [in_109]
        simp (disch := omega) only [x_4_1, x_80_1_d0, x_80_1_d1, x_80_1_d2, x_80_1_d3, x_80_1_d4, x_4_2, x_70, x_1, x_67, x_61, x_84, x_6_0, x_35_0, x_79_2_7_d0, x_79_2_7_d1, x_79_2_7_d2, x_79_2_7_d3, x_79_2_7_d4, x_8_3_I, x_8_3_A, x_8_3_U, x_7_5_I, x_7_5_A, x_7_5_U, x_7_6_I, x_7_6_A, x_7_6_U, x_7_7_I, x_7_7_A, x_7_7_U, x_4_7, x_65, x_4_6, x_5_3, x_30, x_2, x_27, x_32, x_68, x_10_5_I, x_10_5_A, x_10_5_U, x_13, x_11, x_10_7_I, x_10_7_A, x_10_7_U, x_60, x_4_5, x_82, cb_ri, cb_rl, cb_rv, cb_th, cb_ite, ps_s, ps_n, u_109_0, u_109_14, u_109_25, u_109_79, u_109_85, cb, ka, Int.reduceEq, Int.reduceLT, Int.reduceLE, reduceIte, Int.reduceAdd, Int.reduceSub, Int.reduceMul, Int.reduceNeg, Int.reduceToNat, Bool.false_eq_true, eq_self, if_pos, if_neg]
        refine loop_up (F := fun i => run (lc + 79) 109 43 [aA 11 0, aI p, aI r, aJ (kJ (oKs (h 187 0) p N)), none, aI (hnF (fun j => anyB (thB (h 187 0) (j : Int) p (-1)) N) r i).1, aI (hnF (fun j => anyB (thB (h 187 0) (j : Int) p (-1)) N) r i).2, aI (i : Int)] [] h) (N := 64) ?_ ?_ 0 (by omega)
        · intro i hi
          have b := hnF_b (K := fun j => anyB (thB (h 187 0) (j : Int) p (-1)) N) d.1 d.2 i
          have jb := jbit_k kl hi
          rw [kb i] at jb
          show run _ _ _ _ _ _ = run _ _ _ _ _ _
          simp only [hnF]
          generalize hnF (fun j => anyB (thB (h 187 0) (j : Int) p (-1)) N) r i = x at b ⊢
          rw [hd_109_43]
          by_cases c1 : x.2 < (i : Int)
          · by_cases c2 : anyB (thB (h 187 0) (i : Int) p (-1)) N = true
            · rw [if_pos ⟨c1, c2⟩]
              rw [if_pos c2] at jb
              simp (disch := omega) only [x_4_1, x_80_1_d0, x_80_1_d1, x_80_1_d2, x_80_1_d3, x_80_1_d4, x_4_2, x_70, x_1, x_67, x_61, x_84, x_6_0, x_35_0, x_79_2_7_d0, x_79_2_7_d1, x_79_2_7_d2, x_79_2_7_d3, x_79_2_7_d4, x_8_3_I, x_8_3_A, x_8_3_U, x_7_5_I, x_7_5_A, x_7_5_U, x_7_6_I, x_7_6_A, x_7_6_U, x_7_7_I, x_7_7_A, x_7_7_U, x_4_7, x_65, x_4_6, x_5_3, x_30, x_2, x_27, x_32, x_68, x_10_5_I, x_10_5_A, x_10_5_U, x_13, x_11, x_10_7_I, x_10_7_A, x_10_7_U, x_60, x_4_5, x_82, cb_ri, cb_rl, cb_rv, cb_th, cb_ite, ps_s, ps_n, u_109_0, u_109_14, u_109_25, u_109_79, u_109_85, jb, jc10, Int.reduceEq, Int.reduceLT, Int.reduceLE, reduceIte, Int.reduceAdd, Int.reduceSub, Int.reduceMul, Int.reduceNeg, Int.reduceToNat, Bool.false_eq_true, eq_self, if_pos, if_neg, ci, w32_id]
            · rw [if_neg (fun z => c2 z.2)]
              rw [if_neg c2] at jb
              simp (disch := omega) only [x_4_1, x_80_1_d0, x_80_1_d1, x_80_1_d2, x_80_1_d3, x_80_1_d4, x_4_2, x_70, x_1, x_67, x_61, x_84, x_6_0, x_35_0, x_79_2_7_d0, x_79_2_7_d1, x_79_2_7_d2, x_79_2_7_d3, x_79_2_7_d4, x_8_3_I, x_8_3_A, x_8_3_U, x_7_5_I, x_7_5_A, x_7_5_U, x_7_6_I, x_7_6_A, x_7_6_U, x_7_7_I, x_7_7_A, x_7_7_U, x_4_7, x_65, x_4_6, x_5_3, x_30, x_2, x_27, x_32, x_68, x_10_5_I, x_10_5_A, x_10_5_U, x_13, x_11, x_10_7_I, x_10_7_A, x_10_7_U, x_60, x_4_5, x_82, cb_ri, cb_rl, cb_rv, cb_th, cb_ite, ps_s, ps_n, u_109_0, u_109_14, u_109_25, u_109_79, u_109_85, jb, jc00, Int.reduceEq, Int.reduceLT, Int.reduceLE, reduceIte, Int.reduceAdd, Int.reduceSub, Int.reduceMul, Int.reduceNeg, Int.reduceToNat, Bool.false_eq_true, eq_self, if_pos, if_neg, ci, w32_id]
          · rw [if_neg (fun z => c1 z.1)]
            simp (disch := omega) only [x_4_1, x_80_1_d0, x_80_1_d1, x_80_1_d2, x_80_1_d3, x_80_1_d4, x_4_2, x_70, x_1, x_67, x_61, x_84, x_6_0, x_35_0, x_79_2_7_d0, x_79_2_7_d1, x_79_2_7_d2, x_79_2_7_d3, x_79_2_7_d4, x_8_3_I, x_8_3_A, x_8_3_U, x_7_5_I, x_7_5_A, x_7_5_U, x_7_6_I, x_7_6_A, x_7_6_U, x_7_7_I, x_7_7_A, x_7_7_U, x_4_7, x_65, x_4_6, x_5_3, x_30, x_2, x_27, x_32, x_68, x_10_5_I, x_10_5_A, x_10_5_U, x_13, x_11, x_10_7_I, x_10_7_A, x_10_7_U, x_60, x_4_5, x_82, cb_ri, cb_rl, cb_rv, cb_th, cb_ite, ps_s, ps_n, u_109_0, u_109_14, u_109_25, u_109_79, u_109_85, Int.reduceEq, Int.reduceLT, Int.reduceLE, reduceIte, Int.reduceAdd, Int.reduceSub, Int.reduceMul, Int.reduceNeg, Int.reduceToNat, Bool.false_eq_true, eq_self, if_pos, if_neg, ci, w32_id]
        · show run _ _ _ _ _ _ = _
          rw [hd_109_43]
          simp (disch := omega) only [x_4_1, x_80_1_d0, x_80_1_d1, x_80_1_d2, x_80_1_d3, x_80_1_d4, x_4_2, x_70, x_1, x_67, x_61, x_84, x_6_0, x_35_0, x_79_2_7_d0, x_79_2_7_d1, x_79_2_7_d2, x_79_2_7_d3, x_79_2_7_d4, x_8_3_I, x_8_3_A, x_8_3_U, x_7_5_I, x_7_5_A, x_7_5_U, x_7_6_I, x_7_6_A, x_7_6_U, x_7_7_I, x_7_7_A, x_7_7_U, x_4_7, x_65, x_4_6, x_5_3, x_30, x_2, x_27, x_32, x_68, x_10_5_I, x_10_5_A, x_10_5_U, x_13, x_11, x_10_7_I, x_10_7_A, x_10_7_U, x_60, x_4_5, x_82, cb_ri, cb_rl, cb_rv, cb_th, cb_ite, ps_s, ps_n, u_109_0, u_109_14, u_109_25, u_109_79, u_109_85, Int.reduceEq, Int.reduceLT, Int.reduceLE, reduceIte, Int.reduceAdd, Int.reduceSub, Int.reduceMul, Int.reduceNeg, Int.reduceToNat, Bool.false_eq_true, eq_self, if_pos, if_neg]
      · show cl (lr + 80) _ _ _ = _
        have ib := isBeat_c (lr + 77) p g
        rw [if_pos c] at ib
        have ii := isIn_c (lr + 78) r 0 40 g
        rw [if_pos d] at ii
        have n4 : hset g 186 0 0 0 187 0 4 = (N : Int) := by rw [h186_m]; exact J.1.2.1.2.1.1
        rw [in_258]
        simp (disch := omega) only [x_6_0, x_4_1, x_80_1_d0, x_80_1_d1, x_80_1_d2, x_80_1_d3, x_80_1_d4, x_69, x_1, x_60, x_4_2, x_80_3_d0, x_80_3_d1, x_80_3_d2, x_80_3_d3, x_80_3_d4, x_61, x_36, x_33, x_73, x_82, x_7_3_I, x_7_3_A, x_7_3_U, x_7_4_I, x_7_4_A, x_7_4_U, x_7_5_I, x_7_5_A, x_7_5_U, x_4_5, x_65, x_4_4, x_67, x_79_4_12_d0, x_79_4_12_d1, x_79_4_12_d2, x_79_4_12_d3, x_79_4_12_d4, x_10_3_I, x_10_3_A, x_10_3_U, x_13, x_11, x_10_5_I, x_10_5_A, x_10_5_U, x_4_3, cb_ri, cb_rl, cb_rv, cb_th, cb_ite, ps_s, ps_n, u_258_0, u_258_12, u_258_26, u_258_27, u_258_39, u_258_75, u_258_86, u_258_92, ib, ii, hs_eq, Int.reduceEq, Int.reduceLT, Int.reduceLE, reduceIte, Int.reduceAdd, Int.reduceSub, Int.reduceMul, Int.reduceNeg, Int.reduceToNat, Bool.false_eq_true, eq_self, if_pos, if_neg]
        refine loop_up (F := fun i => run (lr + 79) 258 47 [aA 12 0, aI p, aI r, aI (hnF (fun j => anyB (thB (h 187 0) (j : Int) p (-1)) N) r i).1, aI (hnF (fun j => anyB (thB (h 187 0) (j : Int) p (-1)) N) r i).2, aI (i : Int)] [] (hset g 186 0 0 0)) (N := 64) ?_ ?_ 0 (by omega)
        · intro i hi
          have b := hnF_b (K := fun j => anyB (thB (h 187 0) (j : Int) p (-1)) N) d.1 d.2 i
          have it := isThere_c (lr + 76) N (i : Int) p (-1) (hset g 186 0 0 0) n4 J.1.2.1.2.1.2.1
          rw [h186_m, Sm_187 s scr_187] at it
          show run _ _ _ _ _ _ = run _ _ _ _ _ _
          simp only [hnF]
          generalize hnF (fun j => anyB (thB (h 187 0) (j : Int) p (-1)) N) r i = x at b ⊢
          rw [hd_258_47]
          by_cases c1 : x.2 < (i : Int)
          · by_cases c2 : anyB (thB (h 187 0) (i : Int) p (-1)) N = true
            · rw [if_pos ⟨c1, c2⟩]
              rw [if_pos c2] at it
              simp (disch := omega) only [x_6_0, x_4_1, x_80_1_d0, x_80_1_d1, x_80_1_d2, x_80_1_d3, x_80_1_d4, x_69, x_1, x_60, x_4_2, x_80_3_d0, x_80_3_d1, x_80_3_d2, x_80_3_d3, x_80_3_d4, x_61, x_36, x_33, x_73, x_82, x_7_3_I, x_7_3_A, x_7_3_U, x_7_4_I, x_7_4_A, x_7_4_U, x_7_5_I, x_7_5_A, x_7_5_U, x_4_5, x_65, x_4_4, x_67, x_79_4_12_d0, x_79_4_12_d1, x_79_4_12_d2, x_79_4_12_d3, x_79_4_12_d4, x_10_3_I, x_10_3_A, x_10_3_U, x_13, x_11, x_10_5_I, x_10_5_A, x_10_5_U, x_4_3, cb_ri, cb_rl, cb_rv, cb_th, cb_ite, ps_s, ps_n, u_258_0, u_258_12, u_258_26, u_258_27, u_258_39, u_258_75, u_258_86, u_258_92, it, Int.reduceEq, Int.reduceLT, Int.reduceLE, reduceIte, Int.reduceAdd, Int.reduceSub, Int.reduceMul, Int.reduceNeg, Int.reduceToNat, Bool.false_eq_true, eq_self, if_pos, if_neg, ci, w32_id]
            · rw [if_neg (fun z => c2 z.2)]
              rw [if_neg c2] at it
              simp (disch := omega) only [x_6_0, x_4_1, x_80_1_d0, x_80_1_d1, x_80_1_d2, x_80_1_d3, x_80_1_d4, x_69, x_1, x_60, x_4_2, x_80_3_d0, x_80_3_d1, x_80_3_d2, x_80_3_d3, x_80_3_d4, x_61, x_36, x_33, x_73, x_82, x_7_3_I, x_7_3_A, x_7_3_U, x_7_4_I, x_7_4_A, x_7_4_U, x_7_5_I, x_7_5_A, x_7_5_U, x_4_5, x_65, x_4_4, x_67, x_79_4_12_d0, x_79_4_12_d1, x_79_4_12_d2, x_79_4_12_d3, x_79_4_12_d4, x_10_3_I, x_10_3_A, x_10_3_U, x_13, x_11, x_10_5_I, x_10_5_A, x_10_5_U, x_4_3, cb_ri, cb_rl, cb_rv, cb_th, cb_ite, ps_s, ps_n, u_258_0, u_258_12, u_258_26, u_258_27, u_258_39, u_258_75, u_258_86, u_258_92, it, Int.reduceEq, Int.reduceLT, Int.reduceLE, reduceIte, Int.reduceAdd, Int.reduceSub, Int.reduceMul, Int.reduceNeg, Int.reduceToNat, Bool.false_eq_true, eq_self, if_pos, if_neg, ci, w32_id]
          · rw [if_neg (fun z => c1 z.1)]
            simp (disch := omega) only [x_6_0, x_4_1, x_80_1_d0, x_80_1_d1, x_80_1_d2, x_80_1_d3, x_80_1_d4, x_69, x_1, x_60, x_4_2, x_80_3_d0, x_80_3_d1, x_80_3_d2, x_80_3_d3, x_80_3_d4, x_61, x_36, x_33, x_73, x_82, x_7_3_I, x_7_3_A, x_7_3_U, x_7_4_I, x_7_4_A, x_7_4_U, x_7_5_I, x_7_5_A, x_7_5_U, x_4_5, x_65, x_4_4, x_67, x_79_4_12_d0, x_79_4_12_d1, x_79_4_12_d2, x_79_4_12_d3, x_79_4_12_d4, x_10_3_I, x_10_3_A, x_10_3_U, x_13, x_11, x_10_5_I, x_10_5_A, x_10_5_U, x_4_3, cb_ri, cb_rl, cb_rv, cb_th, cb_ite, ps_s, ps_n, u_258_0, u_258_12, u_258_26, u_258_27, u_258_39, u_258_75, u_258_86, u_258_92, Int.reduceEq, Int.reduceLT, Int.reduceLE, reduceIte, Int.reduceAdd, Int.reduceSub, Int.reduceMul, Int.reduceNeg, Int.reduceToNat, Bool.false_eq_true, eq_self, if_pos, if_neg, ci, w32_id]
        · show run _ _ _ _ _ _ = _
          rw [hd_258_47]
          simp (disch := omega) only [x_6_0, x_4_1, x_80_1_d0, x_80_1_d1, x_80_1_d2, x_80_1_d3, x_80_1_d4, x_69, x_1, x_60, x_4_2, x_80_3_d0, x_80_3_d1, x_80_3_d2, x_80_3_d3, x_80_3_d4, x_61, x_36, x_33, x_73, x_82, x_7_3_I, x_7_3_A, x_7_3_U, x_7_4_I, x_7_4_A, x_7_4_U, x_7_5_I, x_7_5_A, x_7_5_U, x_4_5, x_65, x_4_4, x_67, x_79_4_12_d0, x_79_4_12_d1, x_79_4_12_d2, x_79_4_12_d3, x_79_4_12_d4, x_10_3_I, x_10_3_A, x_10_3_U, x_13, x_11, x_10_5_I, x_10_5_A, x_10_5_U, x_4_3, cb_ri, cb_rl, cb_rv, cb_th, cb_ite, ps_s, ps_n, u_258_0, u_258_12, u_258_26, u_258_27, u_258_39, u_258_75, u_258_86, u_258_92, Int.reduceEq, Int.reduceLT, Int.reduceLE, reduceIte, Int.reduceAdd, Int.reduceSub, Int.reduceMul, Int.reduceNeg, Int.reduceToNat, Bool.false_eq_true, eq_self, if_pos, if_neg]
    · refine AGt_e I 0 (by decide) ⟨h, ?_, Sm_r _ _⟩ (fun g s J => ⟨0, hset g 186 0 0 2, ?_, hs_eq _ _ _ _ _, rsc_186 g 2⟩)
      · show cl (lc + 80) _ _ _ = _
        have cb := checkBeat_c (lc + 78) p h
        rw [if_pos c] at cb
        rw [in_109]
        by_cases d2 : r < 0
        · simp (disch := omega) only [x_4_1, x_80_1_d0, x_80_1_d1, x_80_1_d2, x_80_1_d3, x_80_1_d4, x_4_2, x_70, x_1, x_67, x_61, x_84, x_6_0, x_35_0, x_79_2_7_d0, x_79_2_7_d1, x_79_2_7_d2, x_79_2_7_d3, x_79_2_7_d4, x_8_3_I, x_8_3_A, x_8_3_U, x_7_5_I, x_7_5_A, x_7_5_U, x_7_6_I, x_7_6_A, x_7_6_U, x_7_7_I, x_7_7_A, x_7_7_U, x_4_7, x_65, x_4_6, x_5_3, x_30, x_2, x_27, x_32, x_68, x_10_5_I, x_10_5_A, x_10_5_U, x_13, x_11, x_10_7_I, x_10_7_A, x_10_7_U, x_60, x_4_5, x_82, cb_ri, cb_rl, cb_rv, cb_th, cb_ite, ps_s, ps_n, u_109_0, u_109_14, u_109_25, u_109_79, u_109_85, cb, Int.reduceEq, Int.reduceLT, Int.reduceLE, reduceIte, Int.reduceAdd, Int.reduceSub, Int.reduceMul, Int.reduceNeg, Int.reduceToNat, Bool.false_eq_true, eq_self, if_pos, if_neg]
        · simp (disch := omega) only [x_4_1, x_80_1_d0, x_80_1_d1, x_80_1_d2, x_80_1_d3, x_80_1_d4, x_4_2, x_70, x_1, x_67, x_61, x_84, x_6_0, x_35_0, x_79_2_7_d0, x_79_2_7_d1, x_79_2_7_d2, x_79_2_7_d3, x_79_2_7_d4, x_8_3_I, x_8_3_A, x_8_3_U, x_7_5_I, x_7_5_A, x_7_5_U, x_7_6_I, x_7_6_A, x_7_6_U, x_7_7_I, x_7_7_A, x_7_7_U, x_4_7, x_65, x_4_6, x_5_3, x_30, x_2, x_27, x_32, x_68, x_10_5_I, x_10_5_A, x_10_5_U, x_13, x_11, x_10_7_I, x_10_7_A, x_10_7_U, x_60, x_4_5, x_82, cb_ri, cb_rl, cb_rv, cb_th, cb_ite, ps_s, ps_n, u_109_0, u_109_14, u_109_25, u_109_79, u_109_85, cb, Int.reduceEq, Int.reduceLT, Int.reduceLE, reduceIte, Int.reduceAdd, Int.reduceSub, Int.reduceMul, Int.reduceNeg, Int.reduceToNat, Bool.false_eq_true, eq_self, if_pos, if_neg]
      · show cl (lr + 80) _ _ _ = _
        have ib := isBeat_c (lr + 77) p g
        rw [if_pos c] at ib
        have ii := isIn_c (lr + 78) r 0 40 g
        rw [if_neg d] at ii
        rw [in_258]
        simp (disch := omega) only [x_6_0, x_4_1, x_80_1_d0, x_80_1_d1, x_80_1_d2, x_80_1_d3, x_80_1_d4, x_69, x_1, x_60, x_4_2, x_80_3_d0, x_80_3_d1, x_80_3_d2, x_80_3_d3, x_80_3_d4, x_61, x_36, x_33, x_73, x_82, x_7_3_I, x_7_3_A, x_7_3_U, x_7_4_I, x_7_4_A, x_7_4_U, x_7_5_I, x_7_5_A, x_7_5_U, x_4_5, x_65, x_4_4, x_67, x_79_4_12_d0, x_79_4_12_d1, x_79_4_12_d2, x_79_4_12_d3, x_79_4_12_d4, x_10_3_I, x_10_3_A, x_10_3_U, x_13, x_11, x_10_5_I, x_10_5_A, x_10_5_U, x_4_3, cb_ri, cb_rl, cb_rv, cb_th, cb_ite, ps_s, ps_n, u_258_0, u_258_12, u_258_26, u_258_27, u_258_39, u_258_75, u_258_86, u_258_92, ib, ii, hs_eq, Int.reduceEq, Int.reduceLT, Int.reduceLE, reduceIte, Int.reduceAdd, Int.reduceSub, Int.reduceMul, Int.reduceNeg, Int.reduceToNat, Bool.false_eq_true, eq_self, if_pos, if_neg]
  · refine AGt_e I 2 (by decide) ⟨h, ?_, Sm_r _ _⟩ (fun g s J => ⟨0, hset g 186 0 0 1, ?_, hs_eq _ _ _ _ _, rsc_186 g 1⟩)
    · show cl (lc + 80) _ _ _ = _
      have cb := checkBeat_c (lc + 78) p h
      rw [if_neg c] at cb
      rw [in_109]
      simp (disch := omega) only [x_4_1, x_80_1_d0, x_80_1_d1, x_80_1_d2, x_80_1_d3, x_80_1_d4, x_4_2, x_70, x_1, x_67, x_61, x_84, x_6_0, x_35_0, x_79_2_7_d0, x_79_2_7_d1, x_79_2_7_d2, x_79_2_7_d3, x_79_2_7_d4, x_8_3_I, x_8_3_A, x_8_3_U, x_7_5_I, x_7_5_A, x_7_5_U, x_7_6_I, x_7_6_A, x_7_6_U, x_7_7_I, x_7_7_A, x_7_7_U, x_4_7, x_65, x_4_6, x_5_3, x_30, x_2, x_27, x_32, x_68, x_10_5_I, x_10_5_A, x_10_5_U, x_13, x_11, x_10_7_I, x_10_7_A, x_10_7_U, x_60, x_4_5, x_82, cb_ri, cb_rl, cb_rv, cb_th, cb_ite, ps_s, ps_n, u_109_0, u_109_14, u_109_25, u_109_79, u_109_85, cb]
    · show cl (lr + 80) _ _ _ = _
      have ib := isBeat_c (lr + 77) p g
      rw [if_neg c] at ib
      rw [in_258]
      simp (disch := omega) only [x_6_0, x_4_1, x_80_1_d0, x_80_1_d1, x_80_1_d2, x_80_1_d3, x_80_1_d4, x_69, x_1, x_60, x_4_2, x_80_3_d0, x_80_3_d1, x_80_3_d2, x_80_3_d3, x_80_3_d4, x_61, x_36, x_33, x_73, x_82, x_7_3_I, x_7_3_A, x_7_3_U, x_7_4_I, x_7_4_A, x_7_4_U, x_7_5_I, x_7_5_A, x_7_5_U, x_4_5, x_65, x_4_4, x_67, x_79_4_12_d0, x_79_4_12_d1, x_79_4_12_d2, x_79_4_12_d3, x_79_4_12_d4, x_10_3_I, x_10_3_A, x_10_3_U, x_13, x_11, x_10_5_I, x_10_5_A, x_10_5_U, x_4_3, cb_ri, cb_rl, cb_rv, cb_th, cb_ite, ps_s, ps_n, u_258_0, u_258_12, u_258_26, u_258_27, u_258_39, u_258_75, u_258_86, u_258_92, ib, hs_eq, Int.reduceEq, Int.reduceLT, Int.reduceLE, reduceIte, Int.reduceAdd, Int.reduceSub, Int.reduceMul, Int.reduceNeg, Int.reduceToNat, Bool.false_eq_true, eq_self, if_pos, if_neg]
