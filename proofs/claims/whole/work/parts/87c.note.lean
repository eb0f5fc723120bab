/-! QUESTIONS OF A NOTE; what hands can have; the log. -/
theorem inH {g : Hp} {H N : Nat} (J : INV g H N) (lv : Nat) (p : Int) : cl (lv + 2) 176 [aA 12 0, aI p] g = ri (if 0 ≤ p ∧ p < H then 1 else 0) g := isHand_c lv H p g J.1.2.1.1.1 J.1.2.1.1.2.1
theorem inN {g : Hp} {H N : Nat} (J : INV g H N) (lv : Nat) (p : Int) : cl (lv + 2) 177 [aA 12 0, aI p] g = ri (if 0 ≤ p ∧ p < N then 1 else 0) g := isNote_c lv N p g J.1.2.1.2.1.1 J.1.2.1.2.1.2.1
theorem ag_note (lc lr H N : Nat) (p w : Int) (h : Hp) (I : INV h H N) : AGt t24 (fun h => cl (lc + 80) 90 [aA 11 0, aI p, aI w] h) (fun h => cl (lr + 80) 234 [aA 12 0, aI p, aI w] h) h := by
  have hN := I.1.2.1.2.1.2.1
  have ch := checkNote_c (lc + 78) N p h I.1.1.2.1.1
  obtain ⟨L, W, hL, hW, hl⟩ := INV_law I
  by_cases c : 0 ≤ p ∧ p < N
  · rw [if_pos c] at ch
    obtain ⟨i, rfl⟩ : ∃ i : Nat, p = (i : Int) := ⟨p.toNat, by omega⟩
    have hi : i < N := by omega
    obtain ⟨p0, p1, p2⟩ := I.1.1.2.1.2.2.2 i hi
    have ih : ∀ g, INV g H N → cl (lr + 79) 177 [aA 12 0, aI (i : Int)] g = ri 1 g := fun g J => by
      have := inN J (lr + 77) (i : Int)
      rw [if_pos c] at this; exact this
    by_cases cw : 0 ≤ w ∧ w < 5
    · obtain ⟨f, rfl⟩ : ∃ f : Nat, w = (f : Int) := ⟨w.toNat, by omega⟩
      have iw : ∀ g : Hp, cl (lr + 79) 168 [aI (f : Int), aI 0, aI 4] g = ri 1 g := fun g => by have := isIn_c (lr + 78) (f : Int) 0 4 g; rw [if_pos (by omega)] at this; exact this
      by_cases c6 : f < 4
      · have vv : ∀ g, Sm scr h g → INV g H N → ∃ h2, cl (lr + 80) 234 [aA 12 0, aI (i : Int), aI (f : Int)] g = ri (h 187 0 (50 + 4 * i + f)) h2 ∧ h2 186 0 0 = 0 ∧ Sm rsc g h2 := by
          intro g s J
          have it := ofNote_c (lr + 78) i f (hset g 186 0 0 0) (by omega) c6
          rw [h186_m, Sm_187 s scr_187] at it
          refine ⟨hset g 186 0 0 0, ?_, hs_eq _ _ _ _ _, rsc_186 g 0⟩
          rw [in_234]
          simp (disch := omega) only [x_6_0, x_4_1, x_79_2_12_d0, x_79_2_12_d1, x_79_2_12_d2, x_79_2_12_d3, x_79_2_12_d4, x_69, x_1, x_60, x_4_2, x_80_3_d0, x_80_3_d1, x_80_3_d2, x_80_3_d3, x_80_3_d4, x_61, x_36, x_33, x_73, x_82, x_65, x_79_3_12_d0, x_79_3_12_d1, x_79_3_12_d2, x_79_3_12_d3, x_79_3_12_d4, x_68, cb_ri, cb_rl, cb_rv, cb_th, cb_ite, ps_s, ps_n, u_234_0, u_234_13, u_234_26, u_234_27, u_234_39, u_234_53, u_234_65, u_234_66, ih g J, iw, hs_eq, it, Int.reduceEq, Int.reduceLT, Int.reduceLE, reduceIte, Int.reduceAdd, Int.reduceSub, Int.reduceMul, Int.reduceNeg, Int.reduceToNat, Bool.false_eq_true, eq_self, if_pos, if_neg]
        refine AGt_q I (v := h 187 0 (50 + 4 * i + f)) ⟨h, ?_, Sm_r _ _⟩ vv
        show cl (lc + 80) _ _ _ = _
        rw [in_90]
        have hf : f = 0 ∨ f = 1 ∨ f = 2 ∨ f = 3 := by omega
        rcases hf with rfl | rfl | rfl | rfl
        · simp (disch := omega) only [x_6_0, x_4_1, x_79_2_11_d0, x_79_2_11_d1, x_79_2_11_d2, x_79_2_11_d3, x_79_2_11_d4, x_4_2, x_76, x_35_0, x_34, x_38_134, x_38_135, x_38_136, x_82, x_33, x_21, x_1, x_17, x_79_3_1_d0, x_79_3_1_d1, x_79_3_1_d2, x_79_3_1_d3, x_79_3_1_d4, x_68, x_60, x_61, x_84, cb_ri, cb_rl, cb_rv, cb_th, cb_ite, ps_s, ps_n, sw_n, sw_c, u_90_0, u_90_40, u_90_50, u_90_60, u_90_70, u_90_82, u_90_101, u_90_102, u_90_103, ch, sw4D, sw4T, tn, p0, Int.reduceEq, Int.reduceLT, Int.reduceLE, reduceIte, Int.reduceAdd, Int.reduceSub, Int.reduceMul, Int.reduceNeg, Int.reduceToNat, Bool.false_eq_true, eq_self, if_pos, if_neg, Int.natCast_zero]
          rfl
        · simp (disch := omega) only [x_6_0, x_4_1, x_79_2_11_d0, x_79_2_11_d1, x_79_2_11_d2, x_79_2_11_d3, x_79_2_11_d4, x_4_2, x_76, x_35_0, x_34, x_38_134, x_38_135, x_38_136, x_82, x_33, x_21, x_1, x_17, x_79_3_1_d0, x_79_3_1_d1, x_79_3_1_d2, x_79_3_1_d3, x_79_3_1_d4, x_68, x_60, x_61, x_84, cb_ri, cb_rl, cb_rv, cb_th, cb_ite, ps_s, ps_n, sw_n, sw_c, u_90_0, u_90_40, u_90_50, u_90_60, u_90_70, u_90_82, u_90_101, u_90_102, u_90_103, ch, sw4D, sw4T, tn, p1, Int.reduceEq, Int.reduceLT, Int.reduceLE, reduceIte, Int.reduceAdd, Int.reduceSub, Int.reduceMul, Int.reduceNeg, Int.reduceToNat, Bool.false_eq_true, eq_self, if_pos, if_neg, Int.natCast_one]
        · have e2 : ((2 : Nat) : Int) = 2 := rfl
          simp (disch := omega) only [x_6_0, x_4_1, x_79_2_11_d0, x_79_2_11_d1, x_79_2_11_d2, x_79_2_11_d3, x_79_2_11_d4, x_4_2, x_76, x_35_0, x_34, x_38_134, x_38_135, x_38_136, x_82, x_33, x_21, x_1, x_17, x_79_3_1_d0, x_79_3_1_d1, x_79_3_1_d2, x_79_3_1_d3, x_79_3_1_d4, x_68, x_60, x_61, x_84, cb_ri, cb_rl, cb_rv, cb_th, cb_ite, ps_s, ps_n, sw_n, sw_c, u_90_0, u_90_40, u_90_50, u_90_60, u_90_70, u_90_82, u_90_101, u_90_102, u_90_103, ch, sw4D, sw4T, tn, p2, e2, Int.reduceEq, Int.reduceLT, Int.reduceLE, reduceIte, Int.reduceAdd, Int.reduceSub, Int.reduceMul, Int.reduceNeg, Int.reduceToNat, Bool.false_eq_true, eq_self, if_pos, if_neg]
        · have e2 : ((3 : Nat) : Int) = 3 := rfl
          obtain ⟨cc, c1, c2, c3⟩ := I.1.1.2.1.2.2.1
          have bt := bit_n (a := cc) (i := i) (by omega) (by omega)
          rw [c3 i hi] at bt
          have gb := (I.1.2.1.2.1.2.2.1 i hi).2.2.2
          have bv : (if (!stB (h 187 0) i) = true then (1 : Int) else 0) = h 187 0 (50 + 4 * i + 3) := by
            unfold stB
            rcases gb with z | z
            · simp [z]
            · simp [z]
          rw [bv] at bt
          simp (disch := omega) only [x_6_0, x_4_1, x_79_2_11_d0, x_79_2_11_d1, x_79_2_11_d2, x_79_2_11_d3, x_79_2_11_d4, x_4_2, x_76, x_35_0, x_34, x_38_134, x_38_135, x_38_136, x_82, x_33, x_21, x_1, x_17, x_79_3_1_d0, x_79_3_1_d1, x_79_3_1_d2, x_79_3_1_d3, x_79_3_1_d4, x_68, x_60, x_61, x_84, cb_ri, cb_rl, cb_rv, cb_th, cb_ite, ps_s, ps_n, sw_n, sw_c, u_90_0, u_90_40, u_90_50, u_90_60, u_90_70, u_90_82, u_90_101, u_90_102, u_90_103, ch, sw4D, sw4T, c1, bt, e2, Int.reduceEq, Int.reduceLT, Int.reduceLE, reduceIte, Int.reduceAdd, Int.reduceSub, Int.reduceMul, Int.reduceNeg, Int.reduceToNat, Bool.false_eq_true, eq_self, if_pos, if_neg]
      · have : f = 4 := by omega
        subst this
        have e2 : ((4 : Nat) : Int) = 4 := rfl
        refine AGt_q I (v := boI (takB (h 187 0) L i (h 187 0 (50 + 4 * i)))) ?_ (fun g s J => ?_)
        · obtain ⟨h', m1, m2⟩ := takes_k (lc + 77) 0 0 i H N (h 187 0) h L I.1.1 I.1.2.1 W hi
          refine ⟨h', ?_, csc_lw m2⟩
          show cl (lc + 80) _ _ _ = _
          rw [in_90]
          generalize takB (h 187 0) L i (h 187 0 (50 + 4 * i)) = tb at m1
          cases tb with
          | true => have m1 : _ = ri 1 h' := m1
                    simp (disch := omega) only [x_6_0, x_4_1, x_79_2_11_d0, x_79_2_11_d1, x_79_2_11_d2, x_79_2_11_d3, x_79_2_11_d4, x_4_2, x_76, x_35_0, x_34, x_38_134, x_38_135, x_38_136, x_82, x_33, x_21, x_1, x_17, x_79_3_1_d0, x_79_3_1_d1, x_79_3_1_d2, x_79_3_1_d3, x_79_3_1_d4, x_68, x_60, x_61, x_84, cb_ri, cb_rl, cb_rv, cb_th, cb_ite, ps_s, ps_n, sw_n, sw_c, u_90_0, u_90_40, u_90_50, u_90_60, u_90_70, u_90_82, u_90_101, u_90_102, u_90_103, ch, sw4D, sw4T, m1, e2, boI, Int.reduceEq, Int.reduceLT, Int.reduceLE, reduceIte, Int.reduceAdd, Int.reduceSub, Int.reduceMul, Int.reduceNeg, Int.reduceToNat, Bool.false_eq_true, eq_self, if_pos, if_neg]
          | false => have m1 : _ = ri 0 h' := m1
                     simp (disch := omega) only [x_6_0, x_4_1, x_79_2_11_d0, x_79_2_11_d1, x_79_2_11_d2, x_79_2_11_d3, x_79_2_11_d4, x_4_2, x_76, x_35_0, x_34, x_38_134, x_38_135, x_38_136, x_82, x_33, x_21, x_1, x_17, x_79_3_1_d0, x_79_3_1_d1, x_79_3_1_d2, x_79_3_1_d3, x_79_3_1_d4, x_68, x_60, x_61, x_84, cb_ri, cb_rl, cb_rv, cb_th, cb_ite, ps_s, ps_n, sw_n, sw_c, u_90_0, u_90_40, u_90_50, u_90_60, u_90_70, u_90_82, u_90_101, u_90_102, u_90_103, ch, sw4D, sw4T, m1, e2, boI, Int.reduceEq, Int.reduceLT, Int.reduceLE, reduceIte, Int.reduceAdd, Int.reduceSub, Int.reduceMul, Int.reduceNeg, Int.reduceToNat, Bool.false_eq_true, eq_self, if_pos, if_neg]
        · have g7 : hset g 186 0 0 0 187 0 = h 187 0 := by rw [h186_m, Sm_187 s scr_187]
          obtain ⟨h2, m1, m2⟩ := takes_m (lr + 46) i H N (hset g 186 0 0 0) L (by rw [g7]; exact hL) (by rw [g7]; exact I.1.2.1) hi
          rw [g7] at m1
          have iw := iw g
          rw [e2] at iw
          refine ⟨h2, ?_, by rw [m2 _ _ _ (by unfold mbFr maFr; omega), hs_eq], Sm_t (rsc_186 g 0) (rsc_mb m2)⟩
          show cl (lr + 80) _ _ _ = _
          rw [in_234]
          generalize takB (h 187 0) L i (h 187 0 (50 + 4 * i)) = tb at m1
          cases tb with
          | true => have m1 : _ = ri 1 h2 := m1
                    simp (disch := omega) only [x_6_0, x_4_1, x_79_2_12_d0, x_79_2_12_d1, x_79_2_12_d2, x_79_2_12_d3, x_79_2_12_d4, x_69, x_1, x_60, x_4_2, x_80_3_d0, x_80_3_d1, x_80_3_d2, x_80_3_d3, x_80_3_d4, x_61, x_36, x_33, x_73, x_82, x_65, x_79_3_12_d0, x_79_3_12_d1, x_79_3_12_d2, x_79_3_12_d3, x_79_3_12_d4, x_68, cb_ri, cb_rl, cb_rv, cb_th, cb_ite, ps_s, ps_n, u_234_0, u_234_13, u_234_26, u_234_27, u_234_39, u_234_53, u_234_65, u_234_66, ih g J, iw, hs_eq, m1, e2, boI, Int.reduceEq, Int.reduceLT, Int.reduceLE, reduceIte, Int.reduceAdd, Int.reduceSub, Int.reduceMul, Int.reduceNeg, Int.reduceToNat, Bool.false_eq_true, eq_self, if_pos, if_neg]
          | false => have m1 : _ = ri 0 h2 := m1
                     simp (disch := omega) only [x_6_0, x_4_1, x_79_2_12_d0, x_79_2_12_d1, x_79_2_12_d2, x_79_2_12_d3, x_79_2_12_d4, x_69, x_1, x_60, x_4_2, x_80_3_d0, x_80_3_d1, x_80_3_d2, x_80_3_d3, x_80_3_d4, x_61, x_36, x_33, x_73, x_82, x_65, x_79_3_12_d0, x_79_3_12_d1, x_79_3_12_d2, x_79_3_12_d3, x_79_3_12_d4, x_68, cb_ri, cb_rl, cb_rv, cb_th, cb_ite, ps_s, ps_n, u_234_0, u_234_13, u_234_26, u_234_27, u_234_39, u_234_53, u_234_65, u_234_66, ih g J, iw, hs_eq, m1, e2, boI, Int.reduceEq, Int.reduceLT, Int.reduceLE, reduceIte, Int.reduceAdd, Int.reduceSub, Int.reduceMul, Int.reduceNeg, Int.reduceToNat, Bool.false_eq_true, eq_self, if_pos, if_neg]
    · refine AGt_e I 4 (by decide) ⟨h, ?_, Sm_r _ _⟩ (fun g s J => ⟨0, hset g 186 0 0 2, ?_, hs_eq _ _ _ _ _, rsc_186 g 2⟩)
      · show cl (lc + 80) _ _ _ = _
        rw [in_90]
        simp (disch := omega) only [x_6_0, x_4_1, x_79_2_11_d0, x_79_2_11_d1, x_79_2_11_d2, x_79_2_11_d3, x_79_2_11_d4, x_4_2, x_76, x_35_0, x_34, x_38_134, x_38_135, x_38_136, x_82, x_33, x_21, x_1, x_17, x_79_3_1_d0, x_79_3_1_d1, x_79_3_1_d2, x_79_3_1_d3, x_79_3_1_d4, x_68, x_60, x_61, x_84, cb_ri, cb_rl, cb_rv, cb_th, cb_ite, ps_s, ps_n, sw_n, sw_c, u_90_0, u_90_40, u_90_50, u_90_60, u_90_70, u_90_82, u_90_101, u_90_102, u_90_103, ch, sw4D, sw4T, Int.reduceEq, Int.reduceLT, Int.reduceLE, reduceIte, Int.reduceAdd, Int.reduceSub, Int.reduceMul, Int.reduceNeg, Int.reduceToNat, Bool.false_eq_true, eq_self, if_pos, if_neg]
      · show cl (lr + 80) _ _ _ = _
        have iw := isIn_c (lr + 78) w 0 4 g
        rw [if_neg (by omega)] at iw
        rw [in_234]
        simp (disch := omega) only [x_6_0, x_4_1, x_79_2_12_d0, x_79_2_12_d1, x_79_2_12_d2, x_79_2_12_d3, x_79_2_12_d4, x_69, x_1, x_60, x_4_2, x_80_3_d0, x_80_3_d1, x_80_3_d2, x_80_3_d3, x_80_3_d4, x_61, x_36, x_33, x_73, x_82, x_65, x_79_3_12_d0, x_79_3_12_d1, x_79_3_12_d2, x_79_3_12_d3, x_79_3_12_d4, x_68, cb_ri, cb_rl, cb_rv, cb_th, cb_ite, ps_s, ps_n, u_234_0, u_234_13, u_234_26, u_234_27, u_234_39, u_234_53, u_234_65, u_234_66, ih g J, iw, hs_eq, Int.reduceEq, Int.reduceLT, Int.reduceLE, reduceIte, Int.reduceAdd, Int.reduceSub, Int.reduceMul, Int.reduceNeg, Int.reduceToNat, Bool.false_eq_true, eq_self, if_pos, if_neg]
  · rw [if_neg c] at ch
    refine AGt_e I 2 (by decide) ⟨h, ?_, Sm_r _ _⟩ (fun g s J => ⟨0, hset g 186 0 0 1, ?_, hs_eq _ _ _ _ _, rsc_186 g 1⟩)
    · show cl (lc + 80) _ _ _ = _
      rw [in_90]
      simp (disch := omega) only [x_6_0, x_4_1, x_79_2_11_d0, x_79_2_11_d1, x_79_2_11_d2, x_79_2_11_d3, x_79_2_11_d4, x_4_2, x_76, x_35_0, x_34, x_38_134, x_38_135, x_38_136, x_82, x_33, x_21, x_1, x_17, x_79_3_1_d0, x_79_3_1_d1, x_79_3_1_d2, x_79_3_1_d3, x_79_3_1_d4, x_68, x_60, x_61, x_84, cb_ri, cb_rl, cb_rv, cb_th, cb_ite, ps_s, ps_n, sw_n, sw_c, u_90_0, u_90_40, u_90_50, u_90_60, u_90_70, u_90_82, u_90_101, u_90_102, u_90_103, ch]
    · show cl (lr + 80) _ _ _ = _
      have ih := inN J (lr + 77) p
      rw [if_neg c] at ih
      rw [in_234]
      simp (disch := omega) only [x_6_0, x_4_1, x_79_2_12_d0, x_79_2_12_d1, x_79_2_12_d2, x_79_2_12_d3, x_79_2_12_d4, x_69, x_1, x_60, x_4_2, x_80_3_d0, x_80_3_d1, x_80_3_d2, x_80_3_d3, x_80_3_d4, x_61, x_36, x_33, x_73, x_82, x_65, x_79_3_12_d0, x_79_3_12_d1, x_79_3_12_d2, x_79_3_12_d3, x_79_3_12_d4, x_68, cb_ri, cb_rl, cb_rv, cb_th, cb_ite, ps_s, ps_n, u_234_0, u_234_13, u_234_26, u_234_27, u_234_39, u_234_53, u_234_65, u_234_66, ih, hs_eq, Int.reduceEq, Int.reduceLT, Int.reduceLE, reduceIte, Int.reduceAdd, Int.reduceSub, Int.reduceMul, Int.reduceNeg, Int.reduceToNat, Bool.false_eq_true, eq_self, if_pos, if_neg]
theorem areThere_m (lv H N : Nat) (p w : Int) (g : Hp) (J : INV g H N) : cl (lv + 3) 235 [aA 12 0, aI p, aI w] g = rv (hset g 186 0 0 (if (0 ≤ p ∧ p < H) ∧ (0 ≤ w ∧ w < N) then 0 else 1)) := by
  have ih := inH J lv p
  have iw := inN J lv w
  rw [in_235]
  by_cases c1 : 0 ≤ p ∧ p < H
  · rw [if_pos c1] at ih
    by_cases c2 : 0 ≤ w ∧ w < N
    · rw [if_pos c2] at iw
      simp (disch := omega) only [x_6_0, x_4_1, x_79_2_12_d0, x_79_2_12_d1, x_79_2_12_d2, x_79_2_12_d3, x_79_2_12_d4, x_68, x_4_2, x_69, x_61, x_1, x_60, x_36, x_83, cb_ri, cb_rl, cb_rv, cb_th, cb_ite, ps_s, ps_n, u_235_0, u_235_17, u_235_21, u_235_22, ih, iw, Int.reduceEq, Int.reduceLT, Int.reduceLE, reduceIte, Int.reduceAdd, Int.reduceSub, Int.reduceMul, Int.reduceNeg, Int.reduceToNat, Bool.false_eq_true, eq_self, if_pos, if_neg]
    · rw [if_neg c2] at iw
      rw [if_neg (fun z => c2 z.2)]
      simp (disch := omega) only [x_6_0, x_4_1, x_79_2_12_d0, x_79_2_12_d1, x_79_2_12_d2, x_79_2_12_d3, x_79_2_12_d4, x_68, x_4_2, x_69, x_61, x_1, x_60, x_36, x_83, cb_ri, cb_rl, cb_rv, cb_th, cb_ite, ps_s, ps_n, u_235_0, u_235_17, u_235_21, u_235_22, ih, iw, Int.reduceEq, Int.reduceLT, Int.reduceLE, reduceIte, Int.reduceAdd, Int.reduceSub, Int.reduceMul, Int.reduceNeg, Int.reduceToNat, Bool.false_eq_true, eq_self, if_pos, if_neg]
  · rw [if_neg c1] at ih
    rw [if_neg (fun z => c1 z.1)]
    simp (disch := omega) only [x_6_0, x_4_1, x_79_2_12_d0, x_79_2_12_d1, x_79_2_12_d2, x_79_2_12_d3, x_79_2_12_d4, x_68, x_4_2, x_69, x_61, x_1, x_60, x_36, x_83, cb_ri, cb_rl, cb_rv, cb_th, cb_ite, ps_s, ps_n, u_235_0, u_235_17, u_235_21, u_235_22, ih, Int.reduceEq, Int.reduceLT, Int.reduceLE, reduceIte, Int.reduceAdd, Int.reduceSub, Int.reduceMul, Int.reduceNeg, Int.reduceToNat, Bool.false_eq_true, eq_self, if_pos, if_neg]
theorem ag_can (lc lr H N : Nat) (p w : Int) (h : Hp) (I : INV h H N) : AGt t2 (fun h => cl (lc + 80) 91 [aA 11 0, aI p, aI w] h) (fun h => cl (lr + 80) 236 [aA 12 0, aI p, aI w] h) h := by
  have hH := I.1.2.1.1.2.1
  have hN := I.1.2.1.2.1.2.1
  have ch := checkHand_c (lc + 78) H p h I.1.1.1.1
  have cn := checkNote_c (lc + 78) N w h I.1.1.2.1.1
  obtain ⟨L, W, hL, hW, hl⟩ := INV_law I
  by_cases c : (0 ≤ p ∧ p < H) ∧ (0 ≤ w ∧ w < N)
  · rw [if_pos c.1] at ch
    rw [if_pos c.2] at cn
    obtain ⟨i, rfl⟩ : ∃ i : Nat, p = (i : Int) := ⟨p.toNat, by omega⟩
    obtain ⟨n, rfl⟩ : ∃ n : Nat, w = (n : Int) := ⟨w.toNat, by omega⟩
    refine AGt_q I (v := boI (abM (h 187 0) L n i)) ?_ (fun g s J => ?_)
    · obtain ⟨h', m1, m2⟩ := isAble_k (lc + 76) 0 0 i n H N (h 187 0) h L I.1.1 I.1.2.1 W (by omega) (by omega)
      refine ⟨h', ?_, csc_lw m2⟩
      show cl (lc + 80) _ _ _ = ri (boI (stB (h 187 0) n && canB (h 187 0) L i n (h 187 0 (50 + 4 * n)))) h'
      rw [in_91]
      have b1 := boI_01 (stB (h 187 0) n && canB (h 187 0) L i n (h 187 0 (50 + 4 * n)))
      simp (disch := first | omega | exact b1) only [x_6_0, x_4_1, x_79_2_11_d0, x_79_2_11_d1, x_79_2_11_d2, x_79_2_11_d3, x_79_2_11_d4, x_4_2, x_35_0, x_79_4_1_d0, x_79_4_1_d1, x_79_4_1_d2, x_79_4_1_d3, x_79_4_1_d4, x_85, cb_ri, cb_rl, cb_rv, cb_th, cb_ite, ps_s, ps_n, u_91_0, ch, cn, m1]
    · have g7 : hset g 186 0 0 0 187 0 = h 187 0 := by rw [h186_m, Sm_187 s scr_187]
      have at' := areThere_m (lr + 76) H N (i : Int) (n : Int) g J
      rw [if_pos c] at at'
      have st := stands_c (lr + 77) n (hset g 186 0 0 0) (by omega)
      rw [g7] at st
      have gn := (I.1.2.1.2.1.2.2.1 n (by omega)).1
      have o0 : cl (lr + 79) 175 [aA 12 0, aI (n : Int), aI 0] (hset g 186 0 0 0) = ri (h 187 0 (50 + 4 * n)) (hset g 186 0 0 0) := by have := ofNote_c (lr + 78) n 0 (hset g 186 0 0 0) (by omega) (by omega); rw [g7] at this; exact this
      obtain ⟨h2, m1, m2⟩ := canAt_m (lr + 45) i n H N (h 187 0 (50 + 4 * n)) (hset g 186 0 0 0) L (by rw [g7]; exact hL) (by rw [g7]; exact I.1.2.1) hW hl (by omega) (by omega) (Or.inl (by omega))
      rw [g7] at m1
      have ce : canG (h 187 0) L H (hset g 186 0 0 0 206 0 0) i n (h 187 0 (50 + 4 * n)) = canB (h 187 0) L i n (h 187 0 (50 + 4 * n)) := by unfold canG; rw [if_pos (by omega)]
      rw [ce] at m1
      unfold abM
      by_cases hs : stB (h 187 0) n = true
      · rw [if_pos hs] at st
        rw [hs, Bool.true_and]
        refine ⟨h2, ?_, by rw [m2 _ _ _ (by unfold mbFr maFr; omega), hs_eq], Sm_t (rsc_186 g 0) (rsc_mb m2)⟩
        show cl (lr + 80) _ _ _ = _
        rw [in_236]
        generalize canB (h 187 0) L i n (h 187 0 (50 + 4 * n)) = tb at m1
        cases tb with
        | true => have m1 : _ = ri 1 h2 := m1
                  simp (disch := omega) only [x_6_0, x_4_1, x_4_2, x_79_3_12_d0, x_79_3_12_d1, x_79_3_12_d2, x_79_3_12_d3, x_79_3_12_d4, x_33, x_69, x_79_2_12_d0, x_79_2_12_d1, x_79_2_12_d2, x_79_2_12_d3, x_79_2_12_d4, x_68, x_1, x_79_4_12_d0, x_79_4_12_d1, x_79_4_12_d2, x_79_4_12_d3, x_79_4_12_d4, x_60, x_61, x_85, cb_ri, cb_rl, cb_rv, cb_th, cb_ite, ps_s, ps_n, u_236_0, u_236_40, u_236_41, at', hs_eq, st, o0, m1, boI, Int.reduceEq, Int.reduceLT, Int.reduceLE, reduceIte, Int.reduceAdd, Int.reduceSub, Int.reduceMul, Int.reduceNeg, Int.reduceToNat, Bool.false_eq_true, eq_self, if_pos, if_neg]
        | false => have m1 : _ = ri 0 h2 := m1
                   simp (disch := omega) only [x_6_0, x_4_1, x_4_2, x_79_3_12_d0, x_79_3_12_d1, x_79_3_12_d2, x_79_3_12_d3, x_79_3_12_d4, x_33, x_69, x_79_2_12_d0, x_79_2_12_d1, x_79_2_12_d2, x_79_2_12_d3, x_79_2_12_d4, x_68, x_1, x_79_4_12_d0, x_79_4_12_d1, x_79_4_12_d2, x_79_4_12_d3, x_79_4_12_d4, x_60, x_61, x_85, cb_ri, cb_rl, cb_rv, cb_th, cb_ite, ps_s, ps_n, u_236_0, u_236_40, u_236_41, at', hs_eq, st, o0, m1, boI, Int.reduceEq, Int.reduceLT, Int.reduceLE, reduceIte, Int.reduceAdd, Int.reduceSub, Int.reduceMul, Int.reduceNeg, Int.reduceToNat, Bool.false_eq_true, eq_self, if_pos, if_neg]
      · rw [if_neg hs] at st
        rw [Bool.eq_false_iff.mpr hs, Bool.false_and]
        refine ⟨hset g 186 0 0 0, ?_, hs_eq _ _ _ _ _, rsc_186 g 0⟩
        show cl (lr + 80) _ _ _ = _
        rw [in_236]
        simp (disch := omega) only [x_6_0, x_4_1, x_4_2, x_79_3_12_d0, x_79_3_12_d1, x_79_3_12_d2, x_79_3_12_d3, x_79_3_12_d4, x_33, x_69, x_79_2_12_d0, x_79_2_12_d1, x_79_2_12_d2, x_79_2_12_d3, x_79_2_12_d4, x_68, x_1, x_79_4_12_d0, x_79_4_12_d1, x_79_4_12_d2, x_79_4_12_d3, x_79_4_12_d4, x_60, x_61, x_85, cb_ri, cb_rl, cb_rv, cb_th, cb_ite, ps_s, ps_n, u_236_0, u_236_40, u_236_41, at', hs_eq, st, boI, Int.reduceEq, Int.reduceLT, Int.reduceLE, reduceIte, Int.reduceAdd, Int.reduceSub, Int.reduceMul, Int.reduceNeg, Int.reduceToNat, Bool.false_eq_true, eq_self, if_pos, if_neg]
  · refine AGt_e I 2 (by decide) ⟨h, ?_, Sm_r _ _⟩ (fun g s J => ⟨0, hset g 186 0 0 1, ?_, hs_eq _ _ _ _ _, rsc_186 g 1⟩)
    · show cl (lc + 80) _ _ _ = _
      rw [in_91]
      by_cases c1 : 0 ≤ p ∧ p < H
      · rw [if_pos c1] at ch
        rw [if_neg (fun z => c ⟨c1, z⟩)] at cn
        simp (disch := omega) only [x_6_0, x_4_1, x_79_2_11_d0, x_79_2_11_d1, x_79_2_11_d2, x_79_2_11_d3, x_79_2_11_d4, x_4_2, x_35_0, x_79_4_1_d0, x_79_4_1_d1, x_79_4_1_d2, x_79_4_1_d3, x_79_4_1_d4, x_85, cb_ri, cb_rl, cb_rv, cb_th, cb_ite, ps_s, ps_n, u_91_0, ch, cn]
      · rw [if_neg c1] at ch
        simp (disch := omega) only [x_6_0, x_4_1, x_79_2_11_d0, x_79_2_11_d1, x_79_2_11_d2, x_79_2_11_d3, x_79_2_11_d4, x_4_2, x_35_0, x_79_4_1_d0, x_79_4_1_d1, x_79_4_1_d2, x_79_4_1_d3, x_79_4_1_d4, x_85, cb_ri, cb_rl, cb_rv, cb_th, cb_ite, ps_s, ps_n, u_91_0, ch]
    · show cl (lr + 80) _ _ _ = _
      have at' := areThere_m (lr + 76) H N p w g J
      rw [if_neg c] at at'
      rw [in_236]
      simp (disch := omega) only [x_6_0, x_4_1, x_4_2, x_79_3_12_d0, x_79_3_12_d1, x_79_3_12_d2, x_79_3_12_d3, x_79_3_12_d4, x_33, x_69, x_79_2_12_d0, x_79_2_12_d1, x_79_2_12_d2, x_79_2_12_d3, x_79_2_12_d4, x_68, x_1, x_79_4_12_d0, x_79_4_12_d1, x_79_4_12_d2, x_79_4_12_d3, x_79_4_12_d4, x_60, x_61, x_85, cb_ri, cb_rl, cb_rv, cb_th, cb_ite, ps_s, ps_n, u_236_0, u_236_40, u_236_41, at', hs_eq, Int.reduceEq, Int.reduceLT, Int.reduceLE, reduceIte, Int.reduceAdd, Int.reduceSub, Int.reduceMul, Int.reduceNeg, Int.reduceToNat, Bool.false_eq_true, eq_self, if_pos, if_neg]
theorem ag_reaches (lc lr H N : Nat) (p w : Int) (h : Hp) (I : INV h H N) : AGt t2 (fun h => cl (lc + 80) 92 [aA 11 0, aI p, aI w] h) (fun h => cl (lr + 80) 237 [aA 12 0, aI p, aI w] h) h := by
  have hH := I.1.2.1.1.2.1
  have hN := I.1.2.1.2.1.2.1
  have ch := checkHand_c (lc + 78) H p h I.1.1.1.1
  have cn := checkNote_c (lc + 78) N w h I.1.1.2.1.1
  obtain ⟨L, W, hL, hW, hl⟩ := INV_law I
  by_cases c : (0 ≤ p ∧ p < H) ∧ (0 ≤ w ∧ w < N)
  · rw [if_pos c.1] at ch
    rw [if_pos c.2] at cn
    obtain ⟨i, rfl⟩ : ∃ i : Nat, p = (i : Int) := ⟨p.toNat, by omega⟩
    obtain ⟨n, rfl⟩ : ∃ n : Nat, w = (n : Int) := ⟨w.toNat, by omega⟩
    refine AGt_q I (v := rchV (h 187 0) L i n (h 187 0 (50 + 4 * n))) ?_ (fun g s J => ?_)
    · obtain ⟨h', m1, m2⟩ := reachOf_k (lc + 77) 0 0 i n H N (h 187 0) h L I.1.1 I.1.2.1 W (by omega) (by omega)
      refine ⟨h', ?_, csc_lw m2⟩
      show cl (lc + 80) _ _ _ = _
      rw [in_92]
      simp (disch := omega) only [x_6_0, x_4_1, x_79_2_11_d0, x_79_2_11_d1, x_79_2_11_d2, x_79_2_11_d3, x_79_2_11_d4, x_4_2, x_35_0, x_79_4_1_d0, x_79_4_1_d1, x_79_4_1_d2, x_79_4_1_d3, x_79_4_1_d4, x_82, cb_ri, cb_rl, cb_rv, cb_th, cb_ite, ps_s, ps_n, u_92_0, ch, cn, m1]
    · have g7 : hset g 186 0 0 0 187 0 = h 187 0 := by rw [h186_m, Sm_187 s scr_187]
      have at' := areThere_m (lr + 76) H N (i : Int) (n : Int) g J
      rw [if_pos c] at at'
      have gn := (I.1.2.1.2.1.2.2.1 n (by omega)).1
      have o0 : cl (lr + 79) 175 [aA 12 0, aI (n : Int), aI 0] (hset g 186 0 0 0) = ri (h 187 0 (50 + 4 * n)) (hset g 186 0 0 0) := by have := ofNote_c (lr + 78) n 0 (hset g 186 0 0 0) (by omega) (by omega); rw [g7] at this; exact this
      obtain ⟨h2, m1, m2⟩ := rch_m (lr + 46) i n H N (h 187 0 (50 + 4 * n)) (hset g 186 0 0 0) L (by rw [g7]; exact hL) (by rw [g7]; exact I.1.2.1) hW hl (by omega) (by omega) (by omega)
      rw [g7] at m1
      refine ⟨h2, ?_, by rw [m2 _ _ _ (by unfold mbFr maFr; omega), hs_eq], Sm_t (rsc_186 g 0) (rsc_mb m2)⟩
      show cl (lr + 80) _ _ _ = _
      rw [in_237]
      simp (disch := omega) only [x_6_0, x_4_1, x_4_2, x_79_3_12_d0, x_79_3_12_d1, x_79_3_12_d2, x_79_3_12_d3, x_79_3_12_d4, x_33, x_73, x_1, x_60, x_79_4_12_d0, x_79_4_12_d1, x_79_4_12_d2, x_79_4_12_d3, x_79_4_12_d4, x_61, x_82, cb_ri, cb_rl, cb_rv, cb_th, cb_ite, ps_s, ps_n, u_237_0, u_237_17, u_237_29, at', hs_eq, o0, m1, Int.reduceEq, Int.reduceLT, Int.reduceLE, reduceIte, Int.reduceAdd, Int.reduceSub, Int.reduceMul, Int.reduceNeg, Int.reduceToNat, Bool.false_eq_true, eq_self, if_pos, if_neg]
  · refine AGt_e I 2 (by decide) ⟨h, ?_, Sm_r _ _⟩ (fun g s J => ⟨0, hset g 186 0 0 1, ?_, hs_eq _ _ _ _ _, rsc_186 g 1⟩)
    · show cl (lc + 80) _ _ _ = _
      rw [in_92]
      by_cases c1 : 0 ≤ p ∧ p < H
      · rw [if_pos c1] at ch
        rw [if_neg (fun z => c ⟨c1, z⟩)] at cn
        simp (disch := omega) only [x_6_0, x_4_1, x_79_2_11_d0, x_79_2_11_d1, x_79_2_11_d2, x_79_2_11_d3, x_79_2_11_d4, x_4_2, x_35_0, x_79_4_1_d0, x_79_4_1_d1, x_79_4_1_d2, x_79_4_1_d3, x_79_4_1_d4, x_82, cb_ri, cb_rl, cb_rv, cb_th, cb_ite, ps_s, ps_n, u_92_0, ch, cn]
      · rw [if_neg c1] at ch
        simp (disch := omega) only [x_6_0, x_4_1, x_79_2_11_d0, x_79_2_11_d1, x_79_2_11_d2, x_79_2_11_d3, x_79_2_11_d4, x_4_2, x_35_0, x_79_4_1_d0, x_79_4_1_d1, x_79_4_1_d2, x_79_4_1_d3, x_79_4_1_d4, x_82, cb_ri, cb_rl, cb_rv, cb_th, cb_ite, ps_s, ps_n, u_92_0, ch]
    · show cl (lr + 80) _ _ _ = _
      have at' := areThere_m (lr + 76) H N p w g J
      rw [if_neg c] at at'
      rw [in_237]
      simp (disch := omega) only [x_6_0, x_4_1, x_4_2, x_79_3_12_d0, x_79_3_12_d1, x_79_3_12_d2, x_79_3_12_d3, x_79_3_12_d4, x_33, x_73, x_1, x_60, x_79_4_12_d0, x_79_4_12_d1, x_79_4_12_d2, x_79_4_12_d3, x_79_4_12_d4, x_61, x_82, cb_ri, cb_rl, cb_rv, cb_th, cb_ite, ps_s, ps_n, u_237_0, u_237_17, u_237_29, at', hs_eq, Int.reduceEq, Int.reduceLT, Int.reduceLE, reduceIte, Int.reduceAdd, Int.reduceSub, Int.reduceMul, Int.reduceNeg, Int.reduceToNat, Bool.false_eq_true, eq_self, if_pos, if_neg]
theorem ag_led (lc lr H N : Nat) (p : Int) (b : Bool) (h : Hp) (I : INV h H N) : AGt t2 (fun h => cl (lc + 80) 141 [aA 11 0, aI p, aI (boI b)] h) (fun h => cl (lr + 80) 306 [aA 12 0, aI p, aI (boI b)] h) h := by
  have cn := checkNote_c (lc + 78) N p h I.1.1.2.1.1
  obtain ⟨nw, S, -, -, -, d4, d5, -⟩ := I.1.1.2.2.2
  by_cases c : 0 ≤ p ∧ p < N
  · rw [if_pos c] at cn
    refine AGt_q I (v := if boI b = 0 then ((cnt (ntB (h 187 0) p) S : Nat) : Int) else ffst (ntB (h 187 0) p) (fun a => h 187 0 (106 + 4 * a + 2)) (-1) S 0) ⟨h, ?_, Sm_r _ _⟩ (fun g s J => ⟨hset g 186 0 0 0, ?_, hs_eq _ _ _ _ _, rsc_186 g 0⟩)
    · show cl (lc + 80) _ _ _ = _
      have r1 := rowsOf_c (lc + 76) 0 S p (h 187 0) h I.1.1.2.2.2 d4
      have r2 := latestHandOf_c (lc + 76) 0 S p (h 187 0) h I.1.1.2.2.2 d4
      rw [in_141]
      cases b with
      | true => simp (disch := omega) only [x_6_0, x_4_1, x_79_2_11_d0, x_79_2_11_d1, x_79_2_11_d2, x_79_2_11_d3, x_79_2_11_d4, x_4_2, x_68, x_35_0, x_34, x_79_2_4_d0, x_79_2_4_d1, x_79_2_4_d2, x_79_2_4_d3, x_79_2_4_d4, x_60, x_61, x_82, cb_ri, cb_rl, cb_rv, cb_th, cb_ite, ps_s, ps_n, u_141_0, u_141_23, u_141_34, cn, r2, boI, Int.reduceEq, Int.reduceLT, Int.reduceLE, reduceIte, Int.reduceAdd, Int.reduceSub, Int.reduceMul, Int.reduceNeg, Int.reduceToNat, Bool.false_eq_true, eq_self, if_pos, if_neg]
      | false => simp (disch := omega) only [x_6_0, x_4_1, x_79_2_11_d0, x_79_2_11_d1, x_79_2_11_d2, x_79_2_11_d3, x_79_2_11_d4, x_4_2, x_68, x_35_0, x_34, x_79_2_4_d0, x_79_2_4_d1, x_79_2_4_d2, x_79_2_4_d3, x_79_2_4_d4, x_60, x_61, x_82, cb_ri, cb_rl, cb_rv, cb_th, cb_ite, ps_s, ps_n, u_141_0, u_141_23, u_141_34, cn, r1, boI, Int.reduceEq, Int.reduceLT, Int.reduceLE, reduceIte, Int.reduceAdd, Int.reduceSub, Int.reduceMul, Int.reduceNeg, Int.reduceToNat, Bool.false_eq_true, eq_self, if_pos, if_neg]
    · show cl (lr + 80) _ _ _ = _
      have g7 : hset g 186 0 0 0 187 0 = h 187 0 := by rw [h186_m, Sm_187 s scr_187]
      have ih := inN J (lr + 77) p
      rw [if_pos c] at ih
      have lp := mLed_l (lr + 78) S p (boI b) (hset g 186 0 0 0) (by rw [g7]; exact d4) d5
      rw [g7] at lp
      have m12 : hset g 186 0 0 0 187 0 12 = (S : Int) := by rw [g7]; exact d4
      rw [← lp, in_306]
      simp (disch := omega) only [x_6_0, x_4_1, x_79_2_12_d0, x_79_2_12_d1, x_79_2_12_d2, x_79_2_12_d3, x_79_2_12_d4, x_69, x_1, x_60, x_61, x_36, x_33, x_73, x_82, x_7_3_I, x_7_3_A, x_7_3_U, x_7_4_I, x_7_4_A, x_7_4_U, x_34, x_38_187, x_12, x_7_5_I, x_7_5_A, x_7_5_U, x_4_5, x_70, x_79_3_12_d0, x_79_3_12_d1, x_79_3_12_d2, x_79_3_12_d3, x_79_3_12_d4, x_62, x_10_3_I, x_10_3_A, x_10_3_U, x_10_5_I, x_10_5_A, x_10_5_U, x_4_2, x_68, x_4_4, x_4_3, cb_ri, cb_rl, cb_rv, cb_th, cb_ite, ps_s, ps_n, u_306_0, u_306_13, u_306_14, u_306_26, u_306_61, u_306_73, u_306_79, u_306_88, u_306_89, ih, hs_eq, m12, w32_id, Int.reduceEq, Int.reduceLT, Int.reduceLE, reduceIte, Int.reduceAdd, Int.reduceSub, Int.reduceMul, Int.reduceNeg, Int.reduceToNat, Bool.false_eq_true, eq_self, if_pos, if_neg]
  · rw [if_neg c] at cn
    refine AGt_e I 2 (by decide) ⟨h, ?_, Sm_r _ _⟩ (fun g s J => ⟨0, hset g 186 0 0 1, ?_, hs_eq _ _ _ _ _, rsc_186 g 1⟩)
    · show cl (lc + 80) _ _ _ = _
      rw [in_141]
      simp (disch := omega) only [x_6_0, x_4_1, x_79_2_11_d0, x_79_2_11_d1, x_79_2_11_d2, x_79_2_11_d3, x_79_2_11_d4, x_4_2, x_68, x_35_0, x_34, x_79_2_4_d0, x_79_2_4_d1, x_79_2_4_d2, x_79_2_4_d3, x_79_2_4_d4, x_60, x_61, x_82, cb_ri, cb_rl, cb_rv, cb_th, cb_ite, ps_s, ps_n, u_141_0, u_141_23, u_141_34, cn]
    · show cl (lr + 80) _ _ _ = _
      have ih := inN J (lr + 77) p
      rw [if_neg c] at ih
      rw [in_306]
      simp (disch := omega) only [x_6_0, x_4_1, x_79_2_12_d0, x_79_2_12_d1, x_79_2_12_d2, x_79_2_12_d3, x_79_2_12_d4, x_69, x_1, x_60, x_61, x_36, x_33, x_73, x_82, x_7_3_I, x_7_3_A, x_7_3_U, x_7_4_I, x_7_4_A, x_7_4_U, x_34, x_38_187, x_12, x_7_5_I, x_7_5_A, x_7_5_U, x_4_5, x_70, x_79_3_12_d0, x_79_3_12_d1, x_79_3_12_d2, x_79_3_12_d3, x_79_3_12_d4, x_62, x_10_3_I, x_10_3_A, x_10_3_U, x_10_5_I, x_10_5_A, x_10_5_U, x_4_2, x_68, x_4_4, x_4_3, cb_ri, cb_rl, cb_rv, cb_th, cb_ite, ps_s, ps_n, u_306_0, u_306_13, u_306_14, u_306_26, u_306_61, u_306_73, u_306_79, u_306_88, u_306_89, ih, hs_eq, Int.reduceEq, Int.reduceLT, Int.reduceLE, reduceIte, Int.reduceAdd, Int.reduceSub, Int.reduceMul, Int.reduceNeg, Int.reduceToNat, Bool.false_eq_true, eq_self, if_pos, if_neg]
theorem ag_log (lc lr H N : Nat) (p w : Int) (h : Hp) (I : INV h H N) : AGt t4 (fun h => cl (lc + 80) 142 [aA 11 0, aI p, aI w] h) (fun h => cl (lr + 80) 307 [aA 12 0, aI p, aI w] h) h := by
  obtain ⟨nw, S, d1, d2, d3, d4, d5, d6⟩ := I.1.1.2.2.2
  by_cases cw : 0 ≤ w ∧ w ≤ 3
  · obtain ⟨f, rfl⟩ : ∃ f : Nat, w = (f : Int) := ⟨w.toNat, by omega⟩
    have iw : ∀ g : Hp, cl (lr + 79) 168 [aI (f : Int), aI 0, aI 3] g = ri 1 g := fun g => by have := isIn_c (lr + 78) (f : Int) 0 3 g; rw [if_pos (by omega)] at this; exact this
    by_cases c : 0 ≤ p ∧ p < S
    · obtain ⟨a, rfl⟩ : ∃ a : Nat, p = (a : Int) := ⟨p.toNat, by omega⟩
      obtain ⟨q1, q2⟩ := d6 a (by omega)
      have ra := rowAgo_c (lc + 77) 0 nw a h d1 d2 (by omega)
      rw [q1] at ra
      have vv : ∀ g, Sm scr h g → INV g H N → ∃ h2, cl (lr + 80) 307 [aA 12 0, aI (a : Int), aI (f : Int)] g = ri (h 187 0 (106 + 4 * a + f)) h2 ∧ h2 186 0 0 = 0 ∧ Sm rsc g h2 := by
        intro g s J
        have g7 : hset g 186 0 0 0 187 0 = h 187 0 := by rw [h186_m, Sm_187 s scr_187]
        have lo := logged_c (lr + 78) a f (hset g 186 0 0 0) (by omega) (by omega)
        rw [g7] at lo
        have m12 : hset g 186 0 0 0 187 0 12 = (S : Int) := by rw [g7]; exact d4
        have i2 := isIn_c (lr + 78) (a : Int) 0 ((S : Int) - 1) (hset g 186 0 0 0)
        rw [if_pos (by omega)] at i2
        refine ⟨hset g 186 0 0 0, ?_, hs_eq _ _ _ _ _, rsc_186 g 0⟩
        rw [in_307]
        simp (disch := omega) only [x_6_0, x_4_2, x_1, x_80_3_d0, x_80_3_d1, x_80_3_d2, x_80_3_d3, x_80_3_d4, x_69, x_60, x_61, x_36, x_33, x_73, x_82, x_4_1, x_34, x_38_187, x_12, x_68, x_79_3_12_d0, x_79_3_12_d1, x_79_3_12_d2, x_79_3_12_d3, x_79_3_12_d4, cb_ri, cb_rl, cb_rv, cb_th, cb_ite, ps_s, ps_n, u_307_0, u_307_14, u_307_15, u_307_27, u_307_53, u_307_55, iw, hs_eq, m12, i2, lo, w32_id, Int.reduceEq, Int.reduceLT, Int.reduceLE, reduceIte, Int.reduceAdd, Int.reduceSub, Int.reduceMul, Int.reduceNeg, Int.reduceToNat, Bool.false_eq_true, eq_self, if_pos, if_neg]
      refine AGt_q I (v := h 187 0 (106 + 4 * a + f)) ⟨h, ?_, Sm_r _ _⟩ vv
      show cl (lc + 80) _ _ _ = _
      rw [in_142]
      have hf : f = 0 ∨ f = 1 ∨ f = 2 ∨ f = 3 := by omega
      have k0 := pageIn_c (lc + 78) _ _ _ _ h q2
      have k1 := noteIn_c (lc + 78) _ _ _ _ h q2
      have k2 := handIn_c (lc + 78) _ _ _ _ h q2
      have k3 := kindIn_c (lc + 78) _ _ _ _ h q2
      rcases hf with rfl | rfl | rfl | rfl
      · simp (disch := omega) only [x_4_2, x_70, x_1, x_67, x_61, x_84, x_4_1, x_6_0, x_35_0, x_34, x_33, x_64, x_82, x_79_2_4_d0, x_79_2_4_d1, x_79_2_4_d2, x_79_2_4_d3, x_79_2_4_d4, x_7_3_I, x_7_3_A, x_7_3_U, x_76, x_4_3, x_80_1_d0, x_80_1_d1, x_80_1_d2, x_80_1_d3, x_80_1_d4, cb_ri, cb_rl, cb_rv, cb_th, cb_ite, ps_s, ps_n, sw_n, sw_c, u_142_0, u_142_9, u_142_20, u_142_38, u_142_41, u_142_80, u_142_85, u_142_90, u_142_95, d3, ra, sw6D, sw6T, k0, Int.reduceEq, Int.reduceLT, Int.reduceLE, reduceIte, Int.reduceAdd, Int.reduceSub, Int.reduceMul, Int.reduceNeg, Int.reduceToNat, Bool.false_eq_true, eq_self, if_pos, if_neg, Int.natCast_zero]
        rfl
      · simp (disch := omega) only [x_4_2, x_70, x_1, x_67, x_61, x_84, x_4_1, x_6_0, x_35_0, x_34, x_33, x_64, x_82, x_79_2_4_d0, x_79_2_4_d1, x_79_2_4_d2, x_79_2_4_d3, x_79_2_4_d4, x_7_3_I, x_7_3_A, x_7_3_U, x_76, x_4_3, x_80_1_d0, x_80_1_d1, x_80_1_d2, x_80_1_d3, x_80_1_d4, cb_ri, cb_rl, cb_rv, cb_th, cb_ite, ps_s, ps_n, sw_n, sw_c, u_142_0, u_142_9, u_142_20, u_142_38, u_142_41, u_142_80, u_142_85, u_142_90, u_142_95, d3, ra, sw6D, sw6T, k1, Int.reduceEq, Int.reduceLT, Int.reduceLE, reduceIte, Int.reduceAdd, Int.reduceSub, Int.reduceMul, Int.reduceNeg, Int.reduceToNat, Bool.false_eq_true, eq_self, if_pos, if_neg, Int.natCast_one]
      · have e2 : ((2 : Nat) : Int) = 2 := rfl
        simp (disch := omega) only [x_4_2, x_70, x_1, x_67, x_61, x_84, x_4_1, x_6_0, x_35_0, x_34, x_33, x_64, x_82, x_79_2_4_d0, x_79_2_4_d1, x_79_2_4_d2, x_79_2_4_d3, x_79_2_4_d4, x_7_3_I, x_7_3_A, x_7_3_U, x_76, x_4_3, x_80_1_d0, x_80_1_d1, x_80_1_d2, x_80_1_d3, x_80_1_d4, cb_ri, cb_rl, cb_rv, cb_th, cb_ite, ps_s, ps_n, sw_n, sw_c, u_142_0, u_142_9, u_142_20, u_142_38, u_142_41, u_142_80, u_142_85, u_142_90, u_142_95, d3, ra, sw6D, sw6T, k2, e2, Int.reduceEq, Int.reduceLT, Int.reduceLE, reduceIte, Int.reduceAdd, Int.reduceSub, Int.reduceMul, Int.reduceNeg, Int.reduceToNat, Bool.false_eq_true, eq_self, if_pos, if_neg]
      · have e2 : ((3 : Nat) : Int) = 3 := rfl
        simp (disch := omega) only [x_4_2, x_70, x_1, x_67, x_61, x_84, x_4_1, x_6_0, x_35_0, x_34, x_33, x_64, x_82, x_79_2_4_d0, x_79_2_4_d1, x_79_2_4_d2, x_79_2_4_d3, x_79_2_4_d4, x_7_3_I, x_7_3_A, x_7_3_U, x_76, x_4_3, x_80_1_d0, x_80_1_d1, x_80_1_d2, x_80_1_d3, x_80_1_d4, cb_ri, cb_rl, cb_rv, cb_th, cb_ite, ps_s, ps_n, sw_n, sw_c, u_142_0, u_142_9, u_142_20, u_142_38, u_142_41, u_142_80, u_142_85, u_142_90, u_142_95, d3, ra, sw6D, sw6T, k3, e2, Int.reduceEq, Int.reduceLT, Int.reduceLE, reduceIte, Int.reduceAdd, Int.reduceSub, Int.reduceMul, Int.reduceNeg, Int.reduceToNat, Bool.false_eq_true, eq_self, if_pos, if_neg]
    · refine AGt_q I (v := -2) ⟨h, ?_, Sm_r _ _⟩ (fun g s J => ?_)
      · show cl (lc + 80) _ _ _ = _
        rw [in_142]
        by_cases c0 : p < 0
        · simp (disch := omega) only [x_4_2, x_70, x_1, x_67, x_61, x_84, x_4_1, x_6_0, x_35_0, x_34, x_33, x_64, x_82, x_79_2_4_d0, x_79_2_4_d1, x_79_2_4_d2, x_79_2_4_d3, x_79_2_4_d4, x_7_3_I, x_7_3_A, x_7_3_U, x_76, x_4_3, x_80_1_d0, x_80_1_d1, x_80_1_d2, x_80_1_d3, x_80_1_d4, cb_ri, cb_rl, cb_rv, cb_th, cb_ite, ps_s, ps_n, sw_n, sw_c, u_142_0, u_142_9, u_142_20, u_142_38, u_142_41, u_142_80, u_142_85, u_142_90, u_142_95, Int.reduceEq, Int.reduceLT, Int.reduceLE, reduceIte, Int.reduceAdd, Int.reduceSub, Int.reduceMul, Int.reduceNeg, Int.reduceToNat, Bool.false_eq_true, eq_self, if_pos, if_neg]
        · simp (disch := omega) only [x_4_2, x_70, x_1, x_67, x_61, x_84, x_4_1, x_6_0, x_35_0, x_34, x_33, x_64, x_82, x_79_2_4_d0, x_79_2_4_d1, x_79_2_4_d2, x_79_2_4_d3, x_79_2_4_d4, x_7_3_I, x_7_3_A, x_7_3_U, x_76, x_4_3, x_80_1_d0, x_80_1_d1, x_80_1_d2, x_80_1_d3, x_80_1_d4, cb_ri, cb_rl, cb_rv, cb_th, cb_ite, ps_s, ps_n, sw_n, sw_c, u_142_0, u_142_9, u_142_20, u_142_38, u_142_41, u_142_80, u_142_85, u_142_90, u_142_95, d3, Int.reduceEq, Int.reduceLT, Int.reduceLE, reduceIte, Int.reduceAdd, Int.reduceSub, Int.reduceMul, Int.reduceNeg, Int.reduceToNat, Bool.false_eq_true, eq_self, if_pos, if_neg]
      · have g7 : hset g 186 0 0 0 187 0 = h 187 0 := by rw [h186_m, Sm_187 s scr_187]
        have m12 : hset g 186 0 0 0 187 0 12 = (S : Int) := by rw [g7]; exact d4
        have i2 := isIn_c (lr + 78) p 0 ((S : Int) - 1) (hset g 186 0 0 0)
        rw [if_neg (by omega)] at i2
        refine ⟨hset g 186 0 0 0, ?_, hs_eq _ _ _ _ _, rsc_186 g 0⟩
        show cl (lr + 80) _ _ _ = _
        rw [in_307]
        simp (disch := omega) only [x_6_0, x_4_2, x_1, x_80_3_d0, x_80_3_d1, x_80_3_d2, x_80_3_d3, x_80_3_d4, x_69, x_60, x_61, x_36, x_33, x_73, x_82, x_4_1, x_34, x_38_187, x_12, x_68, x_79_3_12_d0, x_79_3_12_d1, x_79_3_12_d2, x_79_3_12_d3, x_79_3_12_d4, cb_ri, cb_rl, cb_rv, cb_th, cb_ite, ps_s, ps_n, u_307_0, u_307_14, u_307_15, u_307_27, u_307_53, u_307_55, iw, hs_eq, m12, i2, w32_id, Int.reduceEq, Int.reduceLT, Int.reduceLE, reduceIte, Int.reduceAdd, Int.reduceSub, Int.reduceMul, Int.reduceNeg, Int.reduceToNat, Bool.false_eq_true, eq_self, if_pos, if_neg]
  · refine AGt_e I 4 (by decide) ⟨h, ?_, Sm_r _ _⟩ (fun g s J => ⟨0, hset g 186 0 0 1, ?_, hs_eq _ _ _ _ _, rsc_186 g 1⟩)
    · show cl (lc + 80) _ _ _ = _
      rw [in_142]
      by_cases c0 : w < 0
      · simp (disch := omega) only [x_4_2, x_70, x_1, x_67, x_61, x_84, x_4_1, x_6_0, x_35_0, x_34, x_33, x_64, x_82, x_79_2_4_d0, x_79_2_4_d1, x_79_2_4_d2, x_79_2_4_d3, x_79_2_4_d4, x_7_3_I, x_7_3_A, x_7_3_U, x_76, x_4_3, x_80_1_d0, x_80_1_d1, x_80_1_d2, x_80_1_d3, x_80_1_d4, cb_ri, cb_rl, cb_rv, cb_th, cb_ite, ps_s, ps_n, sw_n, sw_c, u_142_0, u_142_9, u_142_20, u_142_38, u_142_41, u_142_80, u_142_85, u_142_90, u_142_95, Int.reduceEq, Int.reduceLT, Int.reduceLE, reduceIte, Int.reduceAdd, Int.reduceSub, Int.reduceMul, Int.reduceNeg, Int.reduceToNat, Bool.false_eq_true, eq_self, if_pos, if_neg]
      · simp (disch := omega) only [x_4_2, x_70, x_1, x_67, x_61, x_84, x_4_1, x_6_0, x_35_0, x_34, x_33, x_64, x_82, x_79_2_4_d0, x_79_2_4_d1, x_79_2_4_d2, x_79_2_4_d3, x_79_2_4_d4, x_7_3_I, x_7_3_A, x_7_3_U, x_76, x_4_3, x_80_1_d0, x_80_1_d1, x_80_1_d2, x_80_1_d3, x_80_1_d4, cb_ri, cb_rl, cb_rv, cb_th, cb_ite, ps_s, ps_n, sw_n, sw_c, u_142_0, u_142_9, u_142_20, u_142_38, u_142_41, u_142_80, u_142_85, u_142_90, u_142_95, Int.reduceEq, Int.reduceLT, Int.reduceLE, reduceIte, Int.reduceAdd, Int.reduceSub, Int.reduceMul, Int.reduceNeg, Int.reduceToNat, Bool.false_eq_true, eq_self, if_pos, if_neg]
    · show cl (lr + 80) _ _ _ = _
      have iw := isIn_c (lr + 78) w 0 3 g
      rw [if_neg (by omega)] at iw
      rw [in_307]
      simp (disch := omega) only [x_6_0, x_4_2, x_1, x_80_3_d0, x_80_3_d1, x_80_3_d2, x_80_3_d3, x_80_3_d4, x_69, x_60, x_61, x_36, x_33, x_73, x_82, x_4_1, x_34, x_38_187, x_12, x_68, x_79_3_12_d0, x_79_3_12_d1, x_79_3_12_d2, x_79_3_12_d3, x_79_3_12_d4, cb_ri, cb_rl, cb_rv, cb_th, cb_ite, ps_s, ps_n, u_307_0, u_307_14, u_307_15, u_307_27, u_307_53, u_307_55, iw, hs_eq, Int.reduceEq, Int.reduceLT, Int.reduceLE, reduceIte, Int.reduceAdd, Int.reduceSub, Int.reduceMul, Int.reduceNeg, Int.reduceToNat, Bool.false_eq_true, eq_self, if_pos, if_neg]
