/-! QUESTIONS OF A BEAT'S WAY. -/
theorem findI (lv H N : Nat) (b : Int) (h : Hp) (I : INV h H N) (L : List LN) (W : LawW h 0 L) : ∃ h1, cl (lv + 5) 76 [aA 10 0, aA 7 0, aI b] h = rv h1 ∧ WyC h1 N (wayW (h 187 0) L H N b) ∧ Sm csc h h1 := by
  obtain ⟨h1, a, c, d⟩ := find_c lv 0 H N b (h 187 0) h L I.1.1 I.1.2.1 W
  exact ⟨h1, a, c, csc_fw d⟩
theorem wayI (lv H N : Nat) (b v : Int) (h g : Hp) (I : INV h H N) (s : Sm scr h g) (J : INV g H N) (L : List LN) (hL : LM (h 187 0) L) (hW : ∀ x ∈ L, LnG x) (hl : L.length ≤ 12) : ∃ h2, cl (lv + 37) 224 [aA 12 0, aI b] (hset g 186 0 0 v) = rv h2 ∧ WyM h2 (wayW (h 187 0) L H N b) ∧ CT h2 N H (abM (h 187 0) L) ∧ h2 187 0 = h 187 0 ∧ h2 186 0 0 = v ∧ h2 206 0 0 = -1 ∧ Sm rsc g h2 := by
  have g7 : hset g 186 0 0 v 187 0 = h 187 0 := by rw [h186_m, Sm_187 s scr_187]
  obtain ⟨h2, a, c, d, e⟩ := wayIn_m lv H N b (hset g 186 0 0 v) L (by rw [g7]; exact hL) (by rw [g7]; exact I.1.2.1) hW hl (INV_186 v J).2.2.2.2.2
  rw [g7] at c d
  have f7 : h2 187 0 = h 187 0 := by rw [← g7]; funext j; exact e _ _ _ (by unfold wiFr loFr mbFr maFr woFr crFr; omega)
  exact ⟨h2, a, c, d, f7, by rw [e _ _ _ (by unfold wiFr loFr mbFr maFr woFr crFr; omega), hs_eq], by rw [e _ _ _ (by unfold wiFr loFr mbFr maFr woFr crFr; omega)]; exact (INV_186 v J).2.2.2.2.2, Sm_t (rsc_186 g v) (rsc_wi e)⟩
theorem ag_holds (lc lr H N : Nat) (b p : Int) (h : Hp) (I : INV h H N) : AGt t2 (fun h => cl (lc + 80) 102 [aA 11 0, aI b, aI p] h) (fun h => cl (lr + 80) 249 [aA 12 0, aI b, aI p] h) h := by
  have hH := I.1.2.1.1.2.1
  have cb := checkBeat_c (lc + 78) b h
  have ch := checkHand_c (lc + 78) H p h I.1.1.1.1
  obtain ⟨L, W, hL, hW, hl⟩ := INV_law I
  by_cases c : (0 ≤ b ∧ b < 12) ∧ (0 ≤ p ∧ p < H)
  · rw [if_pos c.1] at cb
    rw [if_pos c.2] at ch
    obtain ⟨i, rfl⟩ : ∃ i : Nat, p = (i : Int) := ⟨p.toNat, by omega⟩
    refine AGt_q I (v := (wayW (h 187 0) L H N b).2.2.1 i) ?_ (fun g s J => ?_)
    · obtain ⟨h1, a1, a2, a3⟩ := findI (lc + 74) H N b h I L W
      have y := a2.2.1 i (by omega)
      refine ⟨h1, ?_, a3⟩
      show cl (lc + 80) _ _ _ = _
      rw [in_102]
      simp (disch := omega) only [x_4_1, x_80_1_d0, x_80_1_d1, x_80_1_d2, x_80_1_d3, x_80_1_d4, x_6_0, x_4_2, x_79_2_11_d0, x_79_2_11_d1, x_79_2_11_d2, x_79_2_11_d3, x_79_2_11_d4, x_35_0, x_79_3_10_d0, x_79_3_10_d1, x_79_3_10_d2, x_79_3_10_d3, x_79_3_10_d4, x_34, x_38_166, x_82, cb_ri, cb_rl, cb_rv, cb_th, cb_ite, ps_s, ps_n, u_102_0, cb, ch, a1, tn, y]
    · obtain ⟨h2, a1, a2, -, -, a5, -, a7⟩ := wayI (lr + 42) H N b 0 h g I s J L hL hW hl
      have y := a2.2 i (by omega)
      have ib := isBeat_c (lr + 77) b g
      rw [if_pos c.1] at ib
      have ih := inH J (lr + 77) (i : Int)
      rw [if_pos c.2] at ih
      refine ⟨h2, ?_, a5, a7⟩
      show cl (lr + 80) _ _ _ = _
      rw [in_249]
      simp (disch := omega) only [x_6_0, x_4_1, x_80_1_d0, x_80_1_d1, x_80_1_d2, x_80_1_d3, x_80_1_d4, x_68, x_4_2, x_79_2_12_d0, x_79_2_12_d1, x_79_2_12_d2, x_79_2_12_d3, x_79_2_12_d4, x_69, x_61, x_1, x_60, x_36, x_33, x_73, x_82, x_34, x_38_211, cb_ri, cb_rl, cb_rv, cb_th, cb_ite, ps_s, ps_n, u_249_0, u_249_16, u_249_20, u_249_21, u_249_33, ib, ih, hs_eq, a1, tn, y, Int.reduceEq, Int.reduceLT, Int.reduceLE, reduceIte, Int.reduceAdd, Int.reduceSub, Int.reduceMul, Int.reduceNeg, Int.reduceToNat, Bool.false_eq_true, eq_self, if_pos, if_neg]
  · refine AGt_e I 2 (by decide) ⟨h, ?_, Sm_r _ _⟩ (fun g s J => ⟨0, hset g 186 0 0 1, ?_, hs_eq _ _ _ _ _, rsc_186 g 1⟩)
    · show cl (lc + 80) _ _ _ = _
      rw [in_102]
      by_cases c1 : 0 ≤ b ∧ b < 12
      · rw [if_pos c1] at cb
        rw [if_neg (fun z => c ⟨c1, z⟩)] at ch
        simp (disch := omega) only [x_4_1, x_80_1_d0, x_80_1_d1, x_80_1_d2, x_80_1_d3, x_80_1_d4, x_6_0, x_4_2, x_79_2_11_d0, x_79_2_11_d1, x_79_2_11_d2, x_79_2_11_d3, x_79_2_11_d4, x_35_0, x_79_3_10_d0, x_79_3_10_d1, x_79_3_10_d2, x_79_3_10_d3, x_79_3_10_d4, x_34, x_38_166, x_82, cb_ri, cb_rl, cb_rv, cb_th, cb_ite, ps_s, ps_n, u_102_0, cb, ch]
      · rw [if_neg c1] at cb
        simp (disch := omega) only [x_4_1, x_80_1_d0, x_80_1_d1, x_80_1_d2, x_80_1_d3, x_80_1_d4, x_6_0, x_4_2, x_79_2_11_d0, x_79_2_11_d1, x_79_2_11_d2, x_79_2_11_d3, x_79_2_11_d4, x_35_0, x_79_3_10_d0, x_79_3_10_d1, x_79_3_10_d2, x_79_3_10_d3, x_79_3_10_d4, x_34, x_38_166, x_82, cb_ri, cb_rl, cb_rv, cb_th, cb_ite, ps_s, ps_n, u_102_0, cb]
    · show cl (lr + 80) _ _ _ = _
      have ib := isBeat_c (lr + 77) b g
      have ih := inH J (lr + 77) p
      rw [in_249]
      by_cases c1 : 0 ≤ b ∧ b < 12
      · rw [if_pos c1] at ib
        rw [if_neg (fun z => c ⟨c1, z⟩)] at ih
        simp (disch := omega) only [x_6_0, x_4_1, x_80_1_d0, x_80_1_d1, x_80_1_d2, x_80_1_d3, x_80_1_d4, x_68, x_4_2, x_79_2_12_d0, x_79_2_12_d1, x_79_2_12_d2, x_79_2_12_d3, x_79_2_12_d4, x_69, x_61, x_1, x_60, x_36, x_33, x_73, x_82, x_34, x_38_211, cb_ri, cb_rl, cb_rv, cb_th, cb_ite, ps_s, ps_n, u_249_0, u_249_16, u_249_20, u_249_21, u_249_33, ib, ih, hs_eq, Int.reduceEq, Int.reduceLT, Int.reduceLE, reduceIte, Int.reduceAdd, Int.reduceSub, Int.reduceMul, Int.reduceNeg, Int.reduceToNat, Bool.false_eq_true, eq_self, if_pos, if_neg]
      · rw [if_neg c1] at ib
        simp (disch := omega) only [x_6_0, x_4_1, x_80_1_d0, x_80_1_d1, x_80_1_d2, x_80_1_d3, x_80_1_d4, x_68, x_4_2, x_79_2_12_d0, x_79_2_12_d1, x_79_2_12_d2, x_79_2_12_d3, x_79_2_12_d4, x_69, x_61, x_1, x_60, x_36, x_33, x_73, x_82, x_34, x_38_211, cb_ri, cb_rl, cb_rv, cb_th, cb_ite, ps_s, ps_n, u_249_0, u_249_16, u_249_20, u_249_21, u_249_33, ib, hs_eq, Int.reduceEq, Int.reduceLT, Int.reduceLE, reduceIte, Int.reduceAdd, Int.reduceSub, Int.reduceMul, Int.reduceNeg, Int.reduceToNat, Bool.false_eq_true, eq_self, if_pos, if_neg]
theorem leftOf_l (lv H N : Nat) (b : Int) (q : Hp) (M : Nat → Int) (L : List LN) (hN : N ≤ 14) (n4 : q 187 0 4 = (N : Int)) (Y : WyM q (wayW M L H N b)) : run (lv + 1) 250 13 [aA 12 0, aI b, aI ((bsN (atB M b) N : Nat) : Int), aI 0] [] q = ri ((bsN (lfP M L H N b) N : Nat) : Int) q := by
  have inv : ∀ n, n ≤ N → bsN (fun k => atB M b k && (decide (n ≤ k) || decide ((wayW M L H N b).2.1 k = -1))) N < 2 ^ 14 := fun n _ => bsN_mono _ hN
  have main := loop_up (F := fun n => run (lv + 1) 250 13 [aA 12 0, aI b, aI ((bsN (fun k => atB M b k && (decide (n ≤ k) || decide ((wayW M L H N b).2.1 k = -1))) N : Nat) : Int), aI (n : Int)] [] q) (N := N) (r := ri ((bsN (lfP M L H N b) N : Nat) : Int) q) ?_ ?_ 0 (by omega)
  · have e : bsN (fun k => atB M b k && (decide (0 ≤ k) || decide ((wayW M L H N b).2.1 k = -1))) N = bsN (atB M b) N := bsN_congr (fun k _ => by simp)
    simp only [e] at main
    exact main
  · intro n hn
    have y := Y.1 n (by omega)
    have i0 := inv n (by omega)
    have p2 : 2 ^ n < 2 ^ 14 := Nat.pow_lt_pow_right (by omega) (by omega)
    show run _ _ _ _ _ _ = run _ _ _ _ _ _
    rw [hd_250_13]
    by_cases c : (wayW M L H N b).2.1 n = -1
    · rw [c] at y
      have e : bsN (fun k => atB M b k && (decide (n + 1 ≤ k) || decide ((wayW M L H N b).2.1 k = -1))) N = bsN (fun k => atB M b k && (decide (n ≤ k) || decide ((wayW M L H N b).2.1 k = -1))) N := bsN_congr (fun k _ => by
        by_cases ek : k = n
        · subst ek; simp [c]
        · have : (decide (n + 1 ≤ k)) = decide (n ≤ k) := decide_eq_decide.mpr (by omega)
          rw [this])
      rw [e]
      simp (disch := omega) only [x_6_0, x_4_1, x_79_2_12_d0, x_79_2_12_d1, x_79_2_12_d2, x_79_2_12_d3, x_79_2_12_d4, x_7_2_I, x_7_2_A, x_7_2_U, x_1, x_7_3_I, x_7_3_A, x_7_3_U, x_61, x_4_3, x_34, x_38_187, x_38_210, x_65, x_62, x_4_2, x_20, x_19, x_17, x_10_3_I, x_10_3_A, x_10_3_U, x_60, x_82, cb_ri, cb_rl, cb_rv, cb_th, cb_ite, ps_s, ps_n, u_250_0, u_250_41, u_250_47, n4, tn, y, Int.reduceEq, Int.reduceLT, Int.reduceLE, reduceIte, Int.reduceAdd, Int.reduceSub, Int.reduceMul, Int.reduceNeg, Int.reduceToNat, Bool.false_eq_true, eq_self, if_pos, if_neg, ci, w32_id]
    · have ia : iand ((bsN (fun k => atB M b k && (decide (n ≤ k) || decide ((wayW M L H N b).2.1 k = -1))) N : Nat) : Int) (ixor (ishl 1 (n : Int)) (-1)) = ((bsN (fun k => atB M b k && (decide (n + 1 ≤ k) || decide ((wayW M L H N b).2.1 k = -1))) N : Nat) : Int) := by
        rw [ishl_1 n (by omega), iandn_n (by omega) (by omega)]
        congr 1
        apply Nat.eq_of_testBit_eq
        intro k
        rw [Nat.testBit_xor, Nat.testBit_and, bsN_bit, bsN_bit, Nat.testBit_two_pow]
        by_cases ek : k = n
        · subst ek; simp [c]
        · have : (decide (n + 1 ≤ k)) = decide (n ≤ k) := decide_eq_decide.mpr (by omega)
          rw [this, decide_eq_false (fun z : n = k => ek z.symm)]
          simp
      simp (disch := omega) only [x_6_0, x_4_1, x_79_2_12_d0, x_79_2_12_d1, x_79_2_12_d2, x_79_2_12_d3, x_79_2_12_d4, x_7_2_I, x_7_2_A, x_7_2_U, x_1, x_7_3_I, x_7_3_A, x_7_3_U, x_61, x_4_3, x_34, x_38_187, x_38_210, x_65, x_62, x_4_2, x_20, x_19, x_17, x_10_3_I, x_10_3_A, x_10_3_U, x_60, x_82, cb_ri, cb_rl, cb_rv, cb_th, cb_ite, ps_s, ps_n, u_250_0, u_250_41, u_250_47, n4, tn, y, c, ia, Int.reduceEq, Int.reduceLT, Int.reduceLE, reduceIte, Int.reduceAdd, Int.reduceSub, Int.reduceMul, Int.reduceNeg, Int.reduceToNat, Bool.false_eq_true, eq_self, if_pos, if_neg, ci, w32_id]
  · show run _ _ _ _ _ _ = _
    have e : bsN (fun k => atB M b k && (decide (N ≤ k) || decide ((wayW M L H N b).2.1 k = -1))) N = bsN (lfP M L H N b) N := bsN_congr (fun k hk => by unfold lfP; simp [show ¬ N ≤ k by omega])
    rw [e, hd_250_13]
    simp (disch := omega) only [x_6_0, x_4_1, x_79_2_12_d0, x_79_2_12_d1, x_79_2_12_d2, x_79_2_12_d3, x_79_2_12_d4, x_7_2_I, x_7_2_A, x_7_2_U, x_1, x_7_3_I, x_7_3_A, x_7_3_U, x_61, x_4_3, x_34, x_38_187, x_38_210, x_65, x_62, x_4_2, x_20, x_19, x_17, x_10_3_I, x_10_3_A, x_10_3_U, x_60, x_82, cb_ri, cb_rl, cb_rv, cb_th, cb_ite, ps_s, ps_n, u_250_0, u_250_41, u_250_47, n4, Int.reduceEq, Int.reduceLT, Int.reduceLE, reduceIte, Int.reduceAdd, Int.reduceSub, Int.reduceMul, Int.reduceNeg, Int.reduceToNat, Bool.false_eq_true, eq_self, if_pos, if_neg]
/-- the ends of a beat's questions, where the beat is none -/
theorem ag_left (lc lr H N : Nat) (b : Int) (h : Hp) (I : INV h H N) : AGt t2 (fun h => cl (lc + 80) 103 [aA 11 0, aI b] h) (fun h => cl (lr + 80) 251 [aA 12 0, aI b] h) h := by
  have hN := I.1.2.1.2.1.2.1
  have cb := checkBeat_c (lc + 78) b h
  obtain ⟨L, W, hL, hW, hl⟩ := INV_law I
  by_cases c : 0 ≤ b ∧ b < 12
  · rw [if_pos c] at cb
    refine AGt_q I (v := ((bsN (lfP (h 187 0) L H N b) N : Nat) : Int)) ?_ (fun g s J => ?_)
    · obtain ⟨h1, a1, a2, a3⟩ := findI (lc + 74) H N b h I L W
      have y := a2.2.2.1
      rw [way_left] at y
      refine ⟨h1, ?_, a3⟩
      show cl (lc + 80) _ _ _ = _
      rw [in_103]
      simp (disch := omega) only [x_4_1, x_80_1_d0, x_80_1_d1, x_80_1_d2, x_80_1_d3, x_80_1_d4, x_6_0, x_35_0, x_79_3_10_d0, x_79_3_10_d1, x_79_3_10_d2, x_79_3_10_d3, x_79_3_10_d4, x_33, x_82, cb_ri, cb_rl, cb_rv, cb_th, cb_ite, ps_s, ps_n, u_103_0, cb, a1, y]
    · obtain ⟨h2, a1, a2, -, a4, a5, -, a7⟩ := wayI (lr + 41) H N b 0 h g I s J L hL hW hl
      have ib := isBeat_c (lr + 77) b g
      rw [if_pos c] at ib
      have n4 : h2 187 0 4 = (N : Int) := by rw [a4]; exact I.1.2.1.2.1.1
      have no := notesOf_c (lr + 75) N b h2 n4 hN
      rw [a4] at no
      have lf := leftOf_l (lr + 77) H N b h2 (h 187 0) L hN n4 a2
      have lo : cl (lr + 79) 250 [aA 12 0, aI b] (hset g 186 0 0 0) = ri ((bsN (lfP (h 187 0) L H N b) N : Nat) : Int) h2 := by
        rw [← lf, in_250]
        simp (disch := omega) only [x_6_0, x_4_1, x_79_2_12_d0, x_79_2_12_d1, x_79_2_12_d2, x_79_2_12_d3, x_79_2_12_d4, x_7_2_I, x_7_2_A, x_7_2_U, x_1, x_7_3_I, x_7_3_A, x_7_3_U, x_61, x_4_3, x_34, x_38_187, x_38_210, x_65, x_62, x_4_2, x_20, x_19, x_17, x_10_3_I, x_10_3_A, x_10_3_U, x_60, x_82, cb_ri, cb_rl, cb_rv, cb_th, cb_ite, ps_s, ps_n, u_250_0, u_250_41, u_250_47, a1, no]
      refine ⟨h2, ?_, a5, a7⟩
      show cl (lr + 80) _ _ _ = _
      rw [in_251]
      simp (disch := omega) only [x_6_0, x_4_1, x_80_1_d0, x_80_1_d1, x_80_1_d2, x_80_1_d3, x_80_1_d4, x_69, x_1, x_60, x_61, x_36, x_33, x_73, x_79_2_12_d0, x_79_2_12_d1, x_79_2_12_d2, x_79_2_12_d3, x_79_2_12_d4, x_82, cb_ri, cb_rl, cb_rv, cb_th, cb_ite, ps_s, ps_n, u_251_0, u_251_12, u_251_13, u_251_27, u_251_32, ib, hs_eq, lo, Int.reduceEq, Int.reduceLT, Int.reduceLE, reduceIte, Int.reduceAdd, Int.reduceSub, Int.reduceMul, Int.reduceNeg, Int.reduceToNat, Bool.false_eq_true, eq_self, if_pos, if_neg]
  · rw [if_neg c] at cb
    refine AGt_e I 2 (by decide) ⟨h, ?_, Sm_r _ _⟩ (fun g s J => ⟨0, hset g 186 0 0 1, ?_, hs_eq _ _ _ _ _, rsc_186 g 1⟩)
    · show cl (lc + 80) _ _ _ = _
      rw [in_103]
      simp (disch := omega) only [x_4_1, x_80_1_d0, x_80_1_d1, x_80_1_d2, x_80_1_d3, x_80_1_d4, x_6_0, x_35_0, x_79_3_10_d0, x_79_3_10_d1, x_79_3_10_d2, x_79_3_10_d3, x_79_3_10_d4, x_33, x_82, cb_ri, cb_rl, cb_rv, cb_th, cb_ite, ps_s, ps_n, u_103_0, cb]
    · show cl (lr + 80) _ _ _ = _
      have ib := isBeat_c (lr + 77) b g
      rw [if_neg c] at ib
      rw [in_251]
      simp (disch := omega) only [x_6_0, x_4_1, x_80_1_d0, x_80_1_d1, x_80_1_d2, x_80_1_d3, x_80_1_d4, x_69, x_1, x_60, x_61, x_36, x_33, x_73, x_79_2_12_d0, x_79_2_12_d1, x_79_2_12_d2, x_79_2_12_d3, x_79_2_12_d4, x_82, cb_ri, cb_rl, cb_rv, cb_th, cb_ite, ps_s, ps_n, u_251_0, u_251_12, u_251_13, u_251_27, u_251_32, ib, hs_eq, Int.reduceEq, Int.reduceLT, Int.reduceLE, reduceIte, Int.reduceAdd, Int.reduceSub, Int.reduceMul, Int.reduceNeg, Int.reduceToNat, Bool.false_eq_true, eq_self, if_pos, if_neg]
theorem ag_go (lc lr H N : Nat) (b : Int) (h : Hp) (I : INV h H N) : AGt t2 (fun h => cl (lc + 80) 104 [aA 11 0, aI b] h) (fun h => cl (lr + 80) 252 [aA 12 0, aI b] h) h := by
  have hH := I.1.2.1.1.2.1
  have cb := checkBeat_c (lc + 78) b h
  obtain ⟨L, W, hL, hW, hl⟩ := INV_law I
  by_cases c : 0 ≤ b ∧ b < 12
  · rw [if_pos c] at cb
    have wi := way_inv (h 187 0) L H N b
    refine AGt_q I (v := (wayW (h 187 0) L H N b).2.2.2.2) ?_ (fun g s J => ?_)
    · obtain ⟨h1, a1, a2, a3⟩ := findI (lc + 74) H N b h I L W
      have y := a2.2.2.2
      refine ⟨h1, ?_, a3⟩
      show cl (lc + 80) _ _ _ = _
      rw [in_104]
      simp (disch := omega) only [x_4_1, x_80_1_d0, x_80_1_d1, x_80_1_d2, x_80_1_d3, x_80_1_d4, x_6_0, x_35_0, x_79_3_10_d0, x_79_3_10_d1, x_79_3_10_d2, x_79_3_10_d3, x_79_3_10_d4, x_33, x_82, cb_ri, cb_rl, cb_rv, cb_th, cb_ite, ps_s, ps_n, u_104_0, cb, a1, y]
    · obtain ⟨h2, a1, a2, -, a4, a5, a6, a7⟩ := wayI (lr + 42) H N b 0 h g I s J L hL hW hl
      have ib := isBeat_c (lr + 77) b g
      rw [if_pos c] at ib
      have n3 : h2 187 0 3 = (H : Int) := by rw [a4]; exact I.1.2.1.1.1
      refine ⟨h2, ?_, a5, a7⟩
      show cl (lr + 80) _ _ _ = _
      rw [wi.2.2.2.2, in_252]
      simp (disch := omega) only [x_6_0, x_4_1, x_80_1_d0, x_80_1_d1, x_80_1_d2, x_80_1_d3, x_80_1_d4, x_69, x_1, x_60, x_61, x_36, x_33, x_73, x_82, x_79_2_12_d0, x_79_2_12_d1, x_79_2_12_d2, x_79_2_12_d3, x_79_2_12_d4, x_7_2_I, x_7_2_A, x_7_2_U, x_7_3_I, x_7_3_A, x_7_3_U, x_4_3, x_34, x_38_187, x_38_211, x_65, x_4_2, x_63, x_79_3_12_d0, x_79_3_12_d1, x_79_3_12_d2, x_79_3_12_d3, x_79_3_12_d4, x_11, x_10_3_I, x_10_3_A, x_10_3_U, cb_ri, cb_rl, cb_rv, cb_th, cb_ite, ps_s, ps_n, u_252_0, u_252_12, u_252_13, u_252_25, u_252_59, u_252_70, u_252_78, ib, hs_eq, a1, Int.reduceEq, Int.reduceLT, Int.reduceLE, reduceIte, Int.reduceAdd, Int.reduceSub, Int.reduceMul, Int.reduceNeg, Int.reduceToNat, Bool.false_eq_true, eq_self, if_pos, if_neg]
      have fb : ∀ x n : Nat, x < H → n < N → 0 ≤ farM (h 187 0) H (-1) n x ∧ farM (h 187 0) H (-1) n x ≤ 63 := fun x n hx hn => farM_b I.1.2.1 hn (Or.inl rfl) (by unfold hmK; rw [if_pos rfl]; exact hx)
      have tb : ∀ x, x < H → 0 ≤ (if (wayW (h 187 0) L H N b).2.2.1 x = -1 then 0 else farM (h 187 0) H (-1) ((wayW (h 187 0) L H N b).2.2.1 x).toNat x) ∧ (if (wayW (h 187 0) L H N b).2.2.1 x = -1 then 0 else farM (h 187 0) H (-1) ((wayW (h 187 0) L H N b).2.2.1 x).toNat x) ≤ 63 := by
        intro x hx
        rcases wi.2.1 x with e | ⟨n, e1, e2, -, -⟩
        · rw [if_pos e]; omega
        · rw [if_neg (by omega), e1, tn]; exact fb x n hx e2.1
      have sb : ∀ n, n ≤ H → 0 ≤ sumI (fun x => if (wayW (h 187 0) L H N b).2.2.1 x = -1 then 0 else farM (h 187 0) H (-1) ((wayW (h 187 0) L H N b).2.2.1 x).toNat x) n ∧ sumI (fun x => if (wayW (h 187 0) L H N b).2.2.1 x = -1 then 0 else farM (h 187 0) H (-1) ((wayW (h 187 0) L H N b).2.2.1 x).toNat x) n ≤ 63 * (n : Int) := by
        intro n
        induction n with
        | zero => intro _; exact ⟨Int.le_refl _, Int.le_refl _⟩
        | succ n ih =>
          intro hn
          have := ih (by omega)
          have := tb n (by omega)
          simp only [sumI]
          omega
      refine loop_up (F := fun x => run (lr + 79) 252 34 [aA 12 0, aI b, aI (sumI (fun x => if (wayW (h 187 0) L H N b).2.2.1 x = -1 then 0 else farM (h 187 0) H (-1) ((wayW (h 187 0) L H N b).2.2.1 x).toNat x) x), aI (x : Int)] [] h2) (N := H) ?_ ?_ 0 (by omega)
      · intro x hx
        have y := a2.2 x (by omega)
        have s1 := sb x (by omega)
        have t1 := tb x hx
        show run _ _ _ _ _ _ = run _ _ _ _ _ _
        simp only [sumI]
        rcases wi.2.1 x with e | ⟨n, e1, e2, -, -⟩
        · rw [e] at y
          rw [if_pos e, hd_252_34]
          simp (disch := omega) only [x_6_0, x_4_1, x_80_1_d0, x_80_1_d1, x_80_1_d2, x_80_1_d3, x_80_1_d4, x_69, x_1, x_60, x_61, x_36, x_33, x_73, x_82, x_79_2_12_d0, x_79_2_12_d1, x_79_2_12_d2, x_79_2_12_d3, x_79_2_12_d4, x_7_2_I, x_7_2_A, x_7_2_U, x_7_3_I, x_7_3_A, x_7_3_U, x_4_3, x_34, x_38_187, x_38_211, x_65, x_4_2, x_63, x_79_3_12_d0, x_79_3_12_d1, x_79_3_12_d2, x_79_3_12_d3, x_79_3_12_d4, x_11, x_10_3_I, x_10_3_A, x_10_3_U, cb_ri, cb_rl, cb_rv, cb_th, cb_ite, ps_s, ps_n, u_252_0, u_252_12, u_252_13, u_252_25, u_252_59, u_252_70, u_252_78, n3, tn, y, Int.reduceEq, Int.reduceLT, Int.reduceLE, reduceIte, Int.reduceAdd, Int.reduceSub, Int.reduceMul, Int.reduceNeg, Int.reduceToNat, Bool.false_eq_true, eq_self, if_pos, if_neg, ci, w32_id, Int.add_zero]
        · rw [e1] at y
          have ne : ¬ (n : Int) = -1 := by omega
          have wy := way_m (lr + 77) x n H N h2 (by rw [a4]; exact I.1.2.1) e2.1 (Or.inl hx)
          rw [a4, a6] at wy
          have wy : _ = ri (farM (h 187 0) H (-1) n x) h2 := wy
          rw [e1, if_neg (by omega), tn] at t1 ⊢
          rw [hd_252_34]
          simp (disch := omega) only [x_6_0, x_4_1, x_80_1_d0, x_80_1_d1, x_80_1_d2, x_80_1_d3, x_80_1_d4, x_69, x_1, x_60, x_61, x_36, x_33, x_73, x_82, x_79_2_12_d0, x_79_2_12_d1, x_79_2_12_d2, x_79_2_12_d3, x_79_2_12_d4, x_7_2_I, x_7_2_A, x_7_2_U, x_7_3_I, x_7_3_A, x_7_3_U, x_4_3, x_34, x_38_187, x_38_211, x_65, x_4_2, x_63, x_79_3_12_d0, x_79_3_12_d1, x_79_3_12_d2, x_79_3_12_d3, x_79_3_12_d4, x_11, x_10_3_I, x_10_3_A, x_10_3_U, cb_ri, cb_rl, cb_rv, cb_th, cb_ite, ps_s, ps_n, u_252_0, u_252_12, u_252_13, u_252_25, u_252_59, u_252_70, u_252_78, n3, tn, y, ne, wy, Int.reduceEq, Int.reduceLT, Int.reduceLE, reduceIte, Int.reduceAdd, Int.reduceSub, Int.reduceMul, Int.reduceNeg, Int.reduceToNat, Bool.false_eq_true, eq_self, if_pos, if_neg, ci, w32_id]
      · show run _ _ _ _ _ _ = _
        rw [hd_252_34]
        simp (disch := omega) only [x_6_0, x_4_1, x_80_1_d0, x_80_1_d1, x_80_1_d2, x_80_1_d3, x_80_1_d4, x_69, x_1, x_60, x_61, x_36, x_33, x_73, x_82, x_79_2_12_d0, x_79_2_12_d1, x_79_2_12_d2, x_79_2_12_d3, x_79_2_12_d4, x_7_2_I, x_7_2_A, x_7_2_U, x_7_3_I, x_7_3_A, x_7_3_U, x_4_3, x_34, x_38_187, x_38_211, x_65, x_4_2, x_63, x_79_3_12_d0, x_79_3_12_d1, x_79_3_12_d2, x_79_3_12_d3, x_79_3_12_d4, x_11, x_10_3_I, x_10_3_A, x_10_3_U, cb_ri, cb_rl, cb_rv, cb_th, cb_ite, ps_s, ps_n, u_252_0, u_252_12, u_252_13, u_252_25, u_252_59, u_252_70, u_252_78, n3, Int.reduceEq, Int.reduceLT, Int.reduceLE, reduceIte, Int.reduceAdd, Int.reduceSub, Int.reduceMul, Int.reduceNeg, Int.reduceToNat, Bool.false_eq_true, eq_self, if_pos, if_neg]
  · rw [if_neg c] at cb
    refine AGt_e I 2 (by decide) ⟨h, ?_, Sm_r _ _⟩ (fun g s J => ⟨0, hset g 186 0 0 1, ?_, hs_eq _ _ _ _ _, rsc_186 g 1⟩)
    · show cl (lc + 80) _ _ _ = _
      rw [in_104]
      simp (disch := omega) only [x_4_1, x_80_1_d0, x_80_1_d1, x_80_1_d2, x_80_1_d3, x_80_1_d4, x_6_0, x_35_0, x_79_3_10_d0, x_79_3_10_d1, x_79_3_10_d2, x_79_3_10_d3, x_79_3_10_d4, x_33, x_82, cb_ri, cb_rl, cb_rv, cb_th, cb_ite, ps_s, ps_n, u_104_0, cb]
    · show cl (lr + 80) _ _ _ = _
      have ib := isBeat_c (lr + 77) b g
      rw [if_neg c] at ib
      rw [in_252]
      simp (disch := omega) only [x_6_0, x_4_1, x_80_1_d0, x_80_1_d1, x_80_1_d2, x_80_1_d3, x_80_1_d4, x_69, x_1, x_60, x_61, x_36, x_33, x_73, x_82, x_79_2_12_d0, x_79_2_12_d1, x_79_2_12_d2, x_79_2_12_d3, x_79_2_12_d4, x_7_2_I, x_7_2_A, x_7_2_U, x_7_3_I, x_7_3_A, x_7_3_U, x_4_3, x_34, x_38_187, x_38_211, x_65, x_4_2, x_63, x_79_3_12_d0, x_79_3_12_d1, x_79_3_12_d2, x_79_3_12_d3, x_79_3_12_d4, x_11, x_10_3_I, x_10_3_A, x_10_3_U, cb_ri, cb_rl, cb_rv, cb_th, cb_ite, ps_s, ps_n, u_252_0, u_252_12, u_252_13, u_252_25, u_252_59, u_252_70, u_252_78, ib, hs_eq, Int.reduceEq, Int.reduceLT, Int.reduceLE, reduceIte, Int.reduceAdd, Int.reduceSub, Int.reduceMul, Int.reduceNeg, Int.reduceToNat, Bool.false_eq_true, eq_self, if_pos, if_neg]
theorem ag_third (lc lr H N : Nat) (b : Int) (h : Hp) (I : INV h H N) : AGt t2 (fun h => cl (lc + 80) 105 [aA 11 0, aI b] h) (fun h => cl (lr + 80) 253 [aA 12 0, aI b] h) h := by
  have hN := I.1.2.1.2.1.2.1
  have cb := checkBeat_c (lc + 78) b h
  obtain ⟨L, W, hL, hW, hl⟩ := INV_law I
  by_cases c : 0 ≤ b ∧ b < 12
  · rw [if_pos c] at cb
    refine AGt_q I (v := ((bsN (fun n => lfP (h 187 0) L H N b n && takB (h 187 0) L n (h 187 0 (50 + 4 * n))) N : Nat) : Int)) ?_ (fun g s J => ?_)
    · obtain ⟨h1, a1, a2, a3⟩ := findI (lc + 74) H N b h I L W
      have y := a2.2.2.1
      rw [way_left] at y
      have R1 : INV h1 H N := INV_scr (Sm_w (fun _ _ => scr_c) a3) I
      have k7 : h1 187 0 = h 187 0 := Sm_187 a3 (by unfold csc stTag; omega)
      have W1 : LawW h1 0 L := LawW_e (fun tt j ht => a3 tt 0 j (by unfold csc stTag; omega)) W
      have main := loop_p (S := Hp) (F := fun n (q : Hp) => run (lc + 79) 105 20 [aA 11 0, aI b, aI ((bsN (fun n => lfP (h 187 0) L H N b n && takB (h 187 0) L n (h 187 0 (50 + 4 * n))) n : Nat) : Int), aI (n : Int)] [] q)
        (I := fun n q => ∀ tt k j, ¬ lwFr 0 tt k → q tt k j = h1 tt k j)
        (Q := fun r => ∃ h', r = ri ((bsN (fun n => lfP (h 187 0) L H N b n && takB (h 187 0) L n (h 187 0 (50 + 4 * n))) N : Nat) : Int) h' ∧ ∀ tt k j, ¬ lwFr 0 tt k → h' tt k j = h1 tt k j) (N := N) ?_ ?_ h1 (fun _ _ _ _ => rfl)
      · obtain ⟨h', e1, e2⟩ := main
        refine ⟨h', ?_, Sm_t a3 (csc_lw e2)⟩
        show cl (lc + 80) _ _ _ = _
        rw [← e1, in_105]
        simp (disch := omega) only [x_4_1, x_80_1_d0, x_80_1_d1, x_80_1_d2, x_80_1_d3, x_80_1_d4, x_6_0, x_35_0, x_79_3_10_d0, x_79_3_10_d1, x_79_3_10_d2, x_79_3_10_d3, x_79_3_10_d4, x_1, x_7_2_I, x_7_2_A, x_7_2_U, x_7_3_I, x_7_3_A, x_7_3_U, x_61, x_4_3, x_33, x_65, x_21, x_17, x_68, x_79_3_1_d0, x_79_3_1_d1, x_79_3_1_d2, x_79_3_1_d3, x_79_3_1_d4, x_4_2, x_20, x_18, x_10_3_I, x_10_3_A, x_10_3_U, x_60, x_82, cb_ri, cb_rl, cb_rv, cb_th, cb_ite, ps_s, ps_n, u_105_0, u_105_66, u_105_72, cb, a1]
        rfl
      · intro n q hn hq
        have q40 : q 140 0 0 = (N : Int) := by rw [hq _ _ _ (by unfold lwFr; omega)]; exact R1.1.1.2.1.1
        have q67 : q 167 0 0 = ((bsN (lfP (h 187 0) L H N b) N : Nat) : Int) := by rw [hq _ _ _ (by unfold lwFr; omega)]; exact y
        have bt := bit_n (a := bsN (lfP (h 187 0) L H N b) N) (i := n) (by omega) (Nat.lt_of_lt_of_le (bsN_mono _ hN) (by omega))
        rw [bsN_bit, show (decide (n < N) && lfP (h 187 0) L H N b n) = lfP (h 187 0) L H N b n by simp [hn]] at bt
        have Rq : RS q 0 (h 187 0) H N := RS_lw hq (by rw [← k7]; exact R1.1.1)
        have Wq : LawW q 0 L := LawW_same hq W1
        obtain ⟨q1, t1, t2⟩ := takes_k (lc + 77) 0 0 n H N (h 187 0) q L Rq I.1.2.1 Wq hn
        have so := bs_or (fun n => lfP (h 187 0) L H N b n && takB (h 187 0) L n (h 187 0 (50 + 4 * n))) (show n < 31 by omega)
        try simp only
        by_cases c1 : lfP (h 187 0) L H N b n = true
        · rw [if_pos c1] at bt
          cases c3 : takB (h 187 0) L n (h 187 0 (50 + 4 * n)) with
          | true =>
            rw [c3] at t1
            have t1 : _ = ri 1 q1 := t1
            refine ⟨q1, ?_, fun tt k j hf => by rw [t2 tt k j hf]; exact hq tt k j hf⟩
            rw [bs_s _ (by simp [c1, c3]), hd_105_20]
            simp (disch := omega) only [x_4_1, x_80_1_d0, x_80_1_d1, x_80_1_d2, x_80_1_d3, x_80_1_d4, x_6_0, x_35_0, x_79_3_10_d0, x_79_3_10_d1, x_79_3_10_d2, x_79_3_10_d3, x_79_3_10_d4, x_1, x_7_2_I, x_7_2_A, x_7_2_U, x_7_3_I, x_7_3_A, x_7_3_U, x_61, x_4_3, x_33, x_65, x_21, x_17, x_68, x_79_3_1_d0, x_79_3_1_d1, x_79_3_1_d2, x_79_3_1_d3, x_79_3_1_d4, x_4_2, x_20, x_18, x_10_3_I, x_10_3_A, x_10_3_U, x_60, x_82, cb_ri, cb_rl, cb_rv, cb_th, cb_ite, ps_s, ps_n, u_105_0, u_105_66, u_105_72, q40, q67, bt, t1, so, Int.reduceEq, Int.reduceLT, Int.reduceLE, reduceIte, Int.reduceAdd, Int.reduceSub, Int.reduceMul, Int.reduceNeg, Int.reduceToNat, Bool.false_eq_true, eq_self, if_pos, if_neg, ci, w32_id]
          | false =>
            rw [c3] at t1
            have t1 : _ = ri 0 q1 := t1
            refine ⟨q1, ?_, fun tt k j hf => by rw [t2 tt k j hf]; exact hq tt k j hf⟩
            rw [bs_f _ (by simp [c3]), hd_105_20]
            simp (disch := omega) only [x_4_1, x_80_1_d0, x_80_1_d1, x_80_1_d2, x_80_1_d3, x_80_1_d4, x_6_0, x_35_0, x_79_3_10_d0, x_79_3_10_d1, x_79_3_10_d2, x_79_3_10_d3, x_79_3_10_d4, x_1, x_7_2_I, x_7_2_A, x_7_2_U, x_7_3_I, x_7_3_A, x_7_3_U, x_61, x_4_3, x_33, x_65, x_21, x_17, x_68, x_79_3_1_d0, x_79_3_1_d1, x_79_3_1_d2, x_79_3_1_d3, x_79_3_1_d4, x_4_2, x_20, x_18, x_10_3_I, x_10_3_A, x_10_3_U, x_60, x_82, cb_ri, cb_rl, cb_rv, cb_th, cb_ite, ps_s, ps_n, u_105_0, u_105_66, u_105_72, q40, q67, bt, t1, Int.reduceEq, Int.reduceLT, Int.reduceLE, reduceIte, Int.reduceAdd, Int.reduceSub, Int.reduceMul, Int.reduceNeg, Int.reduceToNat, Bool.false_eq_true, eq_self, if_pos, if_neg, ci, w32_id]
        · rw [if_neg c1] at bt
          refine ⟨q, ?_, hq⟩
          rw [bs_f _ (by simp [c1]), hd_105_20]
          simp (disch := omega) only [x_4_1, x_80_1_d0, x_80_1_d1, x_80_1_d2, x_80_1_d3, x_80_1_d4, x_6_0, x_35_0, x_79_3_10_d0, x_79_3_10_d1, x_79_3_10_d2, x_79_3_10_d3, x_79_3_10_d4, x_1, x_7_2_I, x_7_2_A, x_7_2_U, x_7_3_I, x_7_3_A, x_7_3_U, x_61, x_4_3, x_33, x_65, x_21, x_17, x_68, x_79_3_1_d0, x_79_3_1_d1, x_79_3_1_d2, x_79_3_1_d3, x_79_3_1_d4, x_4_2, x_20, x_18, x_10_3_I, x_10_3_A, x_10_3_U, x_60, x_82, cb_ri, cb_rl, cb_rv, cb_th, cb_ite, ps_s, ps_n, u_105_0, u_105_66, u_105_72, q40, q67, bt, Int.reduceEq, Int.reduceLT, Int.reduceLE, reduceIte, Int.reduceAdd, Int.reduceSub, Int.reduceMul, Int.reduceNeg, Int.reduceToNat, Bool.false_eq_true, eq_self, if_pos, if_neg, ci, w32_id]
      · intro q hq
        have q40 : q 140 0 0 = (N : Int) := by rw [hq _ _ _ (by unfold lwFr; omega)]; exact R1.1.1.2.1.1
        refine ⟨q, ?_, hq⟩
        try simp only
        rw [hd_105_20]
        simp (disch := omega) only [x_4_1, x_80_1_d0, x_80_1_d1, x_80_1_d2, x_80_1_d3, x_80_1_d4, x_6_0, x_35_0, x_79_3_10_d0, x_79_3_10_d1, x_79_3_10_d2, x_79_3_10_d3, x_79_3_10_d4, x_1, x_7_2_I, x_7_2_A, x_7_2_U, x_7_3_I, x_7_3_A, x_7_3_U, x_61, x_4_3, x_33, x_65, x_21, x_17, x_68, x_79_3_1_d0, x_79_3_1_d1, x_79_3_1_d2, x_79_3_1_d3, x_79_3_1_d4, x_4_2, x_20, x_18, x_10_3_I, x_10_3_A, x_10_3_U, x_60, x_82, cb_ri, cb_rl, cb_rv, cb_th, cb_ite, ps_s, ps_n, u_105_0, u_105_66, u_105_72, q40, Int.reduceEq, Int.reduceLT, Int.reduceLE, reduceIte, Int.reduceAdd, Int.reduceSub, Int.reduceMul, Int.reduceNeg, Int.reduceToNat, Bool.false_eq_true, eq_self, if_pos, if_neg]
    · obtain ⟨h2, a1, a2, -, a4, a5, a6, a7⟩ := wayI (lr + 42) H N b 0 h g I s J L hL hW hl
      have ib := isBeat_c (lr + 77) b g
      rw [if_pos c] at ib
      have n4 : h2 187 0 4 = (N : Int) := by rw [a4]; exact I.1.2.1.2.1.1
      have no := notesOf_c (lr + 76) N b h2 n4 hN
      rw [a4] at no
      obtain ⟨h3, b1, b2⟩ := thirdOf_m (lr + 45) H N h2 L (atB (h 187 0) b) (fun n => decide ((wayW (h 187 0) L H N b).2.1 n = -1)) (by rw [a4]; exact hL) (by rw [a4]; exact I.1.2.1) (fun n hn => by rw [a2.1 n (by omega), decide_eq_true_eq])
      rw [a4] at b1
      refine ⟨h3, ?_, by rw [b2 _ _ _ (by unfold mbFr maFr; omega)]; exact a5, Sm_t a7 (rsc_mb b2)⟩
      show cl (lr + 80) _ _ _ = ri ((bsN (fun n => (atB (h 187 0) b n && decide ((wayW (h 187 0) L H N b).2.1 n = -1)) && takB (h 187 0) L n (h 187 0 (50 + 4 * n))) N : Nat) : Int) h3
      rw [in_253]
      simp (disch := omega) only [x_6_0, x_4_1, x_80_1_d0, x_80_1_d1, x_80_1_d2, x_80_1_d3, x_80_1_d4, x_69, x_1, x_60, x_61, x_36, x_33, x_73, x_82, x_79_2_12_d0, x_79_2_12_d1, x_79_2_12_d2, x_79_2_12_d3, x_79_2_12_d4, cb_ri, cb_rl, cb_rv, cb_th, cb_ite, ps_s, ps_n, u_253_0, u_253_12, u_253_13, u_253_25, ib, hs_eq, a1, no, b1, Int.reduceEq, Int.reduceLT, Int.reduceLE, reduceIte, Int.reduceAdd, Int.reduceSub, Int.reduceMul, Int.reduceNeg, Int.reduceToNat, Bool.false_eq_true, eq_self, if_pos, if_neg]
  · rw [if_neg c] at cb
    refine AGt_e I 2 (by decide) ⟨h, ?_, Sm_r _ _⟩ (fun g s J => ⟨0, hset g 186 0 0 1, ?_, hs_eq _ _ _ _ _, rsc_186 g 1⟩)
    · show cl (lc + 80) _ _ _ = _
      rw [in_105]
      simp (disch := omega) only [x_4_1, x_80_1_d0, x_80_1_d1, x_80_1_d2, x_80_1_d3, x_80_1_d4, x_6_0, x_35_0, x_79_3_10_d0, x_79_3_10_d1, x_79_3_10_d2, x_79_3_10_d3, x_79_3_10_d4, x_1, x_7_2_I, x_7_2_A, x_7_2_U, x_7_3_I, x_7_3_A, x_7_3_U, x_61, x_4_3, x_33, x_65, x_21, x_17, x_68, x_79_3_1_d0, x_79_3_1_d1, x_79_3_1_d2, x_79_3_1_d3, x_79_3_1_d4, x_4_2, x_20, x_18, x_10_3_I, x_10_3_A, x_10_3_U, x_60, x_82, cb_ri, cb_rl, cb_rv, cb_th, cb_ite, ps_s, ps_n, u_105_0, u_105_66, u_105_72, cb]
    · show cl (lr + 80) _ _ _ = _
      have ib := isBeat_c (lr + 77) b g
      rw [if_neg c] at ib
      rw [in_253]
      simp (disch := omega) only [x_6_0, x_4_1, x_80_1_d0, x_80_1_d1, x_80_1_d2, x_80_1_d3, x_80_1_d4, x_69, x_1, x_60, x_61, x_36, x_33, x_73, x_82, x_79_2_12_d0, x_79_2_12_d1, x_79_2_12_d2, x_79_2_12_d3, x_79_2_12_d4, cb_ri, cb_rl, cb_rv, cb_th, cb_ite, ps_s, ps_n, u_253_0, u_253_12, u_253_13, u_253_25, ib, hs_eq, Int.reduceEq, Int.reduceLT, Int.reduceLE, reduceIte, Int.reduceAdd, Int.reduceSub, Int.reduceMul, Int.reduceNeg, Int.reduceToNat, Bool.false_eq_true, eq_self, if_pos, if_neg]
theorem ag_free (lc lr H N : Nat) (h : Hp) (I : INV h H N) : AGp (fun h => cl (lc + 80) 132 [aA 11 0] h) (fun h => cl (lr + 80) 295 [aA 12 0] h) h := by
  have hH := I.1.2.1.1.2.1
  have x5 := I.1.1.2.2.1.2.1
  obtain ⟨L, W, hL, hW, hl⟩ := INV_law I
  refine AGp_q I (v := ((bsN (fun x => decide ((wayW (h 187 0) L H N (h 187 0 5)).2.2.1 x = -1)) H : Nat) : Int)) ?_ (fun g s J => ?_)
  · obtain ⟨h1, a1, a2, a3⟩ := findI (lc + 74) H N (h 187 0 5) h I L W
    have q39 : h1 139 0 0 = (H : Int) := by rw [a3 _ _ _ (by unfold csc stTag; omega)]; exact I.1.1.1.1
    refine ⟨h1, ?_, a3⟩
    show cl (lc + 80) _ _ _ = _
    rw [in_132]
    simp (disch := omega) only [x_6_0, x_35_0, x_33, x_79_3_10_d0, x_79_3_10_d1, x_79_3_10_d2, x_79_3_10_d3, x_79_3_10_d4, x_1, x_7_1_I, x_7_1_A, x_7_1_U, x_7_2_I, x_7_2_A, x_7_2_U, x_61, x_4_2, x_65, x_34, x_38_166, x_63, x_4_1, x_20, x_18, x_10_2_I, x_10_2_A, x_10_2_U, x_60, x_82, cb_ri, cb_rl, cb_rv, cb_th, cb_ite, ps_s, ps_n, u_132_0, u_132_52, u_132_58, x5, a1]
    refine loop_up (F := fun x => run (lc + 79) 132 22 [aA 11 0, aI ((bsN (fun x => decide ((wayW (h 187 0) L H N (h 187 0 5)).2.2.1 x = -1)) x : Nat) : Int), aI (x : Int)] [] h1) (N := H) ?_ ?_ 0 (by omega)
    · intro x hx
      have y := a2.2.1 x (by omega)
      show run _ _ _ _ _ _ = run _ _ _ _ _ _
      rw [hd_132_22]
      by_cases c : (wayW (h 187 0) L H N (h 187 0 5)).2.2.1 x = -1
      · rw [c] at y
        rw [bs_s _ (decide_eq_true c)]
        simp (disch := omega) only [x_6_0, x_35_0, x_33, x_79_3_10_d0, x_79_3_10_d1, x_79_3_10_d2, x_79_3_10_d3, x_79_3_10_d4, x_1, x_7_1_I, x_7_1_A, x_7_1_U, x_7_2_I, x_7_2_A, x_7_2_U, x_61, x_4_2, x_65, x_34, x_38_166, x_63, x_4_1, x_20, x_18, x_10_2_I, x_10_2_A, x_10_2_U, x_60, x_82, cb_ri, cb_rl, cb_rv, cb_th, cb_ite, ps_s, ps_n, u_132_0, u_132_52, u_132_58, q39, tn, y, bs_or, Int.reduceEq, Int.reduceLT, Int.reduceLE, reduceIte, Int.reduceAdd, Int.reduceSub, Int.reduceMul, Int.reduceNeg, Int.reduceToNat, Bool.false_eq_true, eq_self, if_pos, if_neg, ci, w32_id]
      · rw [bs_f _ (decide_eq_false c)]
        simp (disch := omega) only [x_6_0, x_35_0, x_33, x_79_3_10_d0, x_79_3_10_d1, x_79_3_10_d2, x_79_3_10_d3, x_79_3_10_d4, x_1, x_7_1_I, x_7_1_A, x_7_1_U, x_7_2_I, x_7_2_A, x_7_2_U, x_61, x_4_2, x_65, x_34, x_38_166, x_63, x_4_1, x_20, x_18, x_10_2_I, x_10_2_A, x_10_2_U, x_60, x_82, cb_ri, cb_rl, cb_rv, cb_th, cb_ite, ps_s, ps_n, u_132_0, u_132_52, u_132_58, q39, tn, y, c, Int.reduceEq, Int.reduceLT, Int.reduceLE, reduceIte, Int.reduceAdd, Int.reduceSub, Int.reduceMul, Int.reduceNeg, Int.reduceToNat, Bool.false_eq_true, eq_self, if_pos, if_neg, ci, w32_id]
    · show run _ _ _ _ _ _ = _
      rw [hd_132_22]
      simp (disch := omega) only [x_6_0, x_35_0, x_33, x_79_3_10_d0, x_79_3_10_d1, x_79_3_10_d2, x_79_3_10_d3, x_79_3_10_d4, x_1, x_7_1_I, x_7_1_A, x_7_1_U, x_7_2_I, x_7_2_A, x_7_2_U, x_61, x_4_2, x_65, x_34, x_38_166, x_63, x_4_1, x_20, x_18, x_10_2_I, x_10_2_A, x_10_2_U, x_60, x_82, cb_ri, cb_rl, cb_rv, cb_th, cb_ite, ps_s, ps_n, u_132_0, u_132_52, u_132_58, q39, Int.reduceEq, Int.reduceLT, Int.reduceLE, reduceIte, Int.reduceAdd, Int.reduceSub, Int.reduceMul, Int.reduceNeg, Int.reduceToNat, Bool.false_eq_true, eq_self, if_pos, if_neg]
  · obtain ⟨h2, a1, a2, -, a4, a5, a6, a7⟩ := wayI (lr + 42) H N (h 187 0 5) 0 h g I s J L hL hW hl
    have n3 : h2 187 0 3 = (H : Int) := by rw [a4]; exact I.1.2.1.1.1
    have g5 : hset g 186 0 0 0 187 0 5 = h 187 0 5 := by rw [h186_m, Sm_187 s scr_187]
    refine ⟨h2, ?_, a7⟩
    show cl (lr + 80) _ _ _ = _
    rw [in_295]
    simp (disch := omega) only [x_6_0, x_1, x_36, x_34, x_38_187, x_38_211, x_79_2_12_d0, x_79_2_12_d1, x_79_2_12_d2, x_79_2_12_d3, x_79_2_12_d4, x_7_1_I, x_7_1_A, x_7_1_U, x_7_2_I, x_7_2_A, x_7_2_U, x_61, x_4_2, x_65, x_4_1, x_63, x_20, x_60, x_18, x_10_2_I, x_10_2_A, x_10_2_U, x_82, cb_ri, cb_rl, cb_rv, cb_th, cb_ite, ps_s, ps_n, u_295_0, u_295_46, u_295_47, u_295_55, g5, a1, Int.reduceEq, Int.reduceLT, Int.reduceLE, reduceIte, Int.reduceAdd, Int.reduceSub, Int.reduceMul, Int.reduceNeg, Int.reduceToNat, Bool.false_eq_true, eq_self, if_pos, if_neg]
    refine loop_up (F := fun x => run (lr + 79) 295 19 [aA 12 0, aI ((bsN (fun x => decide ((wayW (h 187 0) L H N (h 187 0 5)).2.2.1 x = -1)) x : Nat) : Int), aI (x : Int)] [] h2) (N := H) ?_ ?_ 0 (by omega)
    · intro x hx
      have y := a2.2 x (by omega)
      show run _ _ _ _ _ _ = run _ _ _ _ _ _
      rw [hd_295_19]
      by_cases c : (wayW (h 187 0) L H N (h 187 0 5)).2.2.1 x = -1
      · rw [c] at y
        rw [bs_s _ (decide_eq_true c)]
        simp (disch := omega) only [x_6_0, x_1, x_36, x_34, x_38_187, x_38_211, x_79_2_12_d0, x_79_2_12_d1, x_79_2_12_d2, x_79_2_12_d3, x_79_2_12_d4, x_7_1_I, x_7_1_A, x_7_1_U, x_7_2_I, x_7_2_A, x_7_2_U, x_61, x_4_2, x_65, x_4_1, x_63, x_20, x_60, x_18, x_10_2_I, x_10_2_A, x_10_2_U, x_82, cb_ri, cb_rl, cb_rv, cb_th, cb_ite, ps_s, ps_n, u_295_0, u_295_46, u_295_47, u_295_55, n3, tn, y, bs_or, Int.reduceEq, Int.reduceLT, Int.reduceLE, reduceIte, Int.reduceAdd, Int.reduceSub, Int.reduceMul, Int.reduceNeg, Int.reduceToNat, Bool.false_eq_true, eq_self, if_pos, if_neg, ci, w32_id]
      · rw [bs_f _ (decide_eq_false c)]
        simp (disch := omega) only [x_6_0, x_1, x_36, x_34, x_38_187, x_38_211, x_79_2_12_d0, x_79_2_12_d1, x_79_2_12_d2, x_79_2_12_d3, x_79_2_12_d4, x_7_1_I, x_7_1_A, x_7_1_U, x_7_2_I, x_7_2_A, x_7_2_U, x_61, x_4_2, x_65, x_4_1, x_63, x_20, x_60, x_18, x_10_2_I, x_10_2_A, x_10_2_U, x_82, cb_ri, cb_rl, cb_rv, cb_th, cb_ite, ps_s, ps_n, u_295_0, u_295_46, u_295_47, u_295_55, n3, tn, y, c, bs_z, Int.reduceEq, Int.reduceLT, Int.reduceLE, reduceIte, Int.reduceAdd, Int.reduceSub, Int.reduceMul, Int.reduceNeg, Int.reduceToNat, Bool.false_eq_true, eq_self, if_pos, if_neg, ci, w32_id]
    · show run _ _ _ _ _ _ = _
      rw [hd_295_19]
      simp (disch := omega) only [x_6_0, x_1, x_36, x_34, x_38_187, x_38_211, x_79_2_12_d0, x_79_2_12_d1, x_79_2_12_d2, x_79_2_12_d3, x_79_2_12_d4, x_7_1_I, x_7_1_A, x_7_1_U, x_7_2_I, x_7_2_A, x_7_2_U, x_61, x_4_2, x_65, x_4_1, x_63, x_20, x_60, x_18, x_10_2_I, x_10_2_A, x_10_2_U, x_82, cb_ri, cb_rl, cb_rv, cb_th, cb_ite, ps_s, ps_n, u_295_0, u_295_46, u_295_47, u_295_55, n3, Int.reduceEq, Int.reduceLT, Int.reduceLE, reduceIte, Int.reduceAdd, Int.reduceSub, Int.reduceMul, Int.reduceNeg, Int.reduceToNat, Bool.false_eq_true, eq_self, if_pos, if_neg]
