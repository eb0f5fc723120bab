/-! TURN. -/
theorem ag_turn (lc lr H N : Nat) (w : Int) (h : Hp) (I : INV h H N) : AGt t0 (fun h => cl (lc + 80) 93 [aA 11 0, aI w] h) (fun h => cl (lr + 80) 239 [aA 12 0, aI w] h) h := by
  have hH := I.1.2.1.1.2.1
  have hN := I.1.2.1.2.1.2.1
  obtain ⟨L, W, hL, hW, hl⟩ := INV_law I
  have ct := checkTurns_c (lc + 78) w 60 h
  by_cases d : 1 ≤ w ∧ w ≤ 60
  · rw [if_pos (by omega)] at ct
    obtain ⟨n, rfl⟩ := Int.eq_ofNat_of_zero_le (show 0 ≤ w by omega)
    obtain ⟨⟨r1, r2, r3⟩, tp, im, ⟨S, nw, p1, p2, p3, p4, p5, p6⟩, f, ad⟩ := I
    have I : INV h H N := ⟨⟨r1, r2, r3⟩, tp, im, ⟨S, nw, p1, p2, p3, p4, p5, p6⟩, f, ad⟩
    obtain ⟨hr, k1, k2, k3, k4, k5, k6⟩ := remember_c (lc + 76) H N S nw h (h 187 0) r1 p1 p3 p4 p5
    have Wr : LawW hr 0 L := LawW_e (fun tt j ht => k6 tt 0 j (by unfold reFr stFr stTag; omega)) W
    have ok := fun k => plI_ok (dr := true) r2 (RL_GL r1.2.2.2) hL k
    have main := loop_p (S := Hp) (F := fun i (q : Hp) => run (lc + 79) 93 36 [aA 11 0, aI (n : Int), aI ((goS (h 187 0) L H N true i : Nat) : Int), aI (i : Int)] [] q)
      (I := fun i q => RS q 0 (plI (h 187 0) L H N true i) H N ∧ ∀ tt k j, ¬ pyFr 0 tt k → q tt k j = hr tt k j)
      (Q := fun r => ∃ q : Hp, r = ri ((goS (h 187 0) L H N true n : Nat) : Int) q ∧ RS q 0 (plI (h 187 0) L H N true n) H N ∧ ∀ tt k j, ¬ pyFr 0 tt k → q tt k j = hr tt k j) (N := n) ?_ ?_ hr ⟨k5, fun _ _ _ _ => rfl⟩
    · obtain ⟨h1, f1, f2, f3⟩ := main
      have n0 : ∀ tt k, k = 3 + (nw + 1) % 12 ∨ tt = 125 ∨ tt = 126 → ¬ pyFr 0 tt k := fun tt k ht => by unfold pyFr stFr fwFr lwFr stTag; omega
      have tot : ∀ tt k j, ¬ (stFr 0 tt k ∨ reFr nw tt k ∨ csc tt k) → h1 tt k j = h tt k j := fun tt k j hf => by
        rw [f3 tt k j (fun z => hf (by
          rcases z with z | z
          · exact Or.inl z
          · refine Or.inr (Or.inr ?_)
            unfold fwFr lwFr at z
            unfold csc
            omega))]
        exact k6 tt k j (fun z => hf (Or.inr (Or.inl z)))
      let v : Int := ((goS (h 187 0) L H N true n : Nat) : Int)
      let g : Hp := hset (hset h1 25 0 0 v) 186 0 0 0
      have s : Sm (fun tt k => rsc tt k ∨ (tt = 25 ∧ k = 0)) h1 g := fun tt k j hf => by
        have n1 : ¬ rsc tt k := fun z => hf (Or.inl z)
        have n2 : ¬ (tt = 25 ∧ k = 0) := fun z => hf (Or.inr z)
        unfold rsc at n1
        show hset (hset h1 25 0 0 v) 186 0 0 0 tt k j = _
        rw [hs_o (by omega), hs_o (by omega)]
      have o1 : ∀ tt j, 187 ≤ tt → h1 tt 0 j = h tt 0 j := fun tt j ht => tot tt 0 j (by unfold reFr stFr csc stTag; omega)
      have g192 : g 192 0 0 = (S : Int) := by rw [s _ _ _ (by unfold rsc; omega), o1 _ _ (by omega)]; exact p2
      have g7 : g 187 0 = h 187 0 := funext (fun j => by rw [s _ _ _ (by unfold rsc; omega), o1 _ _ (by omega)])
      obtain ⟨g', b1, b2, b3, b4, b5⟩ := remembers_m (lr + 78) S g g192 p3
      have g'7 : g' 187 0 = h 187 0 := by rw [← g7]; funext j; exact b5 _ _ _ (by omega)
      have g'6 : g' 206 0 0 = -1 := by rw [b5 _ _ _ (by omega), s _ _ _ (by unfold rsc; omega), o1 _ _ (by omega)]; exact ad
      obtain ⟨h2, e1, e2, e3⟩ := goes_m (lr + 40) H N n true g' L (by rw [g'7]; exact hL) (by rw [g'7]; exact r2) (by rw [g'7]; exact RL_GL r1.2.2.2) hW hl g'6 (by omega)
      rw [g'7] at e1 e2
      obtain ⟨j1, j2, j3⟩ := AG_act (h2 := h2) (H' := H) (N' := N) I p1 p4 tot (by rw [f3 _ _ _ (n0 _ _ (by omega))]; exact k2) (by rw [f3 _ _ _ (n0 _ _ (by omega))]; exact k3) (RS_e (fun t i _ => f3 t _ i (n0 _ _ (Or.inl rfl))) k4) s b2 b3 b4 b5 (fun tt k j hf => rsc_tu e3 tt k j (fun z => hf (Or.inl z)) (fun z => hf (Or.inr z))) (by rw [e2]; exact f2) (by rw [e2]; exact (ok n).1) (fun j hj => by
        rw [e2]
        obtain ⟨-, -, -, q1, q2, q3⟩ := ok n
        rcases hj with rfl | rfl | hj
        · exact q2
        · exact q3
        · exact q1 j hj)
      have n186 : ∀ tt, tt = 186 ∨ tt = 25 → ¬ tuFr tt 0 := fun tt ht => by unfold tuFr wiFr loFr mbFr maFr woFr crFr; omega
      refine Or.inl ⟨v, h1, ?_, h2, ?_, ?_, ?_, j1, j2, j3⟩
      · show cl (lc + 80) _ _ _ = _
        rw [in_93]
        simp (disch := omega) only [x_4_1, x_1, x_65, x_84, x_80_2_d0, x_80_2_d1, x_80_2_d2, x_80_2_d3, x_80_2_d4, x_6_0, x_35_0, x_79_2_5_d0, x_79_2_5_d1, x_79_2_5_d2, x_79_2_5_d3, x_79_2_5_d4, x_7_2_I, x_7_2_A, x_7_2_U, x_7_3_I, x_7_3_A, x_7_3_U, x_61, x_4_3, x_4_2, x_79_3_9_d0, x_79_3_9_d1, x_79_3_9_d2, x_79_3_9_d3, x_79_3_9_d4, x_11, x_10_3_I, x_10_3_A, x_10_3_U, x_60, x_82, cb_ri, cb_rl, cb_rv, cb_th, cb_ite, ps_s, ps_n, u_93_0, u_93_15, u_93_62, ct, k1, Int.reduceEq, Int.reduceLT, Int.reduceLE, reduceIte, Int.reduceAdd, Int.reduceSub, Int.reduceMul, Int.reduceNeg, Int.reduceToNat, Bool.false_eq_true, eq_self, if_pos, if_neg]
        exact f1
      · have ii := isIn_c (lr + 78) (n : Int) 1 60 (hset h1 25 0 0 v)
        rw [if_pos d] at ii
        have b1 : cl (lr + 79) 238 [aA 12 0] (hset (hset h1 25 0 0 v) 186 0 0 0) = rv g' := b1
        have e1 : cl (lr + 79) 230 [aA 12 0, aI (n : Int), aI 1] g' = ri v h2 := e1
        show cl (lr + 80) _ _ _ = _
        rw [in_239]
        simp (disch := omega) only [x_6_0, x_4_1, x_1, x_80_3_d0, x_80_3_d1, x_80_3_d2, x_80_3_d3, x_80_3_d4, x_69, x_60, x_61, x_36, x_33, x_73, x_82, x_79_1_12_d0, x_79_1_12_d1, x_79_1_12_d2, x_79_1_12_d3, x_79_1_12_d4, x_79_3_12_d0, x_79_3_12_d1, x_79_3_12_d2, x_79_3_12_d3, x_79_3_12_d4, cb_ri, cb_rl, cb_rv, cb_th, cb_ite, ps_s, ps_n, u_239_0, u_239_15, u_239_16, u_239_28, ii, hs_eq, b1, e1, Int.reduceEq, Int.reduceLT, Int.reduceLE, reduceIte, Int.reduceAdd, Int.reduceSub, Int.reduceMul, Int.reduceNeg, Int.reduceToNat, Bool.false_eq_true, eq_self, if_pos, if_neg]
      · rw [e3 _ _ _ (n186 _ (by omega)), b5 _ _ _ (by omega)]; exact hs_eq _ _ _ _ _
      · rw [e3 _ _ _ (n186 _ (by omega)), b5 _ _ _ (by omega)]
        show hset (hset h1 25 0 0 v) 186 0 0 0 25 0 0 = v
        rw [hs_t (by omega), hs_eq]
    · rintro i q hi ⟨i1, i2⟩
      have Wq : LawW q 0 L := LawW_e (fun tt j ht => i2 tt 0 j (by unfold pyFr stFr fwFr lwFr stTag; omega)) Wr
      obtain ⟨q', a, b, c⟩ := playBeat_c (lc + 73) 0 H N (plI (h 187 0) L H N true i) L true q i1 (ok i).1 Wq
      have gb := goS_b (h 187 0) L H true hN (i + 1)
      have gs : goS (h 187 0) L H N true (i + 1) = goS (h 187 0) L H N true i + lfS (plI (h 187 0) L H N true i) L H N := rfl
      have a : cl (lc + 79) 71 [aA 9 0, aA 7 0, aI 1] q = ri ((lfS (plI (h 187 0) L H N true i) L H N : Nat) : Int) q' := a
      refine ⟨q', ?_, b, fun tt k j hf => by rw [c tt k j hf]; exact i2 tt k j hf⟩
      try simp only
      rw [hd_93_36]
      rw [gs] at gb ⊢
      have ci2 : ((goS (h 187 0) L H N true i + lfS (plI (h 187 0) L H N true i) L H N : Nat) : Int) = ((goS (h 187 0) L H N true i : Nat) : Int) + ((lfS (plI (h 187 0) L H N true i) L H N : Nat) : Int) := by omega
      rw [ci2]
      simp (disch := omega) only [x_4_1, x_1, x_65, x_84, x_80_2_d0, x_80_2_d1, x_80_2_d2, x_80_2_d3, x_80_2_d4, x_6_0, x_35_0, x_79_2_5_d0, x_79_2_5_d1, x_79_2_5_d2, x_79_2_5_d3, x_79_2_5_d4, x_7_2_I, x_7_2_A, x_7_2_U, x_7_3_I, x_7_3_A, x_7_3_U, x_61, x_4_3, x_4_2, x_79_3_9_d0, x_79_3_9_d1, x_79_3_9_d2, x_79_3_9_d3, x_79_3_9_d4, x_11, x_10_3_I, x_10_3_A, x_10_3_U, x_60, x_82, cb_ri, cb_rl, cb_rv, cb_th, cb_ite, ps_s, ps_n, u_93_0, u_93_15, u_93_62, a, Int.reduceEq, Int.reduceLT, Int.reduceLE, reduceIte, Int.reduceAdd, Int.reduceSub, Int.reduceMul, Int.reduceNeg, Int.reduceToNat, Bool.false_eq_true, eq_self, if_pos, if_neg, ci, w32_id]
    · rintro q ⟨i1, i2⟩
      refine ⟨q, ?_, i1, i2⟩
      try simp only
      rw [hd_93_36]
      simp (disch := omega) only [x_4_1, x_1, x_65, x_84, x_80_2_d0, x_80_2_d1, x_80_2_d2, x_80_2_d3, x_80_2_d4, x_6_0, x_35_0, x_79_2_5_d0, x_79_2_5_d1, x_79_2_5_d2, x_79_2_5_d3, x_79_2_5_d4, x_7_2_I, x_7_2_A, x_7_2_U, x_7_3_I, x_7_3_A, x_7_3_U, x_61, x_4_3, x_4_2, x_79_3_9_d0, x_79_3_9_d1, x_79_3_9_d2, x_79_3_9_d3, x_79_3_9_d4, x_11, x_10_3_I, x_10_3_A, x_10_3_U, x_60, x_82, cb_ri, cb_rl, cb_rv, cb_th, cb_ite, ps_s, ps_n, u_93_0, u_93_15, u_93_62, Int.reduceEq, Int.reduceLT, Int.reduceLE, reduceIte, Int.reduceAdd, Int.reduceSub, Int.reduceMul, Int.reduceNeg, Int.reduceToNat, Bool.false_eq_true, eq_self, if_pos, if_neg]
  · refine AGt_e I 0 (by decide) ⟨h, ?_, Sm_r _ _⟩ (fun g s J => ⟨0, hset g 186 0 0 1, ?_, hs_eq _ _ _ _ _, rsc_186 g 1⟩)
    · show cl (lc + 80) _ _ _ = _
      rw [in_93]
      by_cases d1 : w < 1
      · simp (disch := omega) only [x_4_1, x_1, x_65, x_84, x_80_2_d0, x_80_2_d1, x_80_2_d2, x_80_2_d3, x_80_2_d4, x_6_0, x_35_0, x_79_2_5_d0, x_79_2_5_d1, x_79_2_5_d2, x_79_2_5_d3, x_79_2_5_d4, x_7_2_I, x_7_2_A, x_7_2_U, x_7_3_I, x_7_3_A, x_7_3_U, x_61, x_4_3, x_4_2, x_79_3_9_d0, x_79_3_9_d1, x_79_3_9_d2, x_79_3_9_d3, x_79_3_9_d4, x_11, x_10_3_I, x_10_3_A, x_10_3_U, x_60, x_82, cb_ri, cb_rl, cb_rv, cb_th, cb_ite, ps_s, ps_n, u_93_0, u_93_15, u_93_62, Int.reduceEq, Int.reduceLT, Int.reduceLE, reduceIte, Int.reduceAdd, Int.reduceSub, Int.reduceMul, Int.reduceNeg, Int.reduceToNat, Bool.false_eq_true, eq_self, if_pos, if_neg]
      · rw [if_neg (by omega)] at ct
        simp (disch := omega) only [x_4_1, x_1, x_65, x_84, x_80_2_d0, x_80_2_d1, x_80_2_d2, x_80_2_d3, x_80_2_d4, x_6_0, x_35_0, x_79_2_5_d0, x_79_2_5_d1, x_79_2_5_d2, x_79_2_5_d3, x_79_2_5_d4, x_7_2_I, x_7_2_A, x_7_2_U, x_7_3_I, x_7_3_A, x_7_3_U, x_61, x_4_3, x_4_2, x_79_3_9_d0, x_79_3_9_d1, x_79_3_9_d2, x_79_3_9_d3, x_79_3_9_d4, x_11, x_10_3_I, x_10_3_A, x_10_3_U, x_60, x_82, cb_ri, cb_rl, cb_rv, cb_th, cb_ite, ps_s, ps_n, u_93_0, u_93_15, u_93_62, ct, Int.reduceEq, Int.reduceLT, Int.reduceLE, reduceIte, Int.reduceAdd, Int.reduceSub, Int.reduceMul, Int.reduceNeg, Int.reduceToNat, Bool.false_eq_true, eq_self, if_pos, if_neg]
    · have ii := isIn_c (lr + 78) w 1 60 g
      rw [if_neg d] at ii
      show cl (lr + 80) _ _ _ = _
      rw [in_239]
      simp (disch := omega) only [x_6_0, x_4_1, x_1, x_80_3_d0, x_80_3_d1, x_80_3_d2, x_80_3_d3, x_80_3_d4, x_69, x_60, x_61, x_36, x_33, x_73, x_82, x_79_1_12_d0, x_79_1_12_d1, x_79_1_12_d2, x_79_1_12_d3, x_79_1_12_d4, x_79_3_12_d0, x_79_3_12_d1, x_79_3_12_d2, x_79_3_12_d3, x_79_3_12_d4, cb_ri, cb_rl, cb_rv, cb_th, cb_ite, ps_s, ps_n, u_239_0, u_239_15, u_239_16, u_239_28, ii, hs_eq, Int.reduceEq, Int.reduceLT, Int.reduceLE, reduceIte, Int.reduceAdd, Int.reduceSub, Int.reduceMul, Int.reduceNeg, Int.reduceToNat, Bool.false_eq_true, eq_self, if_pos, if_neg]
/-! UNDO. -/
theorem irem_12' : ∀ n : Nat, n < 24 → irem (n : Int) 12 = ((n % 12 : Nat) : Int) := irem_12
theorem undo_m (lv S : Nat) (g : Hp) (h2 : g 192 0 0 = ((S + 1 : Nat) : Int)) (hS : S < 12) : ∃ g', cl (lv + 1) 309 [aA 12 0] g = ri 1 g' ∧ g' 192 0 0 = (S : Int) ∧ (∀ j, j < 346 → g' 187 0 j = g 191 0 (346 * S + j)) ∧ (∀ j, 346 ≤ j → g' 187 0 j = g 187 0 j) ∧ ∀ tt k j, ¬ (k = 0 ∧ (tt = 187 ∨ tt = 186 ∨ tt = 192)) → g' tt k j = g tt k j := by
  have main := loop_p (S := Hp) (F := fun i (q : Hp) => run lv 309 26 [aA 12 0, aI (i : Int)] [] q)
    (I := fun i p => p 192 0 0 = (S : Int) ∧ (∀ j, j < i → p 187 0 j = g 191 0 (346 * S + j)) ∧ (∀ j, 346 ≤ j → p 187 0 j = g 187 0 j) ∧ ∀ tt k j, ¬ (k = 0 ∧ (tt = 187 ∨ tt = 186 ∨ tt = 192)) → p tt k j = g tt k j)
    (Q := fun r => ∃ p : Hp, r = ri 1 p ∧ p 192 0 0 = (S : Int) ∧ (∀ j, j < 346 → p 187 0 j = g 191 0 (346 * S + j)) ∧ (∀ j, 346 ≤ j → p 187 0 j = g 187 0 j) ∧ ∀ tt k j, ¬ (k = 0 ∧ (tt = 187 ∨ tt = 186 ∨ tt = 192)) → p tt k j = g tt k j) (N := 346) ?_ ?_ (hset (hset g 186 0 0 0) 192 0 0 (S : Int)) ⟨hs_eq _ _ _ _ _, fun j hj => by omega, fun j _ => by rw [hs_t (by omega), hs_t (by omega)], fun tt k j hf => by rw [hs_o (by omega), hs_o (by omega)]⟩
  · obtain ⟨g', f1, f2⟩ := main
    refine ⟨g', ?_, f2⟩
    have a : hset g 186 0 0 0 192 0 0 = (S : Int) + 1 := by rw [hs_t (by omega)]; omega
    have e : (S : Int) + 1 - 1 = (S : Int) := by omega
    rw [← f1, in_309]
    simp (disch := omega) only [x_6_0, x_1, x_36, x_33, x_69, x_85, x_47_I, x_47_A, x_12, x_7_1_I, x_7_1_A, x_7_1_U, x_61, x_4_1, x_65, x_34, x_13, x_11, x_38_187, x_38_191, x_39_187, x_39_191, x_10_1_I, x_10_1_A, x_10_1_U, x_60, u_309_0, u_309_14, u_309_60, a, e, Int.reduceEq, Int.reduceLT, Int.reduceLE, reduceIte, Int.reduceAdd, Int.reduceSub, Int.reduceMul, Int.reduceNeg, Int.reduceToNat, Bool.false_eq_true, eq_self, if_pos, if_neg, w32_id]
    rfl
  · rintro i p hi ⟨i1, i2, i3, i4⟩
    have e : p 191 0 (346 * S + i) = g 191 0 (346 * S + i) := i4 _ _ _ (by omega)
    have ei : (346 * (S : Int) + (i : Int)).toNat = 346 * S + i := by omega
    refine ⟨hset p 187 0 i (g 191 0 (346 * S + i)), ?_, by rw [hs_t (by omega)]; exact i1, fun j hj => ?_, fun j hj => by rw [hs_i (by omega)]; exact i3 j hj, fun tt k j hf => by rw [hs_o (by omega)]; exact i4 tt k j hf⟩
    · try simp only
      rw [hd_309_26]
      simp (disch := omega) only [x_6_0, x_1, x_36, x_33, x_69, x_85, x_47_I, x_47_A, x_12, x_7_1_I, x_7_1_A, x_7_1_U, x_61, x_4_1, x_65, x_34, x_13, x_11, x_38_187, x_38_191, x_39_187, x_39_191, x_10_1_I, x_10_1_A, x_10_1_U, x_60, u_309_0, u_309_14, u_309_60, i1, ei, tn, e, Int.reduceEq, Int.reduceLT, Int.reduceLE, reduceIte, Int.reduceAdd, Int.reduceSub, Int.reduceMul, Int.reduceNeg, Int.reduceToNat, Bool.false_eq_true, eq_self, if_pos, if_neg, ci, w32_id]
    · by_cases c : j = i
      · rw [c, hs_eq]
      · rw [hs_i c]; exact i2 j (by omega)
  · rintro p ⟨i1, i2, i3, i4⟩
    refine ⟨p, ?_, i1, i2, i3, i4⟩
    try simp only
    rw [hd_309_26]
    simp (disch := omega) only [x_6_0, x_1, x_36, x_33, x_69, x_85, x_47_I, x_47_A, x_12, x_7_1_I, x_7_1_A, x_7_1_U, x_61, x_4_1, x_65, x_34, x_13, x_11, x_38_187, x_38_191, x_39_187, x_39_191, x_10_1_I, x_10_1_A, x_10_1_U, x_60, u_309_0, u_309_14, u_309_60, Int.reduceEq, Int.reduceLT, Int.reduceLE, reduceIte, Int.reduceAdd, Int.reduceSub, Int.reduceMul, Int.reduceNeg, Int.reduceToNat, Bool.false_eq_true, eq_self, if_pos, if_neg]
theorem ag_undo (lc lr H N : Nat) (h : Hp) (I : INV h H N) : AGp (fun h => cl (lc + 80) 144 [aA 11 0] h) (fun h => cl (lr + 80) 309 [aA 12 0] h) h := by
  obtain ⟨⟨r1, r2, r3⟩, tp, im, ⟨S, nw, p1, p2, p3, p4, p5, p6⟩, f, ad⟩ := I
  have I : INV h H N := ⟨⟨r1, r2, r3⟩, tp, im, ⟨S, nw, p1, p2, p3, p4, p5, p6⟩, f, ad⟩
  cases S with
  | zero =>
    have p1 : h 126 0 0 = 0 := p1
    have p2 : h 192 0 0 = 0 := p2
    have p2' : hset h 186 0 0 0 192 0 0 = 0 := by rw [hs_t (by omega)]; exact p2
    refine AGp_q I (v := 0) ⟨h, ?_, Sm_r _ _⟩ (fun g s J => ⟨hset g 186 0 0 0, ?_, rsc_186 g 0⟩)
    · have re : cl (lc + 79) 38 [aA 5 0, aA 7 0] h = ri 0 h := by
        show cl ((lc + 78) + 1) _ _ _ = _
        rw [in_38]
        simp (disch := omega) only [x_6_0, x_35_0, x_33, x_44, x_9_2_I, x_9n_2_I, x_9_2_A, x_9n_2_A, x_9_2_U, x_9n_2_U, x_68, x_6_2, x_75, x_61, x_1, x_85, x_6_1, x_79_2_7_d0, x_79_2_7_d1, x_79_2_7_d2, x_79_2_7_d3, x_79_2_7_d4, x_11, x_12, x_15, x_36, x_47_I, x_47_A, cb_ri, cb_rl, cb_rv, cb_th, cb_ite, ps_s, ps_n, u_38_0, u_38_21, u_38_23, p4, p1, Int.reduceEq, Int.reduceLT, Int.reduceLE, reduceIte, Int.reduceAdd, Int.reduceSub, Int.reduceMul, Int.reduceNeg, Int.reduceToNat, Bool.false_eq_true, eq_self, if_pos, if_neg]
      show cl (lc + 80) _ _ _ = _
      rw [in_144]
      simp (disch := omega) only [x_6_0, x_35_0, x_79_2_5_d0, x_79_2_5_d1, x_79_2_5_d2, x_79_2_5_d3, x_79_2_5_d4, x_85, cb_ri, cb_rl, cb_rv, cb_th, cb_ite, ps_s, ps_n, u_144_0, re]
    · have a : hset g 186 0 0 0 192 0 0 = 0 := by rw [hs_t (by omega), s _ _ _ (by unfold scr csc rsc stTag; omega)]; exact p2
      show cl (lr + 80) _ _ _ = _
      rw [in_309]
      simp (disch := omega) only [x_6_0, x_1, x_36, x_33, x_69, x_85, x_47_I, x_47_A, x_12, x_7_1_I, x_7_1_A, x_7_1_U, x_61, x_4_1, x_65, x_34, x_13, x_11, x_38_187, x_38_191, x_39_187, x_39_191, x_10_1_I, x_10_1_A, x_10_1_U, x_60, u_309_0, u_309_14, u_309_60, a, Int.reduceEq, Int.reduceLT, Int.reduceLE, reduceIte, Int.reduceAdd, Int.reduceSub, Int.reduceMul, Int.reduceNeg, Int.reduceToNat, Bool.false_eq_true, eq_self, if_pos, if_neg]
  | succ S =>
    obtain ⟨h1, c1, c2⟩ := copyFrom_c (lc + 76) (3 + nw) 0 h (by omega)
    have k1 := cpS c2
    have c1 : cl (lc + 78) 46 [aA 7 0, aA 7 (nw + 3)] h = rv h1 := by rw [Nat.add_comm nw 3]; exact c1
    have e125 : h1 125 0 0 = (nw : Int) := by rw [k1 _ _ _ (by unfold stFr stTag; omega)]; exact p4
    have e126 : hset h1 125 0 0 (((nw + 11) % 12 : Nat) : Int) 126 0 0 = (S : Int) + 1 := by rw [hs_t (by omega), k1 _ _ _ (by unfold stFr stTag; omega)]; omega
    have er : irem ((nw : Int) + 12 - 1) 12 = (((nw + 11) % 12 : Nat) : Int) := by rw [show (nw : Int) + 12 - 1 = ((nw + 11 : Nat) : Int) by omega]; exact irem_12 _ (by omega)
    let hc : Hp := hset (hset h1 125 0 0 (((nw + 11) % 12 : Nat) : Int)) 126 0 0 (S : Int)
    have re : cl (lc + 79) 38 [aA 5 0, aA 7 0] h = ri 1 hc := by
      have e : (S : Int) + 1 - 1 = (S : Int) := by omega
      show cl ((lc + 78) + 1) _ _ _ = _
      rw [in_38]
      simp (disch := omega) only [x_6_0, x_35_0, x_33, x_44, x_9_2_I, x_9n_2_I, x_9_2_A, x_9n_2_A, x_9_2_U, x_9n_2_U, x_68, x_6_2, x_75, x_61, x_1, x_85, x_6_1, x_79_2_7_d0, x_79_2_7_d1, x_79_2_7_d2, x_79_2_7_d3, x_79_2_7_d4, x_11, x_12, x_15, x_36, x_47_I, x_47_A, cb_ri, cb_rl, cb_rv, cb_th, cb_ite, ps_s, ps_n, u_38_0, u_38_21, u_38_23, p4, p1, tn, c1, e125, er, e126, e, Int.reduceEq, Int.reduceLT, Int.reduceLE, reduceIte, Int.reduceAdd, Int.reduceSub, Int.reduceMul, Int.reduceNeg, Int.reduceToNat, Bool.false_eq_true, eq_self, if_pos, if_neg, w32_id]
      rfl
    have o : ∀ tt k j, ¬ (stFr 0 tt k ∨ (k = 0 ∧ (tt = 125 ∨ tt = 126))) → hc tt k j = h tt k j := fun tt k j hf => by
      show hset (hset h1 125 0 0 _) 126 0 0 _ tt k j = _
      rw [hs_o (fun z => hf (Or.inr (by omega))), hs_o (fun z => hf (Or.inr (by omega)))]
      exact k1 tt k j (fun z => hf (Or.inl z))
    have o1 : ∀ tt j, 186 ≤ tt → hc tt 0 j = h tt 0 j := fun tt j ht => o tt 0 j (by unfold stFr stTag; omega)
    obtain ⟨h2, m1, m2, m3, m4, m5⟩ := undo_m (lr + 79) S hc (by rw [o1 _ _ (by omega)]; exact p2) (by omega)
    obtain ⟨H2, N2, q1, q2, q3, q4⟩ := p6 0 (by omega)
    rw [show (nw + 12 - 0) % 12 = nw by omega, show S + 1 - 1 - 0 = S by omega] at q1
    rw [show S + 1 - 1 - 0 = S by omega] at q2 q3 q4
    have z7 : h2 187 0 = actM h S := funext (fun j => by
      unfold actM
      by_cases c : j < 346
      · rw [if_pos c, m3 j c, o1 _ _ (by omega)]
      · rw [if_neg c, m4 j (by omega), o1 _ _ (by omega)])
    have tot : ∀ tt k j, ¬ (stFr 0 tt k ∨ (k = 0 ∧ (tt = 125 ∨ tt = 126 ∨ tt = 186 ∨ tt = 187 ∨ tt = 192))) → h2 tt k j = h tt k j := fun tt k j hf => by
      rw [m5 tt k j (fun z => hf (Or.inr (by omega)))]
      exact o tt k j (fun z => hf (z.elim Or.inl (fun z => Or.inr (by omega))))
    have cc : ∀ tt k j, tt < 186 → h2 tt k j = hc tt k j := fun tt k j ht => m5 tt k j (by omega)
    have R2 : RS h2 0 (h2 187 0) H2 N2 := by
      rw [z7]
      refine RS_e (fun t i ht => ?_) (RS_cp c2 q1)
      unfold stTag at ht
      rw [cc t 0 i (by omega)]
      show hset (hset h1 125 0 0 _) 126 0 0 _ t 0 i = _
      rw [hs_o (by omega), hs_o (by omega)]
    have same : ∀ j, j = 1 ∨ j = 2 ∨ 346 ≤ j → h2 187 0 j = h 187 0 j := fun j hj => by
      rw [z7]
      rcases hj with rfl | rfl | hj
      · exact q3
      · exact q4
      · unfold actM; rw [if_neg (by omega)]
    have am : ∀ a, actM h2 a = actM h a := fun a => funext (fun j => by
      unfold actM
      by_cases c : j < 346
      · rw [if_pos c, if_pos c]; exact tot _ _ _ (by unfold stFr stTag; omega)
      · rw [if_neg c, if_neg c]; exact same j (by omega))
    have Z : INV h2 H2 N2 := by
      refine INV_of I (fun tt k j hf => tot tt k j (fun z => hf ?_)) R2 (by rw [z7]; exact q2) (LawR_e (fun tt j ht => tot tt 0 j (by unfold stFr stTag; omega)) same r3) ?_ (by rw [tot _ _ _ (by unfold stFr stTag; omega), tot _ _ _ (by unfold stFr stTag; omega)]; exact f)
      · rcases z with z | z
        · exact Or.inl z
        · by_cases c : tt = 186
          · exact Or.inr (Or.inr (scr_m (by unfold rsc; omega)))
          · exact Or.inr (Or.inl (by omega))
      · refine ⟨S, (nw + 11) % 12, ?_, m2, by omega, ?_, by omega, fun a ha => ?_⟩
        · rw [cc _ _ _ (by omega)]; exact hs_eq _ _ _ _ _
        · rw [cc _ _ _ (by omega)]; show hset (hset h1 125 0 0 _) 126 0 0 _ 125 0 0 = _; rw [hs_t (by omega), hs_eq]
        · obtain ⟨H3, N3, y1, y2, y3, y4⟩ := p6 (a + 1) (by omega)
          rw [show (nw + 12 - (a + 1)) % 12 = ((nw + 11) % 12 + 12 - a) % 12 by omega, show S + 1 - 1 - (a + 1) = S - 1 - a by omega] at y1
          rw [show S + 1 - 1 - (a + 1) = S - 1 - a by omega] at y2 y3 y4
          rw [am, same 1 (by omega), same 2 (by omega)]
          exact ⟨H3, N3, RS_e (fun t i ht => tot t _ i (by unfold stFr; omega)) y1, y2, y3, y4⟩
    refine ⟨1, hc, h2, ?_, m1, ⟨H2, N2, Z⟩, fun j => tot _ _ _ (by unfold stFr stTag; omega), tot _ _ _ (by unfold stFr stTag; omega)⟩
    show cl (lc + 80) _ _ _ = _
    rw [in_144]
    simp (disch := omega) only [x_6_0, x_35_0, x_79_2_5_d0, x_79_2_5_d1, x_79_2_5_d2, x_79_2_5_d3, x_79_2_5_d4, x_85, cb_ri, cb_rl, cb_rv, cb_th, cb_ite, ps_s, ps_n, u_144_0, re]
