/-! THE HAND THAT IS MISSED; hands that can be spared; choices. -/
theorem ms_b (M : Nat → Int) (L : List LN) (H : Nat) {N : Nat} (i : Nat) (hN : N ≤ 14) : -168 ≤ msV M L H N i ∧ msV M L H N i ≤ 168 := by
  have v1 := ovN_b (cansM M L H (-1)) (farM M H (-1)) (hmK H (-1)) M hN
  have v2 := ovN_b (cansM (upM M (14 + 6 * i + 5) 1) L H (-1)) (farM (upM M (14 + 6 * i + 5) 1) H (-1)) (hmK H (-1)) (upM M (14 + 6 * i + 5) 1) hN
  unfold msV ovM
  omega
theorem msI (lv H N i : Nat) (v : Int) (h g : Hp) (I : INV h H N) (s : Sm scr h g) (J : INV g H N) (h186 : g 186 0 0 = v) (L : List LN) (hL : LM (h 187 0) L) (hW : ∀ x ∈ L, LnG x) (hl : L.length ≤ 12) (hi : i < H) : ∃ h2, cl (lv + 37) 231 [aA 12 0, aI (i : Int)] g = ri (msV (h 187 0) L H N i) h2 ∧ h2 186 0 0 = v ∧ Sm rsc g h2 := by
  have g7 := Sm_187 s scr_187
  obtain ⟨h2, m1, m2⟩ := mMissed_m lv H N i g L (by rw [g7]; exact hL) (by rw [g7]; exact I.1.2.1) hW hl J.2.2.2.2.2 hi
  rw [g7] at m1
  exact ⟨h2, m1, by rw [m2 _ _ _ (by unfold ocFr loFr mbFr maFr crFr; omega)]; exact h186, rsc_oc m2⟩
def msF (v : Nat → Int) : Nat → Int × Int
  | 0 => (-1, -1)
  | x + 1 => if (msF v x).2 < v x then ((x : Int), v x) else msF v x
theorem ag_missed (lc lr H N : Nat) (h : Hp) (I : INV h H N) : AGp (fun h => cl (lc + 80) 111 [aA 11 0] h) (fun h => cl (lr + 80) 260 [aA 12 0] h) h := by
  have hH := I.1.2.1.1.2.1
  obtain ⟨L, W, hL, hW, hl⟩ := INV_law I
  refine AGp_q I (v := (msF (msV (h 187 0) L H N) H).1) ?_ (fun g s J => ?_)
  · have main := loop_p (S := AV × Hp) (F := fun x (q : AV × Hp) => run (lc + 79) 111 6 [aA 11 0, aI (msF (msV (h 187 0) L H N) x).1, aI (msF (msV (h 187 0) L H N) x).2, aI (x : Int), q.1] [] q.2)
      (I := fun x q => Sm csc h q.2)
      (Q := fun r => ∃ h', r = ri (msF (msV (h 187 0) L H N) H).1 h' ∧ Sm csc h h') (N := H) ?_ ?_ (none, h) (Sm_r _ _)
    · obtain ⟨h', e1, e2⟩ := main
      refine ⟨h', ?_, e2⟩
      show cl (lc + 80) _ _ _ = _
      rw [← e1, in_111]
      simp (disch := omega) only [x_1, x_7_1_I, x_7_1_A, x_7_1_U, x_7_2_I, x_7_2_A, x_7_2_U, x_7_3_I, x_7_3_A, x_7_3_U, x_61, x_4_3, x_6_0, x_35_0, x_33, x_65, x_79_3_3_d0, x_79_3_3_d1, x_79_3_3_d2, x_79_3_3_d3, x_79_3_3_d4, x_7_4_I, x_7_4_A, x_7_4_U, x_4_4, x_4_2, x_67, x_10_3_I, x_10_3_A, x_10_3_U, x_60, x_4_1, x_82, cb_ri, cb_rl, cb_rv, cb_th, cb_ite, ps_s, ps_n, u_111_0, u_111_42, u_111_48]
      rfl
    · rintro x ⟨v4, q⟩ hx hq
      simp only at hq ⊢
      have Iq : INV q H N := INV_scr (Sm_w (fun _ _ => scr_c) hq) I
      have k7 : q 187 0 = h 187 0 := Sm_187 hq (by unfold csc stTag; omega)
      have q39 := Iq.1.1.1.1
      obtain ⟨q', m1, m2⟩ := missed_c (lc + 68) H N x q Iq L (LawW_e (fun tt j ht => hq tt 0 j (by unfold csc stTag; omega)) W) hx
      rw [k7] at m1
      refine ⟨(aI (msV (h 187 0) L H N x), q'), ?_, Sm_t hq m2⟩
      simp only [msF]
      rw [hd_111_6]
      by_cases c : (msF (msV (h 187 0) L H N) x).2 < msV (h 187 0) L H N x
      · rw [if_pos c]
        simp (disch := omega) only [x_1, x_7_1_I, x_7_1_A, x_7_1_U, x_7_2_I, x_7_2_A, x_7_2_U, x_7_3_I, x_7_3_A, x_7_3_U, x_61, x_4_3, x_6_0, x_35_0, x_33, x_65, x_79_3_3_d0, x_79_3_3_d1, x_79_3_3_d2, x_79_3_3_d3, x_79_3_3_d4, x_7_4_I, x_7_4_A, x_7_4_U, x_4_4, x_4_2, x_67, x_10_3_I, x_10_3_A, x_10_3_U, x_60, x_4_1, x_82, cb_ri, cb_rl, cb_rv, cb_th, cb_ite, ps_s, ps_n, u_111_0, u_111_42, u_111_48, q39, m1, c, Int.reduceEq, Int.reduceLT, Int.reduceLE, reduceIte, Int.reduceAdd, Int.reduceSub, Int.reduceMul, Int.reduceNeg, Int.reduceToNat, Bool.false_eq_true, eq_self, if_pos, if_neg, ci, w32_id]
      · rw [if_neg c]
        simp (disch := omega) only [x_1, x_7_1_I, x_7_1_A, x_7_1_U, x_7_2_I, x_7_2_A, x_7_2_U, x_7_3_I, x_7_3_A, x_7_3_U, x_61, x_4_3, x_6_0, x_35_0, x_33, x_65, x_79_3_3_d0, x_79_3_3_d1, x_79_3_3_d2, x_79_3_3_d3, x_79_3_3_d4, x_7_4_I, x_7_4_A, x_7_4_U, x_4_4, x_4_2, x_67, x_10_3_I, x_10_3_A, x_10_3_U, x_60, x_4_1, x_82, cb_ri, cb_rl, cb_rv, cb_th, cb_ite, ps_s, ps_n, u_111_0, u_111_42, u_111_48, q39, m1, c, Int.reduceEq, Int.reduceLT, Int.reduceLE, reduceIte, Int.reduceAdd, Int.reduceSub, Int.reduceMul, Int.reduceNeg, Int.reduceToNat, Bool.false_eq_true, eq_self, if_pos, if_neg, ci, w32_id]
    · rintro ⟨v4, q⟩ hq
      simp only at hq ⊢
      have q39 := (INV_scr (Sm_w (fun _ _ => scr_c) hq) I).1.1.1.1
      refine ⟨q, ?_, hq⟩
      rw [hd_111_6]
      simp (disch := omega) only [x_1, x_7_1_I, x_7_1_A, x_7_1_U, x_7_2_I, x_7_2_A, x_7_2_U, x_7_3_I, x_7_3_A, x_7_3_U, x_61, x_4_3, x_6_0, x_35_0, x_33, x_65, x_79_3_3_d0, x_79_3_3_d1, x_79_3_3_d2, x_79_3_3_d3, x_79_3_3_d4, x_7_4_I, x_7_4_A, x_7_4_U, x_4_4, x_4_2, x_67, x_10_3_I, x_10_3_A, x_10_3_U, x_60, x_4_1, x_82, cb_ri, cb_rl, cb_rv, cb_th, cb_ite, ps_s, ps_n, u_111_0, u_111_42, u_111_48, q39, Int.reduceEq, Int.reduceLT, Int.reduceLE, reduceIte, Int.reduceAdd, Int.reduceSub, Int.reduceMul, Int.reduceNeg, Int.reduceToNat, Bool.false_eq_true, eq_self, if_pos, if_neg]
  · have main := loop_p (S := AV × Hp) (F := fun x (q : AV × Hp) => run (lr + 79) 260 11 [aA 12 0, aI (msF (msV (h 187 0) L H N) x).1, aI (msF (msV (h 187 0) L H N) x).2, aI (x : Int), q.1] [] q.2)
      (I := fun x q => Sm rsc g q.2)
      (Q := fun r => ∃ h', r = ri (msF (msV (h 187 0) L H N) H).1 h' ∧ Sm rsc g h') (N := H) ?_ ?_ (none, hset g 186 0 0 0) (rsc_186 g 0)
    · obtain ⟨h', e1, e2⟩ := main
      refine ⟨h', ?_, e2⟩
      show cl (lr + 80) _ _ _ = _
      rw [← e1, in_260]
      simp (disch := omega) only [x_6_0, x_1, x_36, x_7_1_I, x_7_1_A, x_7_1_U, x_7_2_I, x_7_2_A, x_7_2_U, x_7_3_I, x_7_3_A, x_7_3_U, x_61, x_4_3, x_34, x_38_187, x_65, x_79_2_12_d0, x_79_2_12_d1, x_79_2_12_d2, x_79_2_12_d3, x_79_2_12_d4, x_7_4_I, x_7_4_A, x_7_4_U, x_4_4, x_4_2, x_66, x_60, x_10_3_I, x_10_3_A, x_10_3_U, x_4_1, x_82, cb_ri, cb_rl, cb_rv, cb_th, cb_ite, ps_s, ps_n, u_260_0, u_260_37, u_260_42, u_260_48]
      rfl
    · rintro x ⟨v4, q⟩ hx hq
      simp only at hq ⊢
      have sq : Sm scr h q := Sm_t s (Sm_w (fun _ _ => scr_m) hq)
      have Iq : INV q H N := INV_scr sq I
      have q3 := Iq.1.2.1.1.1
      obtain ⟨q', m1, -, m2⟩ := msI (lr + 42) H N x _ h q I sq Iq rfl L hL hW hl hx
      refine ⟨(aI (msV (h 187 0) L H N x), q'), ?_, Sm_t hq m2⟩
      simp only [msF]
      rw [hd_260_11]
      by_cases c : (msF (msV (h 187 0) L H N) x).2 < msV (h 187 0) L H N x
      · rw [if_pos c]
        simp (disch := omega) only [x_6_0, x_1, x_36, x_7_1_I, x_7_1_A, x_7_1_U, x_7_2_I, x_7_2_A, x_7_2_U, x_7_3_I, x_7_3_A, x_7_3_U, x_61, x_4_3, x_34, x_38_187, x_65, x_79_2_12_d0, x_79_2_12_d1, x_79_2_12_d2, x_79_2_12_d3, x_79_2_12_d4, x_7_4_I, x_7_4_A, x_7_4_U, x_4_4, x_4_2, x_66, x_60, x_10_3_I, x_10_3_A, x_10_3_U, x_4_1, x_82, cb_ri, cb_rl, cb_rv, cb_th, cb_ite, ps_s, ps_n, u_260_0, u_260_37, u_260_42, u_260_48, q3, m1, c, Int.reduceEq, Int.reduceLT, Int.reduceLE, reduceIte, Int.reduceAdd, Int.reduceSub, Int.reduceMul, Int.reduceNeg, Int.reduceToNat, Bool.false_eq_true, eq_self, if_pos, if_neg, ci, w32_id]
      · rw [if_neg c]
        simp (disch := omega) only [x_6_0, x_1, x_36, x_7_1_I, x_7_1_A, x_7_1_U, x_7_2_I, x_7_2_A, x_7_2_U, x_7_3_I, x_7_3_A, x_7_3_U, x_61, x_4_3, x_34, x_38_187, x_65, x_79_2_12_d0, x_79_2_12_d1, x_79_2_12_d2, x_79_2_12_d3, x_79_2_12_d4, x_7_4_I, x_7_4_A, x_7_4_U, x_4_4, x_4_2, x_66, x_60, x_10_3_I, x_10_3_A, x_10_3_U, x_4_1, x_82, cb_ri, cb_rl, cb_rv, cb_th, cb_ite, ps_s, ps_n, u_260_0, u_260_37, u_260_42, u_260_48, q3, m1, c, Int.reduceEq, Int.reduceLT, Int.reduceLE, reduceIte, Int.reduceAdd, Int.reduceSub, Int.reduceMul, Int.reduceNeg, Int.reduceToNat, Bool.false_eq_true, eq_self, if_pos, if_neg, ci, w32_id]
    · rintro ⟨v4, q⟩ hq
      simp only at hq ⊢
      have q3 := (INV_scr (Sm_t s (Sm_w (fun _ _ => scr_m) hq)) I).1.2.1.1.1
      refine ⟨q, ?_, hq⟩
      rw [hd_260_11]
      simp (disch := omega) only [x_6_0, x_1, x_36, x_7_1_I, x_7_1_A, x_7_1_U, x_7_2_I, x_7_2_A, x_7_2_U, x_7_3_I, x_7_3_A, x_7_3_U, x_61, x_4_3, x_34, x_38_187, x_65, x_79_2_12_d0, x_79_2_12_d1, x_79_2_12_d2, x_79_2_12_d3, x_79_2_12_d4, x_7_4_I, x_7_4_A, x_7_4_U, x_4_4, x_4_2, x_66, x_60, x_10_3_I, x_10_3_A, x_10_3_U, x_4_1, x_82, cb_ri, cb_rl, cb_rv, cb_th, cb_ite, ps_s, ps_n, u_260_0, u_260_37, u_260_42, u_260_48, q3, Int.reduceEq, Int.reduceLT, Int.reduceLE, reduceIte, Int.reduceAdd, Int.reduceSub, Int.reduceMul, Int.reduceNeg, Int.reduceToNat, Bool.false_eq_true, eq_self, if_pos, if_neg]
theorem ag_spare (lc lr H N : Nat) (h : Hp) (I : INV h H N) : AGp (fun h => cl (lc + 80) 112 [aA 11 0] h) (fun h => cl (lr + 80) 261 [aA 12 0] h) h := by
  have hH := I.1.2.1.1.2.1
  obtain ⟨L, W, hL, hW, hl⟩ := INV_law I
  refine AGp_q I (v := ((bsN (fun x => decide (msV (h 187 0) L H N x = 0)) H : Nat) : Int)) ?_ (fun g s J => ?_)
  · have main := loop_p (S := Hp) (F := fun x (q : Hp) => run (lc + 79) 112 4 [aA 11 0, aI ((bsN (fun x => decide (msV (h 187 0) L H N x = 0)) x : Nat) : Int), aI (x : Int)] [] q)
      (I := fun x q => Sm csc h q)
      (Q := fun r => ∃ h', r = ri ((bsN (fun x => decide (msV (h 187 0) L H N x = 0)) H : Nat) : Int) h' ∧ Sm csc h h') (N := H) ?_ ?_ h (Sm_r _ _)
    · obtain ⟨h', e1, e2⟩ := main
      refine ⟨h', ?_, e2⟩
      show cl (lc + 80) _ _ _ = _
      rw [← e1, in_112]
      simp (disch := omega) only [x_1, x_7_1_I, x_7_1_A, x_7_1_U, x_7_2_I, x_7_2_A, x_7_2_U, x_61, x_4_2, x_6_0, x_35_0, x_33, x_65, x_79_3_3_d0, x_79_3_3_d1, x_79_3_3_d2, x_79_3_3_d3, x_79_3_3_d4, x_69, x_4_1, x_20, x_18, x_10_2_I, x_10_2_A, x_10_2_U, x_60, x_82, cb_ri, cb_rl, cb_rv, cb_th, cb_ite, ps_s, ps_n, u_112_0, u_112_36, u_112_42]
      rfl
    · intro x q hx hq
      have Iq : INV q H N := INV_scr (Sm_w (fun _ _ => scr_c) hq) I
      have k7 : q 187 0 = h 187 0 := Sm_187 hq (by unfold csc stTag; omega)
      have q39 := Iq.1.1.1.1
      obtain ⟨q', m1, m2⟩ := missed_c (lc + 68) H N x q Iq L (LawW_e (fun tt j ht => hq tt 0 j (by unfold csc stTag; omega)) W) hx
      rw [k7] at m1
      refine ⟨q', ?_, Sm_t hq m2⟩
      try simp only
      rw [hd_112_4]
      by_cases c : msV (h 187 0) L H N x = 0
      · rw [bs_s _ (decide_eq_true c)]
        rw [c] at m1
        simp (disch := omega) only [x_1, x_7_1_I, x_7_1_A, x_7_1_U, x_7_2_I, x_7_2_A, x_7_2_U, x_61, x_4_2, x_6_0, x_35_0, x_33, x_65, x_79_3_3_d0, x_79_3_3_d1, x_79_3_3_d2, x_79_3_3_d3, x_79_3_3_d4, x_69, x_4_1, x_20, x_18, x_10_2_I, x_10_2_A, x_10_2_U, x_60, x_82, cb_ri, cb_rl, cb_rv, cb_th, cb_ite, ps_s, ps_n, u_112_0, u_112_36, u_112_42, q39, m1, bs_or, Int.reduceEq, Int.reduceLT, Int.reduceLE, reduceIte, Int.reduceAdd, Int.reduceSub, Int.reduceMul, Int.reduceNeg, Int.reduceToNat, Bool.false_eq_true, eq_self, if_pos, if_neg, ci, w32_id]
      · rw [bs_f _ (decide_eq_false c)]
        simp (disch := omega) only [x_1, x_7_1_I, x_7_1_A, x_7_1_U, x_7_2_I, x_7_2_A, x_7_2_U, x_61, x_4_2, x_6_0, x_35_0, x_33, x_65, x_79_3_3_d0, x_79_3_3_d1, x_79_3_3_d2, x_79_3_3_d3, x_79_3_3_d4, x_69, x_4_1, x_20, x_18, x_10_2_I, x_10_2_A, x_10_2_U, x_60, x_82, cb_ri, cb_rl, cb_rv, cb_th, cb_ite, ps_s, ps_n, u_112_0, u_112_36, u_112_42, q39, m1, c, Int.reduceEq, Int.reduceLT, Int.reduceLE, reduceIte, Int.reduceAdd, Int.reduceSub, Int.reduceMul, Int.reduceNeg, Int.reduceToNat, Bool.false_eq_true, eq_self, if_pos, if_neg, ci, w32_id]
    · intro q hq
      have q39 := (INV_scr (Sm_w (fun _ _ => scr_c) hq) I).1.1.1.1
      refine ⟨q, ?_, hq⟩
      try simp only
      rw [hd_112_4]
      simp (disch := omega) only [x_1, x_7_1_I, x_7_1_A, x_7_1_U, x_7_2_I, x_7_2_A, x_7_2_U, x_61, x_4_2, x_6_0, x_35_0, x_33, x_65, x_79_3_3_d0, x_79_3_3_d1, x_79_3_3_d2, x_79_3_3_d3, x_79_3_3_d4, x_69, x_4_1, x_20, x_18, x_10_2_I, x_10_2_A, x_10_2_U, x_60, x_82, cb_ri, cb_rl, cb_rv, cb_th, cb_ite, ps_s, ps_n, u_112_0, u_112_36, u_112_42, q39, Int.reduceEq, Int.reduceLT, Int.reduceLE, reduceIte, Int.reduceAdd, Int.reduceSub, Int.reduceMul, Int.reduceNeg, Int.reduceToNat, Bool.false_eq_true, eq_self, if_pos, if_neg]
  · have main := loop_p (S := Hp) (F := fun x (q : Hp) => run (lr + 79) 261 9 [aA 12 0, aI ((bsN (fun x => decide (msV (h 187 0) L H N x = 0)) x : Nat) : Int), aI (x : Int)] [] q)
      (I := fun x q => Sm rsc g q)
      (Q := fun r => ∃ h', r = ri ((bsN (fun x => decide (msV (h 187 0) L H N x = 0)) H : Nat) : Int) h' ∧ Sm rsc g h') (N := H) ?_ ?_ (hset g 186 0 0 0) (rsc_186 g 0)
    · obtain ⟨h', e1, e2⟩ := main
      refine ⟨h', ?_, e2⟩
      show cl (lr + 80) _ _ _ = _
      rw [← e1, in_261]
      simp (disch := omega) only [x_6_0, x_1, x_36, x_7_1_I, x_7_1_A, x_7_1_U, x_7_2_I, x_7_2_A, x_7_2_U, x_61, x_4_2, x_34, x_38_187, x_65, x_4_1, x_79_2_12_d0, x_79_2_12_d1, x_79_2_12_d2, x_79_2_12_d3, x_79_2_12_d4, x_69, x_20, x_60, x_18, x_10_2_I, x_10_2_A, x_10_2_U, x_82, cb_ri, cb_rl, cb_rv, cb_th, cb_ite, ps_s, ps_n, u_261_0, u_261_34, u_261_35, u_261_43]
      rfl
    · intro x q hx hq
      have sq : Sm scr h q := Sm_t s (Sm_w (fun _ _ => scr_m) hq)
      have Iq : INV q H N := INV_scr sq I
      have q3 := Iq.1.2.1.1.1
      obtain ⟨q', m1, -, m2⟩ := msI (lr + 42) H N x _ h q I sq Iq rfl L hL hW hl hx
      refine ⟨q', ?_, Sm_t hq m2⟩
      try simp only
      rw [hd_261_9]
      by_cases c : msV (h 187 0) L H N x = 0
      · rw [bs_s _ (decide_eq_true c)]
        rw [c] at m1
        simp (disch := omega) only [x_6_0, x_1, x_36, x_7_1_I, x_7_1_A, x_7_1_U, x_7_2_I, x_7_2_A, x_7_2_U, x_61, x_4_2, x_34, x_38_187, x_65, x_4_1, x_79_2_12_d0, x_79_2_12_d1, x_79_2_12_d2, x_79_2_12_d3, x_79_2_12_d4, x_69, x_20, x_60, x_18, x_10_2_I, x_10_2_A, x_10_2_U, x_82, cb_ri, cb_rl, cb_rv, cb_th, cb_ite, ps_s, ps_n, u_261_0, u_261_34, u_261_35, u_261_43, q3, m1, bs_or, Int.reduceEq, Int.reduceLT, Int.reduceLE, reduceIte, Int.reduceAdd, Int.reduceSub, Int.reduceMul, Int.reduceNeg, Int.reduceToNat, Bool.false_eq_true, eq_self, if_pos, if_neg, ci, w32_id]
      · rw [bs_f _ (decide_eq_false c)]
        simp (disch := omega) only [x_6_0, x_1, x_36, x_7_1_I, x_7_1_A, x_7_1_U, x_7_2_I, x_7_2_A, x_7_2_U, x_61, x_4_2, x_34, x_38_187, x_65, x_4_1, x_79_2_12_d0, x_79_2_12_d1, x_79_2_12_d2, x_79_2_12_d3, x_79_2_12_d4, x_69, x_20, x_60, x_18, x_10_2_I, x_10_2_A, x_10_2_U, x_82, cb_ri, cb_rl, cb_rv, cb_th, cb_ite, ps_s, ps_n, u_261_0, u_261_34, u_261_35, u_261_43, q3, m1, c, bs_z, Int.reduceEq, Int.reduceLT, Int.reduceLE, reduceIte, Int.reduceAdd, Int.reduceSub, Int.reduceMul, Int.reduceNeg, Int.reduceToNat, Bool.false_eq_true, eq_self, if_pos, if_neg, ci, w32_id]
    · intro q hq
      have q3 := (INV_scr (Sm_t s (Sm_w (fun _ _ => scr_m) hq)) I).1.2.1.1.1
      refine ⟨q, ?_, hq⟩
      try simp only
      rw [hd_261_9]
      simp (disch := omega) only [x_6_0, x_1, x_36, x_7_1_I, x_7_1_A, x_7_1_U, x_7_2_I, x_7_2_A, x_7_2_U, x_61, x_4_2, x_34, x_38_187, x_65, x_4_1, x_79_2_12_d0, x_79_2_12_d1, x_79_2_12_d2, x_79_2_12_d3, x_79_2_12_d4, x_69, x_20, x_60, x_18, x_10_2_I, x_10_2_A, x_10_2_U, x_82, cb_ri, cb_rl, cb_rv, cb_th, cb_ite, ps_s, ps_n, u_261_0, u_261_34, u_261_35, u_261_43, q3, Int.reduceEq, Int.reduceLT, Int.reduceLE, reduceIte, Int.reduceAdd, Int.reduceSub, Int.reduceMul, Int.reduceNeg, Int.reduceToNat, Bool.false_eq_true, eq_self, if_pos, if_neg]
/-! choices -/
def hgV (m : Int) (k : Nat) : Int := if k = 0 then m - 2 else if k = 1 then m else if k = 2 then 1 else -m
def tgV (m : Int) (k : Nat) : Int := if k = 0 then -1 else if k = 2 then m else 0
theorem sw10D : swD 10 = 36 := id rfl
theorem sw10T : swT 10 = [(0, 28), (1, 32), (2, 34)] := id rfl
theorem sw12D : swD 12 = 32 := id rfl
theorem sw12T : swT 12 = [(0, 28), (2, 30)] := id rfl
theorem k4 {k : Nat} (hk : k < 4) : k = 0 ∨ k = 1 ∨ k = 2 ∨ k = 3 := by omega
theorem handGain_c (lv k : Nat) (m : Int) (h : Hp) (hk : k < 4) (hm : -1000 ≤ m ∧ m ≤ 1000) : cl (lv + 1) 165 [aI (k : Int), aI m] h = ri (hgV m k) h := by
  rw [in_165]
  rcases k4 hk with rfl | rfl | rfl | rfl
  · simp (disch := omega) only [x_4_0, x_76, x_4_1, x_1, x_12, x_82, x_16, sw_n, sw_c, u_165_0, u_165_28, u_165_32, u_165_34, u_165_36, sw10D, sw10T, w32_id, Int.reduceEq, Int.reduceLT, Int.reduceLE, reduceIte, Int.reduceAdd, Int.reduceSub, Int.reduceMul, Int.reduceNeg, Int.reduceToNat, Bool.false_eq_true, eq_self, if_pos, if_neg, Int.natCast_zero]; rfl
  · simp (disch := omega) only [x_4_0, x_76, x_4_1, x_1, x_12, x_82, x_16, sw_n, sw_c, u_165_0, u_165_28, u_165_32, u_165_34, u_165_36, sw10D, sw10T, w32_id, Int.reduceEq, Int.reduceLT, Int.reduceLE, reduceIte, Int.reduceAdd, Int.reduceSub, Int.reduceMul, Int.reduceNeg, Int.reduceToNat, Bool.false_eq_true, eq_self, if_pos, if_neg, Int.natCast_one]; rfl
  · have e : ((2 : Nat) : Int) = 2 := rfl
    simp (disch := omega) only [x_4_0, x_76, x_4_1, x_1, x_12, x_82, x_16, sw_n, sw_c, u_165_0, u_165_28, u_165_32, u_165_34, u_165_36, sw10D, sw10T, w32_id, e, Int.reduceEq, Int.reduceLT, Int.reduceLE, reduceIte, Int.reduceAdd, Int.reduceSub, Int.reduceMul, Int.reduceNeg, Int.reduceToNat, Bool.false_eq_true, eq_self, if_pos, if_neg]; rfl
  · have e : ((3 : Nat) : Int) = 3 := rfl
    simp (disch := omega) only [x_4_0, x_76, x_4_1, x_1, x_12, x_82, x_16, sw_n, sw_c, u_165_0, u_165_28, u_165_32, u_165_34, u_165_36, sw10D, sw10T, w32_id, e, Int.reduceEq, Int.reduceLT, Int.reduceLE, reduceIte, Int.reduceAdd, Int.reduceSub, Int.reduceMul, Int.reduceNeg, Int.reduceToNat, Bool.false_eq_true, eq_self, if_pos, if_neg]; rfl
theorem thirdGain_c (lv k : Nat) (m : Int) (h : Hp) (hk : k < 4) : cl (lv + 1) 166 [aI (k : Int), aI m] h = ri (tgV m k) h := by
  rw [in_166]
  rcases k4 hk with rfl | rfl | rfl | rfl
  · simp (disch := omega) only [x_4_0, x_76, x_1, x_82, x_4_1, sw_n, sw_c, u_166_0, u_166_28, u_166_30, u_166_32, sw12D, sw12T, Int.reduceEq, Int.reduceLT, Int.reduceLE, reduceIte, Int.reduceAdd, Int.reduceSub, Int.reduceMul, Int.reduceNeg, Int.reduceToNat, Bool.false_eq_true, eq_self, if_pos, if_neg, Int.natCast_zero]; rfl
  · simp (disch := omega) only [x_4_0, x_76, x_1, x_82, x_4_1, sw_n, sw_c, u_166_0, u_166_28, u_166_30, u_166_32, sw12D, sw12T, Int.reduceEq, Int.reduceLT, Int.reduceLE, reduceIte, Int.reduceAdd, Int.reduceSub, Int.reduceMul, Int.reduceNeg, Int.reduceToNat, Bool.false_eq_true, eq_self, if_pos, if_neg, Int.natCast_one]; rfl
  · have e : ((2 : Nat) : Int) = 2 := rfl
    simp (disch := omega) only [x_4_0, x_76, x_1, x_82, x_4_1, sw_n, sw_c, u_166_0, u_166_28, u_166_30, u_166_32, sw12D, sw12T, e, Int.reduceEq, Int.reduceLT, Int.reduceLE, reduceIte, Int.reduceAdd, Int.reduceSub, Int.reduceMul, Int.reduceNeg, Int.reduceToNat, Bool.false_eq_true, eq_self, if_pos, if_neg]; rfl
  · have e : ((3 : Nat) : Int) = 3 := rfl
    simp (disch := omega) only [x_4_0, x_76, x_1, x_82, x_4_1, sw_n, sw_c, u_166_0, u_166_28, u_166_30, u_166_32, sw12D, sw12T, e, Int.reduceEq, Int.reduceLT, Int.reduceLE, reduceIte, Int.reduceAdd, Int.reduceSub, Int.reduceMul, Int.reduceNeg, Int.reduceToNat, Bool.false_eq_true, eq_self, if_pos, if_neg]; rfl
theorem handHas_m (lv a b : Nat) (m : Int) (h : Hp) (ha : a < 2) (hb : b < 2) (hm : -1000 ≤ m ∧ m ≤ 1000) : cl (lv + 1) 292 [aI m, aI (a : Int), aI (b : Int)] h = ri (hgV m (2 * a + b)) h := by
  rw [in_292]
  have ca : a = 0 ∨ a = 1 := by omega
  have cb : b = 0 ∨ b = 1 := by omega
  rcases ca with rfl | rfl <;> rcases cb with rfl | rfl <;> simp (disch := omega) only [x_4_1, x_69, x_4_2, x_4_0, x_1, x_12, x_60, x_61, x_82, x_16, u_292_0, u_292_14, u_292_15, u_292_16, u_292_24, u_292_26, w32_id, Int.reduceEq, Int.reduceLT, Int.reduceLE, reduceIte, Int.reduceAdd, Int.reduceSub, Int.reduceMul, Int.reduceNeg, Int.reduceToNat, Bool.false_eq_true, eq_self, if_pos, if_neg, Int.natCast_zero, Int.natCast_one] <;> rfl
theorem thirdHas_m (lv a b : Nat) (m : Int) (h : Hp) (ha : a < 2) (hb : b < 2) : cl (lv + 1) 293 [aI m, aI (a : Int), aI (b : Int)] h = ri (tgV m (2 * a + b)) h := by
  rw [in_293]
  have ca : a = 0 ∨ a = 1 := by omega
  have cb : b = 0 ∨ b = 1 := by omega
  rcases ca with rfl | rfl <;> rcases cb with rfl | rfl <;> simp (disch := omega) only [x_4_2, x_1, x_63, x_82, x_4_1, x_69, x_60, x_4_0, x_61, u_293_0, u_293_7, u_293_15, u_293_16, Int.reduceEq, Int.reduceLT, Int.reduceLE, reduceIte, Int.reduceAdd, Int.reduceSub, Int.reduceMul, Int.reduceNeg, Int.reduceToNat, Bool.false_eq_true, eq_self, if_pos, if_neg, Int.natCast_zero, Int.natCast_one] <;> rfl
def o2 (k : Nat) : Nat := if k < 2 then k + 2 else k - 2
def o1 (k : Nat) : Nat := if k % 2 = 0 then k + 1 else k - 1
def rsB (m : Int) (k : Nat) : Bool := decide (hgV m (o2 k) ≤ hgV m k) && decide (tgV m (o1 k) ≤ tgV m k)
theorem ixor_2 : ∀ k : Nat, k < 4 → ixor (k : Int) 2 = (o2 k : Int) ∧ ixor (k : Int) 1 = (o1 k : Int) ∧ o2 k < 4 ∧ o1 k < 4 := by decide +kernel
theorem ag_rests (lc lr H N : Nat) (p : Int) (h : Hp) (I : INV h H N) : AGt t2 (fun h => cl (lc + 80) 131 [aA 11 0, aI p] h) (fun h => cl (lr + 80) 294 [aA 12 0, aI p] h) h := by
  have hH := I.1.2.1.1.2.1
  have hN := I.1.2.1.2.1.2.1
  have ch := checkHand_c (lc + 78) H p h I.1.1.1.1
  obtain ⟨L, W, hL, hW, hl⟩ := INV_law I
  by_cases c : 0 ≤ p ∧ p < H
  · rw [if_pos c] at ch
    obtain ⟨i, rfl⟩ : ∃ i : Nat, p = (i : Int) := ⟨p.toNat, by omega⟩
    have mb := ms_b (h 187 0) L H i hN
    refine AGt_q I (v := ((bsN (rsB (msV (h 187 0) L H N i)) 4 : Nat) : Int)) ?_ (fun g s J => ?_)
    · obtain ⟨h1, m1, m2⟩ := missed_c (lc + 68) H N i h I L W (by omega)
      refine ⟨h1, ?_, m2⟩
      show cl (lc + 80) _ _ _ = _
      rw [in_131]
      simp (disch := omega) only [x_6_0, x_4_1, x_79_2_11_d0, x_79_2_11_d1, x_79_2_11_d2, x_79_2_11_d3, x_79_2_11_d4, x_35_0, x_79_3_3_d0, x_79_3_3_d1, x_79_3_3_d2, x_79_3_3_d3, x_79_3_3_d4, x_7_2_I, x_7_2_A, x_7_2_U, x_1, x_7_3_I, x_7_3_A, x_7_3_U, x_7_4_I, x_7_4_A, x_7_4_U, x_61, x_4_4, x_65, x_4_2, x_80_2_d0, x_80_2_d1, x_80_2_d2, x_80_2_d3, x_80_2_d4, x_19, x_64, x_60, x_7_5_I, x_7_5_A, x_7_5_U, x_7_6_I, x_7_6_A, x_7_6_U, x_4_5, x_68, x_4_6, x_4_3, x_20, x_18, x_10_4_I, x_10_4_A, x_10_4_U, x_82, cb_ri, cb_rl, cb_rv, cb_th, cb_ite, ps_s, ps_n, u_131_0, u_131_50, u_131_51, u_131_74, u_131_75, u_131_94, u_131_100, ch, m1]
      generalize msV (h 187 0) L H N i = m at mb
      have main := loop_p (S := AV × AV) (F := fun k (q : AV × AV) => run (lc + 79) 131 23 [aA 11 0, aI (i : Int), aI m, aI ((bsN (rsB m) k : Nat) : Int), aI (k : Int), q.1, q.2] [] h1) (I := fun _ _ => True) (Q := fun r => r = ri ((bsN (rsB m) 4 : Nat) : Int) h1) (N := 4) ?_ ?_ (none, none) trivial
      · exact main
      · rintro k ⟨v5, v6⟩ hk -
        obtain ⟨x2, x1, y2, y1⟩ := ixor_2 k hk
        have g1 := handGain_c (lc + 78) k m h1 hk (by omega)
        have g2 := handGain_c (lc + 78) (o2 k) m h1 y2 (by omega)
        have g3 := thirdGain_c (lc + 78) k m h1 hk
        have g4 := thirdGain_c (lc + 78) (o1 k) m h1 y1
        have so := bs_or (rsB m) (show k < 31 by omega)
        by_cases d1 : hgV m k < hgV m (o2 k)
        · have pb : rsB m k = false := by unfold rsB; rw [decide_eq_false (show ¬ hgV m (o2 k) ≤ hgV m k by omega)]; rfl
          by_cases d2 : tgV m k < tgV m (o1 k)
          · refine ⟨(aI 0, aI 0), ?_, trivial⟩
            try simp only
            rw [bs_f _ pb, hd_131_23]
            simp (disch := omega) only [x_6_0, x_4_1, x_79_2_11_d0, x_79_2_11_d1, x_79_2_11_d2, x_79_2_11_d3, x_79_2_11_d4, x_35_0, x_79_3_3_d0, x_79_3_3_d1, x_79_3_3_d2, x_79_3_3_d3, x_79_3_3_d4, x_7_2_I, x_7_2_A, x_7_2_U, x_1, x_7_3_I, x_7_3_A, x_7_3_U, x_7_4_I, x_7_4_A, x_7_4_U, x_61, x_4_4, x_65, x_4_2, x_80_2_d0, x_80_2_d1, x_80_2_d2, x_80_2_d3, x_80_2_d4, x_19, x_64, x_60, x_7_5_I, x_7_5_A, x_7_5_U, x_7_6_I, x_7_6_A, x_7_6_U, x_4_5, x_68, x_4_6, x_4_3, x_20, x_18, x_10_4_I, x_10_4_A, x_10_4_U, x_82, cb_ri, cb_rl, cb_rv, cb_th, cb_ite, ps_s, ps_n, u_131_0, u_131_50, u_131_51, u_131_74, u_131_75, u_131_94, u_131_100, x2, x1, g1, g2, g3, g4, d1, d2, Int.reduceEq, Int.reduceLT, Int.reduceLE, reduceIte, Int.reduceAdd, Int.reduceSub, Int.reduceMul, Int.reduceNeg, Int.reduceToNat, Bool.false_eq_true, eq_self, if_pos, if_neg, ci, w32_id]
          · refine ⟨(aI 0, aI 1), ?_, trivial⟩
            try simp only
            rw [bs_f _ pb, hd_131_23]
            simp (disch := omega) only [x_6_0, x_4_1, x_79_2_11_d0, x_79_2_11_d1, x_79_2_11_d2, x_79_2_11_d3, x_79_2_11_d4, x_35_0, x_79_3_3_d0, x_79_3_3_d1, x_79_3_3_d2, x_79_3_3_d3, x_79_3_3_d4, x_7_2_I, x_7_2_A, x_7_2_U, x_1, x_7_3_I, x_7_3_A, x_7_3_U, x_7_4_I, x_7_4_A, x_7_4_U, x_61, x_4_4, x_65, x_4_2, x_80_2_d0, x_80_2_d1, x_80_2_d2, x_80_2_d3, x_80_2_d4, x_19, x_64, x_60, x_7_5_I, x_7_5_A, x_7_5_U, x_7_6_I, x_7_6_A, x_7_6_U, x_4_5, x_68, x_4_6, x_4_3, x_20, x_18, x_10_4_I, x_10_4_A, x_10_4_U, x_82, cb_ri, cb_rl, cb_rv, cb_th, cb_ite, ps_s, ps_n, u_131_0, u_131_50, u_131_51, u_131_74, u_131_75, u_131_94, u_131_100, x2, x1, g1, g2, g3, g4, d1, d2, Int.reduceEq, Int.reduceLT, Int.reduceLE, reduceIte, Int.reduceAdd, Int.reduceSub, Int.reduceMul, Int.reduceNeg, Int.reduceToNat, Bool.false_eq_true, eq_self, if_pos, if_neg, ci, w32_id]
        · by_cases d2 : tgV m k < tgV m (o1 k)
          · have pb : rsB m k = false := by unfold rsB; rw [decide_eq_false (show ¬ tgV m (o1 k) ≤ tgV m k by omega), Bool.and_false]
            refine ⟨(aI 1, aI 0), ?_, trivial⟩
            try simp only
            rw [bs_f _ pb, hd_131_23]
            simp (disch := omega) only [x_6_0, x_4_1, x_79_2_11_d0, x_79_2_11_d1, x_79_2_11_d2, x_79_2_11_d3, x_79_2_11_d4, x_35_0, x_79_3_3_d0, x_79_3_3_d1, x_79_3_3_d2, x_79_3_3_d3, x_79_3_3_d4, x_7_2_I, x_7_2_A, x_7_2_U, x_1, x_7_3_I, x_7_3_A, x_7_3_U, x_7_4_I, x_7_4_A, x_7_4_U, x_61, x_4_4, x_65, x_4_2, x_80_2_d0, x_80_2_d1, x_80_2_d2, x_80_2_d3, x_80_2_d4, x_19, x_64, x_60, x_7_5_I, x_7_5_A, x_7_5_U, x_7_6_I, x_7_6_A, x_7_6_U, x_4_5, x_68, x_4_6, x_4_3, x_20, x_18, x_10_4_I, x_10_4_A, x_10_4_U, x_82, cb_ri, cb_rl, cb_rv, cb_th, cb_ite, ps_s, ps_n, u_131_0, u_131_50, u_131_51, u_131_74, u_131_75, u_131_94, u_131_100, x2, x1, g1, g2, g3, g4, d1, d2, Int.reduceEq, Int.reduceLT, Int.reduceLE, reduceIte, Int.reduceAdd, Int.reduceSub, Int.reduceMul, Int.reduceNeg, Int.reduceToNat, Bool.false_eq_true, eq_self, if_pos, if_neg, ci, w32_id]
          · have pb : rsB m k = true := by unfold rsB; rw [decide_eq_true (show hgV m (o2 k) ≤ hgV m k by omega), decide_eq_true (show tgV m (o1 k) ≤ tgV m k by omega)]; rfl
            refine ⟨(aI 1, aI 1), ?_, trivial⟩
            try simp only
            rw [bs_s _ pb, hd_131_23]
            simp (disch := omega) only [x_6_0, x_4_1, x_79_2_11_d0, x_79_2_11_d1, x_79_2_11_d2, x_79_2_11_d3, x_79_2_11_d4, x_35_0, x_79_3_3_d0, x_79_3_3_d1, x_79_3_3_d2, x_79_3_3_d3, x_79_3_3_d4, x_7_2_I, x_7_2_A, x_7_2_U, x_1, x_7_3_I, x_7_3_A, x_7_3_U, x_7_4_I, x_7_4_A, x_7_4_U, x_61, x_4_4, x_65, x_4_2, x_80_2_d0, x_80_2_d1, x_80_2_d2, x_80_2_d3, x_80_2_d4, x_19, x_64, x_60, x_7_5_I, x_7_5_A, x_7_5_U, x_7_6_I, x_7_6_A, x_7_6_U, x_4_5, x_68, x_4_6, x_4_3, x_20, x_18, x_10_4_I, x_10_4_A, x_10_4_U, x_82, cb_ri, cb_rl, cb_rv, cb_th, cb_ite, ps_s, ps_n, u_131_0, u_131_50, u_131_51, u_131_74, u_131_75, u_131_94, u_131_100, x2, x1, g1, g2, g3, g4, d1, d2, so, Int.reduceEq, Int.reduceLT, Int.reduceLE, reduceIte, Int.reduceAdd, Int.reduceSub, Int.reduceMul, Int.reduceNeg, Int.reduceToNat, Bool.false_eq_true, eq_self, if_pos, if_neg, ci, w32_id]
      · rintro ⟨v5, v6⟩ -
        show run _ _ _ _ _ _ = _
        rw [hd_131_23]
        simp (disch := omega) only [x_6_0, x_4_1, x_79_2_11_d0, x_79_2_11_d1, x_79_2_11_d2, x_79_2_11_d3, x_79_2_11_d4, x_35_0, x_79_3_3_d0, x_79_3_3_d1, x_79_3_3_d2, x_79_3_3_d3, x_79_3_3_d4, x_7_2_I, x_7_2_A, x_7_2_U, x_1, x_7_3_I, x_7_3_A, x_7_3_U, x_7_4_I, x_7_4_A, x_7_4_U, x_61, x_4_4, x_65, x_4_2, x_80_2_d0, x_80_2_d1, x_80_2_d2, x_80_2_d3, x_80_2_d4, x_19, x_64, x_60, x_7_5_I, x_7_5_A, x_7_5_U, x_7_6_I, x_7_6_A, x_7_6_U, x_4_5, x_68, x_4_6, x_4_3, x_20, x_18, x_10_4_I, x_10_4_A, x_10_4_U, x_82, cb_ri, cb_rl, cb_rv, cb_th, cb_ite, ps_s, ps_n, u_131_0, u_131_50, u_131_51, u_131_74, u_131_75, u_131_94, u_131_100, Int.reduceEq, Int.reduceLT, Int.reduceLE, reduceIte, Int.reduceAdd, Int.reduceSub, Int.reduceMul, Int.reduceNeg, Int.reduceToNat, Bool.false_eq_true, eq_self, if_pos, if_neg]
    · have s1 : Sm scr h (hset g 186 0 0 0) := Sm_t s (Sm_w (fun _ _ => scr_m) (rsc_186 g 0))
      obtain ⟨h1, m1, m3, m2⟩ := msI (lr + 42) H N i 0 h (hset g 186 0 0 0) I s1 (INV_186 0 J) (hs_eq _ _ _ _ _) L hL hW hl (by omega)
      have ih := inH J (lr + 77) (i : Int)
      rw [if_pos c] at ih
      refine ⟨h1, ?_, m3, Sm_t (rsc_186 g 0) m2⟩
      show cl (lr + 80) _ _ _ = _
      rw [in_294]
      simp (disch := omega) only [x_6_0, x_4_1, x_79_2_12_d0, x_79_2_12_d1, x_79_2_12_d2, x_79_2_12_d3, x_79_2_12_d4, x_69, x_1, x_60, x_61, x_36, x_33, x_73, x_82, x_7_2_I, x_7_2_A, x_7_2_U, x_7_3_I, x_7_3_A, x_7_3_U, x_7_4_I, x_7_4_A, x_7_4_U, x_4_4, x_65, x_14, x_7_5_I, x_7_5_A, x_7_5_U, x_15, x_7_6_I, x_7_6_A, x_7_6_U, x_4_2, x_4_5, x_12, x_4_6, x_80_3_d0, x_80_3_d1, x_80_3_d2, x_80_3_d3, x_80_3_d4, x_66, x_4_3, x_20, x_18, x_10_4_I, x_10_4_A, x_10_4_U, cb_ri, cb_rl, cb_rv, cb_th, cb_ite, ps_s, ps_n, u_294_0, u_294_13, u_294_14, u_294_26, u_294_104, u_294_110, ih, hs_eq, m1, Int.reduceEq, Int.reduceLT, Int.reduceLE, reduceIte, Int.reduceAdd, Int.reduceSub, Int.reduceMul, Int.reduceNeg, Int.reduceToNat, Bool.false_eq_true, eq_self, if_pos, if_neg]
      generalize msV (h 187 0) L H N i = m at mb
      have main := loop_p (S := AV × AV) (F := fun k (q : AV × AV) => run (lr + 79) 294 37 [aA 12 0, aI (i : Int), aI m, aI ((bsN (rsB m) k : Nat) : Int), aI (k : Int), q.1, q.2] [] h1) (I := fun _ _ => True) (Q := fun r => r = ri ((bsN (rsB m) 4 : Nat) : Int) h1) (N := 4) ?_ ?_ (none, none) trivial
      · exact main
      · rintro k ⟨v5, v6⟩ hk -
        have dv : idiv (k : Int) 2 = ((k / 2 : Nat) : Int) := by rcases k4 hk with rfl | rfl | rfl | rfl <;> decide
        have rm : irem (k : Int) 2 = ((k % 2 : Nat) : Int) := by rcases k4 hk with rfl | rfl | rfl | rfl <;> decide
        have e1 : (1 : Int) - ((k / 2 : Nat) : Int) = ((1 - k / 2 : Nat) : Int) := by omega
        have e2 : (1 : Int) - ((k % 2 : Nat) : Int) = ((1 - k % 2 : Nat) : Int) := by omega
        have g1 := handHas_m (lr + 78) (k / 2) (k % 2) m h1 (by omega) (by omega) (by omega)
        have g2 := handHas_m (lr + 78) (1 - k / 2) (k % 2) m h1 (by omega) (by omega) (by omega)
        have g3 := thirdHas_m (lr + 78) (k / 2) (k % 2) m h1 (by omega) (by omega)
        have g4 := thirdHas_m (lr + 78) (k / 2) (1 - k % 2) m h1 (by omega) (by omega)
        have k2 : 2 * (k / 2) + k % 2 = k := by omega
        have k3 : 2 * (1 - k / 2) + k % 2 = o2 k := by unfold o2; split <;> omega
        have k5 : 2 * (k / 2) + (1 - k % 2) = o1 k := by unfold o1; split <;> omega
        rw [k2] at g1 g3
        rw [k3] at g2
        rw [k5] at g4
        have so := bs_or (rsB m) (show k < 31 by omega)
        refine ⟨(aI ((k / 2 : Nat) : Int), aI ((k % 2 : Nat) : Int)), ?_, trivial⟩
        try simp only
        by_cases d1 : hgV m k < hgV m (o2 k)
        · have pb : rsB m k = false := by unfold rsB; rw [decide_eq_false (show ¬ hgV m (o2 k) ≤ hgV m k by omega)]; rfl
          rw [bs_f _ pb, hd_294_37]
          simp (disch := omega) only [x_6_0, x_4_1, x_79_2_12_d0, x_79_2_12_d1, x_79_2_12_d2, x_79_2_12_d3, x_79_2_12_d4, x_69, x_1, x_60, x_61, x_36, x_33, x_73, x_82, x_7_2_I, x_7_2_A, x_7_2_U, x_7_3_I, x_7_3_A, x_7_3_U, x_7_4_I, x_7_4_A, x_7_4_U, x_4_4, x_65, x_14, x_7_5_I, x_7_5_A, x_7_5_U, x_15, x_7_6_I, x_7_6_A, x_7_6_U, x_4_2, x_4_5, x_12, x_4_6, x_80_3_d0, x_80_3_d1, x_80_3_d2, x_80_3_d3, x_80_3_d4, x_66, x_4_3, x_20, x_18, x_10_4_I, x_10_4_A, x_10_4_U, cb_ri, cb_rl, cb_rv, cb_th, cb_ite, ps_s, ps_n, u_294_0, u_294_13, u_294_14, u_294_26, u_294_104, u_294_110, dv, rm, e1, e2, g1, g2, d1, Int.reduceEq, Int.reduceLT, Int.reduceLE, reduceIte, Int.reduceAdd, Int.reduceSub, Int.reduceMul, Int.reduceNeg, Int.reduceToNat, Bool.false_eq_true, eq_self, if_pos, if_neg, ci, w32_id]
        · by_cases d2 : tgV m k < tgV m (o1 k)
          · have pb : rsB m k = false := by unfold rsB; rw [decide_eq_false (show ¬ tgV m (o1 k) ≤ tgV m k by omega), Bool.and_false]
            rw [bs_f _ pb, hd_294_37]
            simp (disch := omega) only [x_6_0, x_4_1, x_79_2_12_d0, x_79_2_12_d1, x_79_2_12_d2, x_79_2_12_d3, x_79_2_12_d4, x_69, x_1, x_60, x_61, x_36, x_33, x_73, x_82, x_7_2_I, x_7_2_A, x_7_2_U, x_7_3_I, x_7_3_A, x_7_3_U, x_7_4_I, x_7_4_A, x_7_4_U, x_4_4, x_65, x_14, x_7_5_I, x_7_5_A, x_7_5_U, x_15, x_7_6_I, x_7_6_A, x_7_6_U, x_4_2, x_4_5, x_12, x_4_6, x_80_3_d0, x_80_3_d1, x_80_3_d2, x_80_3_d3, x_80_3_d4, x_66, x_4_3, x_20, x_18, x_10_4_I, x_10_4_A, x_10_4_U, cb_ri, cb_rl, cb_rv, cb_th, cb_ite, ps_s, ps_n, u_294_0, u_294_13, u_294_14, u_294_26, u_294_104, u_294_110, dv, rm, e1, e2, g1, g2, g3, g4, d1, d2, Int.reduceEq, Int.reduceLT, Int.reduceLE, reduceIte, Int.reduceAdd, Int.reduceSub, Int.reduceMul, Int.reduceNeg, Int.reduceToNat, Bool.false_eq_true, eq_self, if_pos, if_neg, ci, w32_id]
          · have pb : rsB m k = true := by unfold rsB; rw [decide_eq_true (show hgV m (o2 k) ≤ hgV m k by omega), decide_eq_true (show tgV m (o1 k) ≤ tgV m k by omega)]; rfl
            rw [bs_s _ pb, hd_294_37]
            simp (disch := omega) only [x_6_0, x_4_1, x_79_2_12_d0, x_79_2_12_d1, x_79_2_12_d2, x_79_2_12_d3, x_79_2_12_d4, x_69, x_1, x_60, x_61, x_36, x_33, x_73, x_82, x_7_2_I, x_7_2_A, x_7_2_U, x_7_3_I, x_7_3_A, x_7_3_U, x_7_4_I, x_7_4_A, x_7_4_U, x_4_4, x_65, x_14, x_7_5_I, x_7_5_A, x_7_5_U, x_15, x_7_6_I, x_7_6_A, x_7_6_U, x_4_2, x_4_5, x_12, x_4_6, x_80_3_d0, x_80_3_d1, x_80_3_d2, x_80_3_d3, x_80_3_d4, x_66, x_4_3, x_20, x_18, x_10_4_I, x_10_4_A, x_10_4_U, cb_ri, cb_rl, cb_rv, cb_th, cb_ite, ps_s, ps_n, u_294_0, u_294_13, u_294_14, u_294_26, u_294_104, u_294_110, dv, rm, e1, e2, g1, g2, g3, g4, d1, d2, so, Int.reduceEq, Int.reduceLT, Int.reduceLE, reduceIte, Int.reduceAdd, Int.reduceSub, Int.reduceMul, Int.reduceNeg, Int.reduceToNat, Bool.false_eq_true, eq_self, if_pos, if_neg, ci, w32_id]
      · rintro ⟨v5, v6⟩ -
        show run _ _ _ _ _ _ = _
        rw [hd_294_37]
        simp (disch := omega) only [x_6_0, x_4_1, x_79_2_12_d0, x_79_2_12_d1, x_79_2_12_d2, x_79_2_12_d3, x_79_2_12_d4, x_69, x_1, x_60, x_61, x_36, x_33, x_73, x_82, x_7_2_I, x_7_2_A, x_7_2_U, x_7_3_I, x_7_3_A, x_7_3_U, x_7_4_I, x_7_4_A, x_7_4_U, x_4_4, x_65, x_14, x_7_5_I, x_7_5_A, x_7_5_U, x_15, x_7_6_I, x_7_6_A, x_7_6_U, x_4_2, x_4_5, x_12, x_4_6, x_80_3_d0, x_80_3_d1, x_80_3_d2, x_80_3_d3, x_80_3_d4, x_66, x_4_3, x_20, x_18, x_10_4_I, x_10_4_A, x_10_4_U, cb_ri, cb_rl, cb_rv, cb_th, cb_ite, ps_s, ps_n, u_294_0, u_294_13, u_294_14, u_294_26, u_294_104, u_294_110, Int.reduceEq, Int.reduceLT, Int.reduceLE, reduceIte, Int.reduceAdd, Int.reduceSub, Int.reduceMul, Int.reduceNeg, Int.reduceToNat, Bool.false_eq_true, eq_self, if_pos, if_neg]
  · rw [if_neg c] at ch
    refine AGt_e I 2 (by decide) ⟨h, ?_, Sm_r _ _⟩ (fun g s J => ⟨0, hset g 186 0 0 1, ?_, hs_eq _ _ _ _ _, rsc_186 g 1⟩)
    · show cl (lc + 80) _ _ _ = _
      rw [in_131]
      simp (disch := omega) only [x_6_0, x_4_1, x_79_2_11_d0, x_79_2_11_d1, x_79_2_11_d2, x_79_2_11_d3, x_79_2_11_d4, x_35_0, x_79_3_3_d0, x_79_3_3_d1, x_79_3_3_d2, x_79_3_3_d3, x_79_3_3_d4, x_7_2_I, x_7_2_A, x_7_2_U, x_1, x_7_3_I, x_7_3_A, x_7_3_U, x_7_4_I, x_7_4_A, x_7_4_U, x_61, x_4_4, x_65, x_4_2, x_80_2_d0, x_80_2_d1, x_80_2_d2, x_80_2_d3, x_80_2_d4, x_19, x_64, x_60, x_7_5_I, x_7_5_A, x_7_5_U, x_7_6_I, x_7_6_A, x_7_6_U, x_4_5, x_68, x_4_6, x_4_3, x_20, x_18, x_10_4_I, x_10_4_A, x_10_4_U, x_82, cb_ri, cb_rl, cb_rv, cb_th, cb_ite, ps_s, ps_n, u_131_0, u_131_50, u_131_51, u_131_74, u_131_75, u_131_94, u_131_100, ch]
    · show cl (lr + 80) _ _ _ = _
      have ih := inH J (lr + 77) p
      rw [if_neg c] at ih
      rw [in_294]
      simp (disch := omega) only [x_6_0, x_4_1, x_79_2_12_d0, x_79_2_12_d1, x_79_2_12_d2, x_79_2_12_d3, x_79_2_12_d4, x_69, x_1, x_60, x_61, x_36, x_33, x_73, x_82, x_7_2_I, x_7_2_A, x_7_2_U, x_7_3_I, x_7_3_A, x_7_3_U, x_7_4_I, x_7_4_A, x_7_4_U, x_4_4, x_65, x_14, x_7_5_I, x_7_5_A, x_7_5_U, x_15, x_7_6_I, x_7_6_A, x_7_6_U, x_4_2, x_4_5, x_12, x_4_6, x_80_3_d0, x_80_3_d1, x_80_3_d2, x_80_3_d3, x_80_3_d4, x_66, x_4_3, x_20, x_18, x_10_4_I, x_10_4_A, x_10_4_U, cb_ri, cb_rl, cb_rv, cb_th, cb_ite, ps_s, ps_n, u_294_0, u_294_13, u_294_14, u_294_26, u_294_104, u_294_110, ih, hs_eq, Int.reduceEq, Int.reduceLT, Int.reduceLE, reduceIte, Int.reduceAdd, Int.reduceSub, Int.reduceMul, Int.reduceNeg, Int.reduceToNat, Bool.false_eq_true, eq_self, if_pos, if_neg]
