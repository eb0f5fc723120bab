/-! LOOKS AHEAD: tiredness, trials, bounds. -/
def tiB (m : Nat → Int) (H : Nat) : Bool := anyB (fun x => decide (50 ≤ m (14 + 6 * x + 4))) H
theorem ffst_step {P : Nat → Bool} {v : Nat → Int} {d : Int} {N k : Nat} (hj : ∀ j, j < k → P j = false) (hk : k < N) (hp : P k = true) : ffst P v d N 0 = v k := ffst_at hk hp hj
theorem ag_tires (lc lr H N : Nat) (h : Hp) (I : INV h H N) : AGp (fun h => cl (lc + 80) 137 [aA 11 0] h) (fun h => cl (lr + 80) 300 [aA 12 0] h) h := by
  have hH := I.1.2.1.1.2.1
  obtain ⟨L, W, hL, hW, hl⟩ := INV_law I
  refine AGp_q I (v := ffst (fun k => tiB (plI (h 187 0) L H N false k) H) (fun k => (k : Int)) (-1) 61 0) ?_ (fun g s J => ?_)
  · obtain ⟨h1, e1, D1⟩ := draft_c (lc + 77) H N h I
    have key : ∀ (d k : Nat) (q : Hp) (v2 : AV), k + d = 61 → DrA h q H N (plI (h 187 0) L H N false k) → (∀ j, j < k → tiB (plI (h 187 0) L H N false j) H = false) → ∃ h', run (lc + 79) 137 13 [aA 11 0, aI (k : Int), v2] [] q = ri (ffst (fun k => tiB (plI (h 187 0) L H N false k) H) (fun k => (k : Int)) (-1) 61 0) h' ∧ Sm csc h h' := by
      intro d
      induction d with
      | zero =>
        intro k q v2 hk D hj
        have : k = 61 := by omega
        subst this
        refine ⟨q, ?_, D.2⟩
        rw [ffst_no hj, hd_137_13]
        simp (disch := omega) only [x_6_0, x_35_1, x_35_0, x_79_2_7_d0, x_79_2_7_d1, x_79_2_7_d2, x_79_2_7_d3, x_79_2_7_d4, x_1, x_7_1_I, x_7_1_A, x_7_1_U, x_61, x_4_1, x_66, x_7_2_I, x_7_2_A, x_7_2_U, x_4_2, x_33, x_65, x_34, x_38_133, x_64, x_82, x_10_2_I, x_10_2_A, x_10_2_U, x_60, x_79_3_9_d0, x_79_3_9_d1, x_79_3_9_d2, x_79_3_9_d3, x_79_3_9_d4, x_49, x_10_1_I, x_10_1_A, x_10_1_U, cb_ri, cb_rl, cb_rv, cb_th, cb_ite, ps_s, ps_n, u_137_0, u_137_48, u_137_54, u_137_73, Int.reduceEq, Int.reduceLT, Int.reduceLE, reduceIte, Int.reduceAdd, Int.reduceSub, Int.reduceMul, Int.reduceNeg, Int.reduceToNat, Bool.false_eq_true, eq_self, if_pos, if_neg]
      | succ d ih =>
        intro k q v2 hk D hj
        have n39 := D.1.1.1
        have inner := loop_any (F := fun x => run (lc + 79) 137 21 [aA 11 0, aI (k : Int), aI (x : Int)] [] q) (N := H) (P := fun x => decide (50 ≤ plI (h 187 0) L H N false k (14 + 6 * x + 4))) (r1 := ri (k : Int) q) (r0 := run (lc + 79) 137 54 [aA 11 0, aI (k : Int), aI (H : Int)] [] q) ?_ ?_
        · have e0 : run (lc + 79) 137 13 [aA 11 0, aI (k : Int), v2] [] q = if tiB (plI (h 187 0) L H N false k) H = true then ri (k : Int) q else run (lc + 79) 137 54 [aA 11 0, aI (k : Int), aI (H : Int)] [] q := by
            refine Eq.trans ?_ inner
            rw [hd_137_13]
            simp (disch := omega) only [x_6_0, x_35_1, x_35_0, x_79_2_7_d0, x_79_2_7_d1, x_79_2_7_d2, x_79_2_7_d3, x_79_2_7_d4, x_1, x_7_1_I, x_7_1_A, x_7_1_U, x_61, x_4_1, x_66, x_7_2_I, x_7_2_A, x_7_2_U, x_4_2, x_33, x_65, x_34, x_38_133, x_64, x_82, x_10_2_I, x_10_2_A, x_10_2_U, x_60, x_79_3_9_d0, x_79_3_9_d1, x_79_3_9_d2, x_79_3_9_d3, x_79_3_9_d4, x_49, x_10_1_I, x_10_1_A, x_10_1_U, cb_ri, cb_rl, cb_rv, cb_th, cb_ite, ps_s, ps_n, u_137_0, u_137_48, u_137_73, Int.reduceEq, Int.reduceLT, Int.reduceLE, reduceIte, Int.reduceAdd, Int.reduceSub, Int.reduceMul, Int.reduceNeg, Int.reduceToNat, Bool.false_eq_true, eq_self, if_pos, if_neg]
            rfl
          cases c : tiB (plI (h 187 0) L H N false k) H with
          | true =>
            rw [c, if_pos rfl] at e0
            refine ⟨q, ?_, D.2⟩
            rw [e0, ffst_step hj (by omega) c]
          | false =>
            rw [c, if_neg Bool.false_ne_true] at e0
            obtain ⟨q', a, b⟩ := play_d (lc + 73) H N false h q _ L W D (plI_ok I.1.2.1 (RL_GL I.1.1.2.2.2) hL k).1
            have a : cl (lc + 79) 71 [aA 9 0, aA 7 1, aI 0] q = _ := a
            obtain ⟨h', f1, f2⟩ := ih (k + 1) q' (aI (H : Int)) (by omega) b (fun j hj' => by
              by_cases ej : j = k
              · rw [ej]; exact c
              · exact hj j (by omega))
            refine ⟨h', ?_, f2⟩
            rw [e0, ← f1]
            simp (disch := omega) only [x_6_0, x_35_1, x_35_0, x_79_2_7_d0, x_79_2_7_d1, x_79_2_7_d2, x_79_2_7_d3, x_79_2_7_d4, x_1, x_7_1_I, x_7_1_A, x_7_1_U, x_61, x_4_1, x_66, x_7_2_I, x_7_2_A, x_7_2_U, x_4_2, x_33, x_65, x_34, x_38_133, x_64, x_82, x_10_2_I, x_10_2_A, x_10_2_U, x_60, x_79_3_9_d0, x_79_3_9_d1, x_79_3_9_d2, x_79_3_9_d3, x_79_3_9_d4, x_49, x_10_1_I, x_10_1_A, x_10_1_U, cb_ri, cb_rl, cb_rv, cb_th, cb_ite, ps_s, ps_n, u_137_0, u_137_48, u_137_54, u_137_73, a, Int.reduceEq, Int.reduceLT, Int.reduceLE, reduceIte, Int.reduceAdd, Int.reduceSub, Int.reduceMul, Int.reduceNeg, Int.reduceToNat, Bool.false_eq_true, eq_self, if_pos, if_neg, ci, w32_id]
        · intro x hx
          have p4 := (D.1.1.2.2.2 x hx).2.2.2.2
          show run _ _ _ _ _ _ = if _ then _ else run _ _ _ _ _ _
          rw [hd_137_21]
          by_cases c : 50 ≤ plI (h 187 0) L H N false k (14 + 6 * x + 4)
          · simp (disch := omega) only [x_6_0, x_35_1, x_35_0, x_79_2_7_d0, x_79_2_7_d1, x_79_2_7_d2, x_79_2_7_d3, x_79_2_7_d4, x_1, x_7_1_I, x_7_1_A, x_7_1_U, x_61, x_4_1, x_66, x_7_2_I, x_7_2_A, x_7_2_U, x_4_2, x_33, x_65, x_34, x_38_133, x_64, x_82, x_10_2_I, x_10_2_A, x_10_2_U, x_60, x_79_3_9_d0, x_79_3_9_d1, x_79_3_9_d2, x_79_3_9_d3, x_79_3_9_d4, x_49, x_10_1_I, x_10_1_A, x_10_1_U, cb_ri, cb_rl, cb_rv, cb_th, cb_ite, ps_s, ps_n, u_137_0, u_137_48, u_137_73, n39, tn, p4, c, decide_true, Int.reduceEq, Int.reduceLT, Int.reduceLE, reduceIte, Int.reduceAdd, Int.reduceSub, Int.reduceMul, Int.reduceNeg, Int.reduceToNat, Bool.false_eq_true, eq_self, if_pos, if_neg, ci, w32_id]
          · simp (disch := omega) only [x_6_0, x_35_1, x_35_0, x_79_2_7_d0, x_79_2_7_d1, x_79_2_7_d2, x_79_2_7_d3, x_79_2_7_d4, x_1, x_7_1_I, x_7_1_A, x_7_1_U, x_61, x_4_1, x_66, x_7_2_I, x_7_2_A, x_7_2_U, x_4_2, x_33, x_65, x_34, x_38_133, x_64, x_82, x_10_2_I, x_10_2_A, x_10_2_U, x_60, x_79_3_9_d0, x_79_3_9_d1, x_79_3_9_d2, x_79_3_9_d3, x_79_3_9_d4, x_49, x_10_1_I, x_10_1_A, x_10_1_U, cb_ri, cb_rl, cb_rv, cb_th, cb_ite, ps_s, ps_n, u_137_0, u_137_48, u_137_73, n39, tn, p4, c, decide_false, Int.reduceEq, Int.reduceLT, Int.reduceLE, reduceIte, Int.reduceAdd, Int.reduceSub, Int.reduceMul, Int.reduceNeg, Int.reduceToNat, Bool.false_eq_true, eq_self, if_pos, if_neg, ci, w32_id]
        · show run _ _ _ _ _ _ = _
          rw [hd_137_21]
          simp (disch := omega) only [x_6_0, x_35_1, x_35_0, x_79_2_7_d0, x_79_2_7_d1, x_79_2_7_d2, x_79_2_7_d3, x_79_2_7_d4, x_1, x_7_1_I, x_7_1_A, x_7_1_U, x_61, x_4_1, x_66, x_7_2_I, x_7_2_A, x_7_2_U, x_4_2, x_33, x_65, x_34, x_38_133, x_64, x_82, x_10_2_I, x_10_2_A, x_10_2_U, x_60, x_79_3_9_d0, x_79_3_9_d1, x_79_3_9_d2, x_79_3_9_d3, x_79_3_9_d4, x_49, x_10_1_I, x_10_1_A, x_10_1_U, cb_ri, cb_rl, cb_rv, cb_th, cb_ite, ps_s, ps_n, u_137_0, u_137_48, u_137_73, n39, Int.reduceEq, Int.reduceLT, Int.reduceLE, reduceIte, Int.reduceAdd, Int.reduceSub, Int.reduceMul, Int.reduceNeg, Int.reduceToNat, Bool.false_eq_true, eq_self, if_pos, if_neg]
    obtain ⟨h', f1, f2⟩ := key 61 0 h1 none (by omega) D1 (fun j hj => by omega)
    refine ⟨h', ?_, f2⟩
    show cl (lc + 80) _ _ _ = _
    rw [← f1, in_137]
    simp (disch := omega) only [x_6_0, x_35_1, x_35_0, x_79_2_7_d0, x_79_2_7_d1, x_79_2_7_d2, x_79_2_7_d3, x_79_2_7_d4, x_1, x_7_1_I, x_7_1_A, x_7_1_U, x_61, x_4_1, x_66, x_7_2_I, x_7_2_A, x_7_2_U, x_4_2, x_33, x_65, x_34, x_38_133, x_64, x_82, x_10_2_I, x_10_2_A, x_10_2_U, x_60, x_79_3_9_d0, x_79_3_9_d1, x_79_3_9_d2, x_79_3_9_d3, x_79_3_9_d4, x_49, x_10_1_I, x_10_1_A, x_10_1_U, cb_ri, cb_rl, cb_rv, cb_th, cb_ite, ps_s, ps_n, u_137_0, u_137_48, u_137_54, u_137_73, e1]
    rfl
  · obtain ⟨r1, r2, r3, r4, r5, r6, r7⟩ := rdy_of 0 I s J hL hW hl
    obtain ⟨g1, a1, a2, a3⟩ := putsAside_m (lr + 78) (hset g 186 0 0 0)
    have k7 : g1 187 0 = h 187 0 := by rw [← r1]; funext j; exact a3 _ _ _ (by omega)
    have ist : ∀ (q : Hp) (m : Nat → Int), q 187 0 = m → GM m H N → cl (lr + 79) 299 [aA 12 0] q = ri (boI (tiB m H)) q := by
      intro q m hq Gm
      have n3 : q 187 0 3 = (H : Int) := by rw [hq]; exact Gm.1.1
      rw [in_299]
      simp (disch := omega) only [x_1, x_7_1_I, x_7_1_A, x_7_1_U, x_7_2_I, x_7_2_A, x_7_2_U, x_61, x_4_2, x_6_0, x_34, x_38_187, x_65, x_4_1, x_69, x_79_3_12_d0, x_79_3_12_d1, x_79_3_12_d2, x_79_3_12_d3, x_79_3_12_d4, x_64, x_60, x_10_2_I, x_10_2_A, x_10_2_U, x_85, cb_ri, cb_rl, cb_rv, cb_th, cb_ite, ps_s, ps_n, u_299_0, u_299_29, u_299_33, u_299_34, u_299_41]
      refine loop_up (F := fun x => run (lr + 78) 299 4 [aA 12 0, aI (boI (anyB (fun x => decide (50 ≤ m (14 + 6 * x + 4))) x)), aI (x : Int)] [] q) (N := H) ?_ ?_ 0 (by omega)
      · intro x hx
        have i4 : cl (lr + 78) 173 [aA 12 0, aI (x : Int), aI 4] q = ri (m (14 + 6 * x + 4)) q := by have := its_c (lr + 77) x 4 q (by omega) (by omega); rw [hq] at this; exact this
        show run _ _ _ _ _ _ = run _ _ _ _ _ _
        simp only [anyB]
        rw [hd_299_4]
        cases c1 : anyB (fun x => decide (50 ≤ m (14 + 6 * x + 4))) x with
        | true => simp (disch := omega) only [x_1, x_7_1_I, x_7_1_A, x_7_1_U, x_7_2_I, x_7_2_A, x_7_2_U, x_61, x_4_2, x_6_0, x_34, x_38_187, x_65, x_4_1, x_69, x_79_3_12_d0, x_79_3_12_d1, x_79_3_12_d2, x_79_3_12_d3, x_79_3_12_d4, x_64, x_60, x_10_2_I, x_10_2_A, x_10_2_U, x_85, cb_ri, cb_rl, cb_rv, cb_th, cb_ite, ps_s, ps_n, u_299_0, u_299_29, u_299_33, u_299_34, u_299_41, n3, boI, Bool.true_or, Int.reduceEq, Int.reduceLT, Int.reduceLE, reduceIte, Int.reduceAdd, Int.reduceSub, Int.reduceMul, Int.reduceNeg, Int.reduceToNat, Bool.false_eq_true, eq_self, if_pos, if_neg, ci, w32_id]
        | false =>
          by_cases c2 : 50 ≤ m (14 + 6 * x + 4)
          · simp (disch := omega) only [x_1, x_7_1_I, x_7_1_A, x_7_1_U, x_7_2_I, x_7_2_A, x_7_2_U, x_61, x_4_2, x_6_0, x_34, x_38_187, x_65, x_4_1, x_69, x_79_3_12_d0, x_79_3_12_d1, x_79_3_12_d2, x_79_3_12_d3, x_79_3_12_d4, x_64, x_60, x_10_2_I, x_10_2_A, x_10_2_U, x_85, cb_ri, cb_rl, cb_rv, cb_th, cb_ite, ps_s, ps_n, u_299_0, u_299_29, u_299_33, u_299_34, u_299_41, n3, i4, boI, c2, decide_true, Bool.or_true, Int.reduceEq, Int.reduceLT, Int.reduceLE, reduceIte, Int.reduceAdd, Int.reduceSub, Int.reduceMul, Int.reduceNeg, Int.reduceToNat, Bool.false_eq_true, eq_self, if_pos, if_neg, ci, w32_id]
          · simp (disch := omega) only [x_1, x_7_1_I, x_7_1_A, x_7_1_U, x_7_2_I, x_7_2_A, x_7_2_U, x_61, x_4_2, x_6_0, x_34, x_38_187, x_65, x_4_1, x_69, x_79_3_12_d0, x_79_3_12_d1, x_79_3_12_d2, x_79_3_12_d3, x_79_3_12_d4, x_64, x_60, x_10_2_I, x_10_2_A, x_10_2_U, x_85, cb_ri, cb_rl, cb_rv, cb_th, cb_ite, ps_s, ps_n, u_299_0, u_299_29, u_299_33, u_299_34, u_299_41, n3, i4, boI, c2, decide_false, Bool.or_false, Int.reduceEq, Int.reduceLT, Int.reduceLE, reduceIte, Int.reduceAdd, Int.reduceSub, Int.reduceMul, Int.reduceNeg, Int.reduceToNat, Bool.false_eq_true, eq_self, if_pos, if_neg, ci, w32_id]
      · have b1 := boI_01 (anyB (fun x => decide (50 ≤ m (14 + 6 * x + 4))) H)
        show run _ _ _ _ _ _ = _
        rw [hd_299_4]
        simp (disch := first | omega | exact b1) only [x_1, x_7_1_I, x_7_1_A, x_7_1_U, x_7_2_I, x_7_2_A, x_7_2_U, x_61, x_4_2, x_6_0, x_34, x_38_187, x_65, x_4_1, x_69, x_79_3_12_d0, x_79_3_12_d1, x_79_3_12_d2, x_79_3_12_d3, x_79_3_12_d4, x_64, x_60, x_10_2_I, x_10_2_A, x_10_2_U, x_85, cb_ri, cb_rl, cb_rv, cb_th, cb_ite, ps_s, ps_n, u_299_0, u_299_29, u_299_33, u_299_34, u_299_41, n3, Int.reduceEq, Int.reduceLT, Int.reduceLE, reduceIte, Int.reduceAdd, Int.reduceSub, Int.reduceMul, Int.reduceNeg, Int.reduceToNat, Bool.false_eq_true, eq_self, if_pos, if_neg]
        rfl
    have ret : ∀ (k : Nat) (x : Int) (v2 v3 : AV) (q : Hp), q 187 0 = plI (h 187 0) L H N false k → (∀ tt k j, ¬ tuFr tt k → q tt k j = g1 tt k j) → ∃ h', run (lr + 79) 300 45 [aA 12 0, aI x, v2, v3] [] q = ri x h' ∧ Sm rsc g h' := by
      intro k x v2 v3 q i1 i2
      obtain ⟨-, -, -, o4, -⟩ := plI_ok (dr := false) r2 r3 r4 k
      obtain ⟨g3, c1, c2, c3⟩ := comesBack_m (lr + 78) (h 187 0) q (fun j hj => by rw [i2 _ _ _ (by unfold tuFr wiFr loFr mbFr maFr woFr crFr; omega), a2 j hj, r1]) (fun j hj => by rw [i1]; exact o4 j hj)
      refine ⟨g3, ?_, Sm_t (rsc_186 g 0) (fun tt k j hf => ?_)⟩
      · simp (disch := omega) only [x_6_0, x_1, x_36, x_79_1_12_d0, x_79_1_12_d1, x_79_1_12_d2, x_79_1_12_d3, x_79_1_12_d4, x_7_1_I, x_7_1_A, x_7_1_U, x_7_2_I, x_7_2_A, x_7_2_U, x_61, x_4_2, x_66, x_4_1, x_63, x_68, x_79_2_12_d0, x_79_2_12_d1, x_79_2_12_d2, x_79_2_12_d3, x_79_2_12_d4, x_7_3_I, x_7_3_A, x_7_3_U, x_10_2_I, x_10_2_A, x_10_2_U, x_60, x_82, cb_ri, cb_rl, cb_rv, cb_th, cb_ite, ps_s, ps_n, u_300_0, u_300_33, u_300_45, c1]
      · by_cases e : tt = 187 ∧ k = 0
        · rw [e.1, e.2, c2, r1]
        · rw [c3 tt k j e, rsc_tu i2 tt k j hf e, a3 tt k j (by unfold rsc at hf; omega)]
    have key : ∀ (d k : Nat) (q : Hp) (v3 : AV), k + d = 61 → q 187 0 = plI (h 187 0) L H N false k → (∀ tt k j, ¬ tuFr tt k → q tt k j = g1 tt k j) → (∀ j, j < k → tiB (plI (h 187 0) L H N false j) H = false) → ∃ h', run (lr + 79) 300 13 [aA 12 0, aI (-1), aI (k : Int), v3] [] q = ri (ffst (fun k => tiB (plI (h 187 0) L H N false k) H) (fun k => (k : Int)) (-1) 61 0) h' ∧ Sm rsc g h' := by
      intro d
      induction d with
      | zero =>
        intro k q v3 hk i1 i2 hj
        have : k = 61 := by omega
        subst this
        obtain ⟨h', f1, f2⟩ := ret 61 (-1) (aI ((61 : Nat) : Int)) v3 q i1 i2
        refine ⟨h', ?_, f2⟩
        rw [ffst_no hj, ← f1, hd_300_13]
        simp (disch := omega) only [x_6_0, x_1, x_36, x_79_1_12_d0, x_79_1_12_d1, x_79_1_12_d2, x_79_1_12_d3, x_79_1_12_d4, x_7_1_I, x_7_1_A, x_7_1_U, x_7_2_I, x_7_2_A, x_7_2_U, x_61, x_4_2, x_66, x_4_1, x_63, x_68, x_79_2_12_d0, x_79_2_12_d1, x_79_2_12_d2, x_79_2_12_d3, x_79_2_12_d4, x_7_3_I, x_7_3_A, x_7_3_U, x_10_2_I, x_10_2_A, x_10_2_U, x_60, x_82, cb_ri, cb_rl, cb_rv, cb_th, cb_ite, ps_s, ps_n, u_300_0, u_300_33, Int.reduceEq, Int.reduceLT, Int.reduceLE, reduceIte, Int.reduceAdd, Int.reduceSub, Int.reduceMul, Int.reduceNeg, Int.reduceToNat, Bool.false_eq_true, eq_self, if_pos, if_neg]
      | succ d ih =>
        intro k q v3 hk i1 i2 hj
        obtain ⟨o1, o2, o3, -⟩ := plI_ok (dr := false) r2 r3 r4 k
        obtain ⟨q', t1, t2, t3⟩ := turns_m (lr + 41) H N false q L (by rw [i1]; exact o3) (by rw [i1]; exact o1) (by rw [i1]; exact o2) r5 r6 (by rw [i2 _ _ _ (by unfold tuFr wiFr loFr mbFr maFr woFr crFr; omega), a3 _ _ _ (by omega)]; exact r7)
        rw [i1] at t1 t2
        have t1 : cl (lr + 79) 228 [aA 12 0, aI 0] q = ri ((lfS (plI (h 187 0) L H N false k) L H N : Nat) : Int) q' := t1
        have i2' : ∀ tt k j, ¬ tuFr tt k → q' tt k j = g1 tt k j := fun tt k j hf => by rw [t3 tt k j hf]; exact i2 tt k j hf
        have is := ist q _ i1 o1
        cases c : tiB (plI (h 187 0) L H N false k) H with
        | true =>
          rw [c] at is
          have is : _ = ri 1 q := is
          obtain ⟨h', f1, f2⟩ := ret (k + 1) (k : Int) (aI ((k + 1 : Nat) : Int)) (aI ((lfS (plI (h 187 0) L H N false k) L H N : Nat) : Int)) q' t2 i2'
          refine ⟨h', ?_, f2⟩
          have nk : ¬ (k : Int) = -1 := by omega
          have step : run (lr + 79) 300 13 [aA 12 0, aI (-1), aI (k : Int), v3] [] q = run (lr + 79) 300 13 [aA 12 0, aI (k : Int), aI ((k + 1 : Nat) : Int), aI ((lfS (plI (h 187 0) L H N false k) L H N : Nat) : Int)] [] q' := by
            rw [hd_300_13]
            simp (disch := omega) only [x_6_0, x_1, x_36, x_79_1_12_d0, x_79_1_12_d1, x_79_1_12_d2, x_79_1_12_d3, x_79_1_12_d4, x_7_1_I, x_7_1_A, x_7_1_U, x_7_2_I, x_7_2_A, x_7_2_U, x_61, x_4_2, x_66, x_4_1, x_63, x_68, x_79_2_12_d0, x_79_2_12_d1, x_79_2_12_d2, x_79_2_12_d3, x_79_2_12_d4, x_7_3_I, x_7_3_A, x_7_3_U, x_10_2_I, x_10_2_A, x_10_2_U, x_60, x_82, cb_ri, cb_rl, cb_rv, cb_th, cb_ite, ps_s, ps_n, u_300_0, u_300_33, is, t1, Int.reduceEq, Int.reduceLT, Int.reduceLE, reduceIte, Int.reduceAdd, Int.reduceSub, Int.reduceMul, Int.reduceNeg, Int.reduceToNat, Bool.false_eq_true, eq_self, if_pos, if_neg, ci, w32_id]
          rw [step, ffst_step hj (by omega) c, ← f1, hd_300_13]
          by_cases c60 : k = 60
          · subst c60
            simp (disch := omega) only [x_6_0, x_1, x_36, x_79_1_12_d0, x_79_1_12_d1, x_79_1_12_d2, x_79_1_12_d3, x_79_1_12_d4, x_7_1_I, x_7_1_A, x_7_1_U, x_7_2_I, x_7_2_A, x_7_2_U, x_61, x_4_2, x_66, x_4_1, x_63, x_68, x_79_2_12_d0, x_79_2_12_d1, x_79_2_12_d2, x_79_2_12_d3, x_79_2_12_d4, x_7_3_I, x_7_3_A, x_7_3_U, x_10_2_I, x_10_2_A, x_10_2_U, x_60, x_82, cb_ri, cb_rl, cb_rv, cb_th, cb_ite, ps_s, ps_n, u_300_0, u_300_33, Int.reduceEq, Int.reduceLT, Int.reduceLE, reduceIte, Int.reduceAdd, Int.reduceSub, Int.reduceMul, Int.reduceNeg, Int.reduceToNat, Bool.false_eq_true, eq_self, if_pos, if_neg]
          · simp (disch := omega) only [x_6_0, x_1, x_36, x_79_1_12_d0, x_79_1_12_d1, x_79_1_12_d2, x_79_1_12_d3, x_79_1_12_d4, x_7_1_I, x_7_1_A, x_7_1_U, x_7_2_I, x_7_2_A, x_7_2_U, x_61, x_4_2, x_66, x_4_1, x_63, x_68, x_79_2_12_d0, x_79_2_12_d1, x_79_2_12_d2, x_79_2_12_d3, x_79_2_12_d4, x_7_3_I, x_7_3_A, x_7_3_U, x_10_2_I, x_10_2_A, x_10_2_U, x_60, x_82, cb_ri, cb_rl, cb_rv, cb_th, cb_ite, ps_s, ps_n, u_300_0, u_300_33, nk, Int.reduceEq, Int.reduceLT, Int.reduceLE, reduceIte, Int.reduceAdd, Int.reduceSub, Int.reduceMul, Int.reduceNeg, Int.reduceToNat, Bool.false_eq_true, eq_self, if_pos, if_neg]
        | false =>
          rw [c] at is
          have is : _ = ri 0 q := is
          obtain ⟨h', f1, f2⟩ := ih (k + 1) q' (aI ((lfS (plI (h 187 0) L H N false k) L H N : Nat) : Int)) (by omega) t2 i2' (fun j hj' => by
            by_cases ej : j = k
            · rw [ej]; exact c
            · exact hj j (by omega))
          refine ⟨h', ?_, f2⟩
          rw [← f1, hd_300_13]
          simp (disch := omega) only [x_6_0, x_1, x_36, x_79_1_12_d0, x_79_1_12_d1, x_79_1_12_d2, x_79_1_12_d3, x_79_1_12_d4, x_7_1_I, x_7_1_A, x_7_1_U, x_7_2_I, x_7_2_A, x_7_2_U, x_61, x_4_2, x_66, x_4_1, x_63, x_68, x_79_2_12_d0, x_79_2_12_d1, x_79_2_12_d2, x_79_2_12_d3, x_79_2_12_d4, x_7_3_I, x_7_3_A, x_7_3_U, x_10_2_I, x_10_2_A, x_10_2_U, x_60, x_82, cb_ri, cb_rl, cb_rv, cb_th, cb_ite, ps_s, ps_n, u_300_0, u_300_33, is, t1, Int.reduceEq, Int.reduceLT, Int.reduceLE, reduceIte, Int.reduceAdd, Int.reduceSub, Int.reduceMul, Int.reduceNeg, Int.reduceToNat, Bool.false_eq_true, eq_self, if_pos, if_neg, ci, w32_id]
    obtain ⟨h', f1, f2⟩ := key 61 0 g1 none (by omega) k7 (fun _ _ _ _ => rfl) (fun j hj => by omega)
    refine ⟨h', ?_, f2⟩
    show cl (lr + 80) _ _ _ = _
    rw [← f1, in_300]
    simp (disch := omega) only [x_6_0, x_1, x_36, x_79_1_12_d0, x_79_1_12_d1, x_79_1_12_d2, x_79_1_12_d3, x_79_1_12_d4, x_7_1_I, x_7_1_A, x_7_1_U, x_7_2_I, x_7_2_A, x_7_2_U, x_61, x_4_2, x_66, x_4_1, x_63, x_68, x_79_2_12_d0, x_79_2_12_d1, x_79_2_12_d2, x_79_2_12_d3, x_79_2_12_d4, x_7_3_I, x_7_3_A, x_7_3_U, x_10_2_I, x_10_2_A, x_10_2_U, x_60, x_82, cb_ri, cb_rl, cb_rv, cb_th, cb_ite, ps_s, ps_n, u_300_0, u_300_33, u_300_45, a1]
    rfl
/-! trials -/
theorem LM_13 {M : Nat → Int} {L : List LN} (v : Int) (h : LM M L) : LM (upM M 13 v) L := LM_up (by omega) (by omega) h
theorem tryTurns_c (lv H N n : Nat) (v : Int) (h h0 : Hp) (I : INV h0 H N) (s : Sm csc h0 h) (L : List LN) (W : LawW h0 0 L) (hL : LM (h0 187 0) L) (hn : n ≤ 60) : ∃ h', cl (lv + 7) 156 [aA 11 0, aI (n : Int), aI v] h = rv h' ∧ DrA h0 h' H N (plI (upM (h0 187 0) 13 v) L H N true n) := by
  have I1 : INV h H N := INV_scr (Sm_w (fun _ _ => scr_c) s) I
  have k7 : h 187 0 = h0 187 0 := Sm_187 s (by unfold csc stTag; omega)
  obtain ⟨h1, e1, D1⟩ := draft_c (lv + 4) H N h I1
  have D2 : DrA h0 (hset h1 147 1 0 v) H N (upM (h0 187 0) 13 v) := ⟨by rw [← k7]; exact RS_x (t := 147) (j := 13) v (by omega) D1.1, Sm_t (Sm_t s D1.2) (fun tt k j hf => hs_o (by unfold csc stTag at hf; omega))⟩
  have main := loop_p (S := Hp) (F := fun k (q : Hp) => run (lv + 6) 156 21 [aA 11 0, aI (n : Int), aI v, aI (k : Int)] [] q)
    (I := fun k q => DrA h0 q H N (plI (upM (h0 187 0) 13 v) L H N true k))
    (Q := fun r => ∃ h', r = rv h' ∧ DrA h0 h' H N (plI (upM (h0 187 0) 13 v) L H N true n)) (N := n) ?_ ?_ _ D2
  · obtain ⟨h', f1, f2⟩ := main
    refine ⟨h', ?_, f2⟩
    rw [← f1, in_156]
    simp (disch := omega) only [x_6_0, x_35_1, x_35_0, x_79_2_7_d0, x_79_2_7_d1, x_79_2_7_d2, x_79_2_7_d3, x_79_2_7_d4, x_4_2, x_36, x_1, x_7_3_I, x_7_3_A, x_7_3_U, x_61, x_4_3, x_4_1, x_65, x_79_3_9_d0, x_79_3_9_d1, x_79_3_9_d2, x_79_3_9_d3, x_79_3_9_d4, x_49, x_10_3_I, x_10_3_A, x_10_3_U, x_60, x_83, cb_ri, cb_rl, cb_rv, cb_th, cb_ite, ps_s, ps_n, u_156_0, u_156_45, e1]
    rfl
  · intro k q hk D
    obtain ⟨q', a, b⟩ := play_d lv H N true h0 q _ L W D (plI_ok (GM_sd I.1.2.1) (GL_up (by omega) (RL_GL I.1.1.2.2.2)) (LM_13 v hL) k).1
    have a : cl (lv + 6) 71 [aA 9 0, aA 7 1, aI 1] q = _ := a
    refine ⟨q', ?_, b⟩
    try simp only
    rw [hd_156_21]
    simp (disch := omega) only [x_6_0, x_35_1, x_35_0, x_79_2_7_d0, x_79_2_7_d1, x_79_2_7_d2, x_79_2_7_d3, x_79_2_7_d4, x_4_2, x_36, x_1, x_7_3_I, x_7_3_A, x_7_3_U, x_61, x_4_3, x_4_1, x_65, x_79_3_9_d0, x_79_3_9_d1, x_79_3_9_d2, x_79_3_9_d3, x_79_3_9_d4, x_49, x_10_3_I, x_10_3_A, x_10_3_U, x_60, x_83, cb_ri, cb_rl, cb_rv, cb_th, cb_ite, ps_s, ps_n, u_156_0, u_156_45, a, Int.reduceEq, Int.reduceLT, Int.reduceLE, reduceIte, Int.reduceAdd, Int.reduceSub, Int.reduceMul, Int.reduceNeg, Int.reduceToNat, Bool.false_eq_true, eq_self, if_pos, if_neg, ci, w32_id]
  · intro q D
    refine ⟨q, ?_, D⟩
    try simp only
    rw [hd_156_21]
    simp (disch := omega) only [x_6_0, x_35_1, x_35_0, x_79_2_7_d0, x_79_2_7_d1, x_79_2_7_d2, x_79_2_7_d3, x_79_2_7_d4, x_4_2, x_36, x_1, x_7_3_I, x_7_3_A, x_7_3_U, x_61, x_4_3, x_4_1, x_65, x_79_3_9_d0, x_79_3_9_d1, x_79_3_9_d2, x_79_3_9_d3, x_79_3_9_d4, x_49, x_10_3_I, x_10_3_A, x_10_3_U, x_60, x_83, cb_ri, cb_rl, cb_rv, cb_th, cb_ite, ps_s, ps_n, u_156_0, u_156_45, Int.reduceEq, Int.reduceLT, Int.reduceLE, reduceIte, Int.reduceAdd, Int.reduceSub, Int.reduceMul, Int.reduceNeg, Int.reduceToNat, Bool.false_eq_true, eq_self, if_pos, if_neg]
theorem ag_trial (lc lr H N : Nat) (p : Int) (b : Bool) (h : Hp) (I : INV h H N) : AGt t0 (fun h => cl (lc + 80) 139 [aA 11 0, aI p, aI (boI b)] h) (fun h => cl (lr + 80) 303 [aA 12 0, aI p, aI (boI b)] h) h := by
  have ct := checkTurns_c (lc + 78) p 60 h
  obtain ⟨L, W, hL, hW, hl⟩ := INV_law I
  by_cases c : 0 ≤ p ∧ p ≤ 60
  · rw [if_pos c] at ct
    obtain ⟨n, rfl⟩ : ∃ n : Nat, p = (n : Int) := ⟨p.toNat, by omega⟩
    refine AGt_q I (v := plI (h 187 0) L H N true n (if b = true then 11 else 9)) ?_ (fun g s J => ?_)
    · have x13 := I.1.1.2.2.1.2.2.2.2.1
      obtain ⟨h1, a1, a2⟩ := tryTurns_c (lc + 72) H N n (h 187 0 13) h h I (Sm_r _ _) L W hL (by omega)
      rw [up_id rfl] at a2
      have c3 := a2.1.2.2.1.2.2.2.2.2 3 (by omega)
      have c1 := a2.1.2.2.1.2.2.2.2.2 1 (by omega)
      refine ⟨h1, ?_, a2.2⟩
      show cl (lc + 80) _ _ _ = _
      rw [in_139]
      cases b with
      | true => simp (disch := omega) only [x_4_1, x_1, x_80_2_d0, x_80_2_d1, x_80_2_d2, x_80_2_d3, x_80_2_d4, x_6_0, x_35_0, x_33, x_79_3_11_d0, x_79_3_11_d1, x_79_3_11_d2, x_79_3_11_d3, x_79_3_11_d4, x_35_1, x_34, x_4_2, x_68, x_60, x_61, x_38_137, x_82, cb_ri, cb_rl, cb_rv, cb_th, cb_ite, ps_s, ps_n, u_139_0, u_139_33, u_139_34, ct, x13, a1, boI, c3, Int.reduceEq, Int.reduceLT, Int.reduceLE, reduceIte, Int.reduceAdd, Int.reduceSub, Int.reduceMul, Int.reduceNeg, Int.reduceToNat, Bool.false_eq_true, eq_self, if_pos, if_neg]
      | false => simp (disch := omega) only [x_4_1, x_1, x_80_2_d0, x_80_2_d1, x_80_2_d2, x_80_2_d3, x_80_2_d4, x_6_0, x_35_0, x_33, x_79_3_11_d0, x_79_3_11_d1, x_79_3_11_d2, x_79_3_11_d3, x_79_3_11_d4, x_35_1, x_34, x_4_2, x_68, x_60, x_61, x_38_137, x_82, cb_ri, cb_rl, cb_rv, cb_th, cb_ite, ps_s, ps_n, u_139_0, u_139_33, u_139_34, ct, x13, a1, boI, c1, Int.reduceEq, Int.reduceLT, Int.reduceLE, reduceIte, Int.reduceAdd, Int.reduceSub, Int.reduceMul, Int.reduceNeg, Int.reduceToNat, Bool.false_eq_true, eq_self, if_pos, if_neg]
    · obtain ⟨g1, g2, g3, b1, b2, b3, b4, b5, b6⟩ := aside_go (lr + 40) H N n true (hset g 186 0 0 0) (h 187 0) L (rdy_of 0 I s J hL hW hl) (by omega)
      have b2 : cl (lr + 79) 230 [aA 12 0, aI (n : Int), aI 1] g1 = _ := b2
      have iw := isIn_c (lr + 78) (n : Int) 0 60 g
      rw [if_pos c] at iw
      have m11 : g2 187 0 11 = plI (h 187 0) L H N true n 11 := by rw [b3]
      have m9 : g2 187 0 9 = plI (h 187 0) L H N true n 9 := by rw [b3]
      refine ⟨g3, ?_, by rw [b6, hs_eq], Sm_t (rsc_186 g 0) b5⟩
      show cl (lr + 80) _ _ _ = _
      rw [in_303]
      cases b with
      | true => simp (disch := omega) only [x_6_0, x_4_1, x_1, x_80_3_d0, x_80_3_d1, x_80_3_d2, x_80_3_d3, x_80_3_d4, x_69, x_60, x_61, x_36, x_33, x_73, x_82, x_79_1_12_d0, x_79_1_12_d1, x_79_1_12_d2, x_79_1_12_d3, x_79_1_12_d4, x_79_3_12_d0, x_79_3_12_d1, x_79_3_12_d2, x_79_3_12_d3, x_79_3_12_d4, x_7_3_I, x_7_3_A, x_7_3_U, x_34, x_4_2, x_68, x_38_187, x_7_4_I, x_7_4_A, x_7_4_U, x_4_4, cb_ri, cb_rl, cb_rv, cb_th, cb_ite, ps_s, ps_n, u_303_0, u_303_15, u_303_16, u_303_28, u_303_52, u_303_54, iw, hs_eq, b1, b2, b4, boI, m11, Int.reduceEq, Int.reduceLT, Int.reduceLE, reduceIte, Int.reduceAdd, Int.reduceSub, Int.reduceMul, Int.reduceNeg, Int.reduceToNat, Bool.false_eq_true, eq_self, if_pos, if_neg]
      | false => simp (disch := omega) only [x_6_0, x_4_1, x_1, x_80_3_d0, x_80_3_d1, x_80_3_d2, x_80_3_d3, x_80_3_d4, x_69, x_60, x_61, x_36, x_33, x_73, x_82, x_79_1_12_d0, x_79_1_12_d1, x_79_1_12_d2, x_79_1_12_d3, x_79_1_12_d4, x_79_3_12_d0, x_79_3_12_d1, x_79_3_12_d2, x_79_3_12_d3, x_79_3_12_d4, x_7_3_I, x_7_3_A, x_7_3_U, x_34, x_4_2, x_68, x_38_187, x_7_4_I, x_7_4_A, x_7_4_U, x_4_4, cb_ri, cb_rl, cb_rv, cb_th, cb_ite, ps_s, ps_n, u_303_0, u_303_15, u_303_16, u_303_28, u_303_52, u_303_54, iw, hs_eq, b1, b2, b4, boI, m9, Int.reduceEq, Int.reduceLT, Int.reduceLE, reduceIte, Int.reduceAdd, Int.reduceSub, Int.reduceMul, Int.reduceNeg, Int.reduceToNat, Bool.false_eq_true, eq_self, if_pos, if_neg]
  · rw [if_neg c] at ct
    refine AGt_e I 0 (by decide) ⟨h, ?_, Sm_r _ _⟩ (fun g s J => ⟨0, hset g 186 0 0 1, ?_, hs_eq _ _ _ _ _, rsc_186 g 1⟩)
    · show cl (lc + 80) _ _ _ = _
      rw [in_139]
      simp (disch := omega) only [x_4_1, x_1, x_80_2_d0, x_80_2_d1, x_80_2_d2, x_80_2_d3, x_80_2_d4, x_6_0, x_35_0, x_33, x_79_3_11_d0, x_79_3_11_d1, x_79_3_11_d2, x_79_3_11_d3, x_79_3_11_d4, x_35_1, x_34, x_4_2, x_68, x_60, x_61, x_38_137, x_82, cb_ri, cb_rl, cb_rv, cb_th, cb_ite, ps_s, ps_n, u_139_0, u_139_33, u_139_34, ct]
    · show cl (lr + 80) _ _ _ = _
      have iw := isIn_c (lr + 78) p 0 60 g
      rw [if_neg c] at iw
      rw [in_303]
      simp (disch := omega) only [x_6_0, x_4_1, x_1, x_80_3_d0, x_80_3_d1, x_80_3_d2, x_80_3_d3, x_80_3_d4, x_69, x_60, x_61, x_36, x_33, x_73, x_82, x_79_1_12_d0, x_79_1_12_d1, x_79_1_12_d2, x_79_1_12_d3, x_79_1_12_d4, x_79_3_12_d0, x_79_3_12_d1, x_79_3_12_d2, x_79_3_12_d3, x_79_3_12_d4, x_7_3_I, x_7_3_A, x_7_3_U, x_34, x_4_2, x_68, x_38_187, x_7_4_I, x_7_4_A, x_7_4_U, x_4_4, cb_ri, cb_rl, cb_rv, cb_th, cb_ite, ps_s, ps_n, u_303_0, u_303_15, u_303_16, u_303_28, u_303_52, u_303_54, iw, hs_eq, Int.reduceEq, Int.reduceLT, Int.reduceLE, reduceIte, Int.reduceAdd, Int.reduceSub, Int.reduceMul, Int.reduceNeg, Int.reduceToNat, Bool.false_eq_true, eq_self, if_pos, if_neg]
def bdV (M : Nat → Int) (L : List LN) (H N n : Nat) (s : Nat) : Int := plI (upM M 13 ((s + 1 : Nat) : Int)) L H N true n 9
def bdL (v : Nat → Int) (k : Nat) : Int := itr (fun s x => min x (v s)) 9999 k
def bdG (v : Nat → Int) (k : Nat) : Int := itr (fun s x => max x (v s)) 0 k
def bdF (b : Bool) (v : Nat → Int) (k : Nat) : Int := itr (fun s x => if x = -1 then v s else if b = true then max x (v s) else min x (v s)) (-1) k
theorem bd_eq {v : Nat → Int} (hv : ∀ s, 0 ≤ v s ∧ v s ≤ 9999) (b : Bool) : ∀ k, 0 ≤ bdF b v (k + 1) ∧ bdF b v (k + 1) = if b = true then bdG v (k + 1) else bdL v (k + 1) := by
  intro k
  induction k with
  | zero =>
    have := hv 0
    have e1 : bdF b v 1 = v 0 := by unfold bdF; simp only [itr]; rw [if_pos trivial]
    have e2 : bdG v 1 = max 0 (v 0) := rfl
    have e3 : bdL v 1 = min 9999 (v 0) := rfl
    rw [e1, e2, e3]
    cases b <;> simp <;> omega
  | succ k ih =>
    have := hv (k + 1)
    have e1 : bdF b v (k + 2) = if bdF b v (k + 1) = -1 then v (k + 1) else if b = true then max (bdF b v (k + 1)) (v (k + 1)) else min (bdF b v (k + 1)) (v (k + 1)) := rfl
    have e2 : bdG v (k + 2) = max (bdG v (k + 1)) (v (k + 1)) := rfl
    have e3 : bdL v (k + 2) = min (bdL v (k + 1)) (v (k + 1)) := rfl
    rw [if_neg (by omega)] at e1
    rw [e1, e2, e3]
    cases b with
    | true => simp only [if_true] at ih ⊢; omega
    | false => simp only [Bool.false_eq_true, if_false] at ih ⊢; omega
theorem ag_bounds (lc lr H N : Nat) (p : Int) (b : Bool) (h : Hp) (I : INV h H N) : AGt t0 (fun h => cl (lc + 80) 140 [aA 11 0, aI p, aI (boI b)] h) (fun h => cl (lr + 80) 304 [aA 12 0, aI p, aI (boI b)] h) h := by
  have ct := checkTurns_c (lc + 78) p 60 h
  obtain ⟨L, W, hL, hW, hl⟩ := INV_law I
  have gl := RL_GL I.1.1.2.2.2
  by_cases c : 0 ≤ p ∧ p ≤ 60
  · rw [if_pos c] at ct
    obtain ⟨n, rfl⟩ : ∃ n : Nat, p = (n : Int) := ⟨p.toNat, by omega⟩
    have pk : ∀ s, GM (plI (upM (h 187 0) 13 ((s + 1 : Nat) : Int)) L H N true n) H N := fun s => (plI_ok (GM_sd I.1.2.1) (GL_up (by omega) gl) (LM_13 _ hL) n).1
    have hv : ∀ s, 0 ≤ bdV (h 187 0) L H N n s ∧ bdV (h 187 0) L H N n s ≤ 9999 := fun s => (pk s).2.2.2.2.2.2 1 (by omega)
    refine AGt_q I (v := bdF b (bdV (h 187 0) L H N n) 6) ?_ (fun g s J => ?_)
    · rw [(bd_eq hv b 5).2]
      have main := loop_p (S := Hp) (F := fun k (q : Hp) => run (lc + 79) 140 16 [aA 11 0, aI (n : Int), aI (boI b), aI (bdL (bdV (h 187 0) L H N n) k), aI (bdG (bdV (h 187 0) L H N n) k), aI ((k + 1 : Nat) : Int)] [] q)
        (I := fun k q => Sm csc h q)
        (Q := fun r => ∃ h', r = ri (if b = true then bdG (bdV (h 187 0) L H N n) 6 else bdL (bdV (h 187 0) L H N n) 6) h' ∧ Sm csc h h') (N := 6) ?_ ?_ h (Sm_r _ _)
      · obtain ⟨h', f1, f2⟩ := main
        refine ⟨h', ?_, f2⟩
        show cl (lc + 80) _ _ _ = _
        rw [← f1, in_140]
        simp (disch := omega) only [x_4_1, x_1, x_80_2_d0, x_80_2_d1, x_80_2_d2, x_80_2_d3, x_80_2_d4, x_7_3_I, x_7_3_A, x_7_3_U, x_7_4_I, x_7_4_A, x_7_4_U, x_7_5_I, x_7_5_A, x_7_5_U, x_61, x_4_5, x_66, x_6_0, x_79_3_11_d0, x_79_3_11_d1, x_79_3_11_d2, x_79_3_11_d3, x_79_3_11_d4, x_4_3, x_35_1, x_34, x_38_137, x_4_4, x_10_5_I, x_10_5_A, x_10_5_U, x_60, x_4_2, x_68, x_82, cb_ri, cb_rl, cb_rv, cb_th, cb_ite, ps_s, ps_n, u_140_0, u_140_66, u_140_75, u_140_76, ct]
        rfl
      · intro k q hk sq
        obtain ⟨q1, a1, a2⟩ := tryTurns_c (lc + 72) H N n ((k + 1 : Nat) : Int) q h I sq L W hL (by omega)
        have c1 : q1 137 1 1 = bdV (h 187 0) L H N n k := a2.1.2.2.1.2.2.2.2.2 1 (by omega)
        refine ⟨q1, ?_, a2.2⟩
        show run _ _ _ _ _ _ = run _ _ _ [_, _, _, aI (min (bdL (bdV (h 187 0) L H N n) k) (bdV (h 187 0) L H N n k)), aI (max (bdG (bdV (h 187 0) L H N n) k) (bdV (h 187 0) L H N n k)), _] _ _
        rw [hd_140_16]
        simp (disch := omega) only [x_4_1, x_1, x_80_2_d0, x_80_2_d1, x_80_2_d2, x_80_2_d3, x_80_2_d4, x_7_3_I, x_7_3_A, x_7_3_U, x_7_4_I, x_7_4_A, x_7_4_U, x_7_5_I, x_7_5_A, x_7_5_U, x_61, x_4_5, x_66, x_6_0, x_79_3_11_d0, x_79_3_11_d1, x_79_3_11_d2, x_79_3_11_d3, x_79_3_11_d4, x_4_3, x_35_1, x_34, x_38_137, x_4_4, x_10_5_I, x_10_5_A, x_10_5_U, x_60, x_4_2, x_68, x_82, cb_ri, cb_rl, cb_rv, cb_th, cb_ite, ps_s, ps_n, u_140_0, u_140_66, u_140_75, u_140_76, a1, c1, min_c, max_c, Int.reduceEq, Int.reduceLT, Int.reduceLE, reduceIte, Int.reduceAdd, Int.reduceSub, Int.reduceMul, Int.reduceNeg, Int.reduceToNat, Bool.false_eq_true, eq_self, if_pos, if_neg, ci, w32_id]
      · intro q sq
        refine ⟨q, ?_, sq⟩
        try simp only
        rw [hd_140_16]
        cases b with
        | true => simp (disch := omega) only [x_4_1, x_1, x_80_2_d0, x_80_2_d1, x_80_2_d2, x_80_2_d3, x_80_2_d4, x_7_3_I, x_7_3_A, x_7_3_U, x_7_4_I, x_7_4_A, x_7_4_U, x_7_5_I, x_7_5_A, x_7_5_U, x_61, x_4_5, x_66, x_6_0, x_79_3_11_d0, x_79_3_11_d1, x_79_3_11_d2, x_79_3_11_d3, x_79_3_11_d4, x_4_3, x_35_1, x_34, x_38_137, x_4_4, x_10_5_I, x_10_5_A, x_10_5_U, x_60, x_4_2, x_68, x_82, cb_ri, cb_rl, cb_rv, cb_th, cb_ite, ps_s, ps_n, u_140_0, u_140_66, u_140_75, u_140_76, boI, Int.reduceEq, Int.reduceLT, Int.reduceLE, reduceIte, Int.reduceAdd, Int.reduceSub, Int.reduceMul, Int.reduceNeg, Int.reduceToNat, Bool.false_eq_true, eq_self, if_pos, if_neg]
        | false => simp (disch := omega) only [x_4_1, x_1, x_80_2_d0, x_80_2_d1, x_80_2_d2, x_80_2_d3, x_80_2_d4, x_7_3_I, x_7_3_A, x_7_3_U, x_7_4_I, x_7_4_A, x_7_4_U, x_7_5_I, x_7_5_A, x_7_5_U, x_61, x_4_5, x_66, x_6_0, x_79_3_11_d0, x_79_3_11_d1, x_79_3_11_d2, x_79_3_11_d3, x_79_3_11_d4, x_4_3, x_35_1, x_34, x_38_137, x_4_4, x_10_5_I, x_10_5_A, x_10_5_U, x_60, x_4_2, x_68, x_82, cb_ri, cb_rl, cb_rv, cb_th, cb_ite, ps_s, ps_n, u_140_0, u_140_66, u_140_75, u_140_76, boI, Int.reduceEq, Int.reduceLT, Int.reduceLE, reduceIte, Int.reduceAdd, Int.reduceSub, Int.reduceMul, Int.reduceNeg, Int.reduceToNat, Bool.false_eq_true, eq_self, if_pos, if_neg]
    · obtain ⟨r1, r2, r3, r4, r5, r6, r7⟩ := rdy_of 0 I s J hL hW hl
      obtain ⟨g1, a1, a2, a3⟩ := putsAside_m (lr + 78) (hset g 186 0 0 0)
      have k7 : g1 187 0 = h 187 0 := by rw [← r1]; funext j; exact a3 _ _ _ (by omega)
      have iw := isIn_c (lr + 78) (n : Int) 0 60 g
      rw [if_pos c] at iw
      have main := loop_p (S := (AV × AV) × Hp) (F := fun k (q : (AV × AV) × Hp) => run (lr + 79) 304 37 [aA 12 0, aI (n : Int), aI (boI b), aI (bdF b (bdV (h 187 0) L H N n) k), aI ((k + 1 : Nat) : Int), q.1.1, q.1.2] [] q.2)
        (I := fun k q => q.2 187 0 = h 187 0 ∧ ∀ tt k j, ¬ tuFr tt k → q.2 tt k j = g1 tt k j)
        (Q := fun r => ∃ h', r = ri (bdF b (bdV (h 187 0) L H N n) 6) h' ∧ h' 187 0 = h 187 0 ∧ ∀ tt k j, ¬ tuFr tt k → h' tt k j = g1 tt k j) (N := 6) ?_ ?_ ((none, none), g1) ⟨k7, fun _ _ _ _ => rfl⟩
      · obtain ⟨h', f1, f2, f3⟩ := main
        refine ⟨h', ?_, by rw [f3 _ _ _ (by unfold tuFr wiFr loFr mbFr maFr woFr crFr; omega), a3 _ _ _ (by omega), hs_eq], Sm_t (rsc_186 g 0) (fun tt k j hf => ?_)⟩
        · show cl (lr + 80) _ _ _ = _
          rw [← f1, in_304]
          simp (disch := omega) only [x_6_0, x_4_1, x_1, x_80_3_d0, x_80_3_d1, x_80_3_d2, x_80_3_d3, x_80_3_d4, x_69, x_60, x_61, x_36, x_33, x_73, x_82, x_79_1_12_d0, x_79_1_12_d1, x_79_1_12_d2, x_79_1_12_d3, x_79_1_12_d4, x_7_3_I, x_7_3_A, x_7_3_U, x_7_4_I, x_7_4_A, x_7_4_U, x_4_4, x_66, x_34, x_39_187, x_79_3_12_d0, x_79_3_12_d1, x_79_3_12_d2, x_79_3_12_d3, x_79_3_12_d4, x_7_5_I, x_7_5_A, x_7_5_U, x_38_187, x_7_6_I, x_7_6_A, x_7_6_U, x_4_3, x_63, x_4_6, x_4_2, x_68, x_80_2_d0, x_80_2_d1, x_80_2_d2, x_80_2_d3, x_80_2_d4, x_10_4_I, x_10_4_A, x_10_4_U, cb_ri, cb_rl, cb_rv, cb_th, cb_ite, ps_s, ps_n, u_304_0, u_304_15, u_304_16, u_304_28, u_304_84, u_304_97, u_304_103, u_304_110, iw, hs_eq, a1, Int.reduceEq, Int.reduceLT, Int.reduceLE, reduceIte, Int.reduceAdd, Int.reduceSub, Int.reduceMul, Int.reduceNeg, Int.reduceToNat, Bool.false_eq_true, eq_self, if_pos, if_neg]
          rfl
        · by_cases e : tt = 187 ∧ k = 0
          · rw [e.1, e.2, f2, r1]
          · rw [rsc_tu f3 tt k j hf e, a3 tt k j (by unfold rsc at hf; omega)]
      · rintro k ⟨⟨v5, v6⟩, q⟩ hk ⟨i1, i2⟩
        simp only at i1 i2 ⊢
        have q7 : hset q 187 0 13 ((k + 1 : Nat) : Int) 187 0 = upM (h 187 0) 13 ((k + 1 : Nat) : Int) := by rw [hs_187, i1]
        obtain ⟨q1, b1, b2, b3⟩ := goes_m (lr + 40) H N n true (hset q 187 0 13 ((k + 1 : Nat) : Int)) L (by rw [q7]; exact LM_13 _ hL) (by rw [q7]; exact GM_sd I.1.2.1) (by rw [q7]; exact GL_up (by omega) gl) hW hl (by rw [hs_t (by omega), i2 _ _ _ (by unfold tuFr wiFr loFr mbFr maFr woFr crFr; omega), a3 _ _ _ (by omega)]; exact r7) (by omega)
        rw [q7] at b1 b2
        have b1 : cl (lr + 79) 230 [aA 12 0, aI (n : Int), aI 1] (hset q 187 0 13 ((k + 1 : Nat) : Int)) = _ := b1
        have m9 : q1 187 0 9 = bdV (h 187 0) L H N n k := by rw [b2]; rfl
        have q1f : ∀ tt k j, ¬ tuFr tt k → q1 tt k j = g1 tt k j := fun tt k' j hf => by rw [b3 tt k' j hf, hs_o (fun z => hf (Or.inr ⟨z.1, z.2.1⟩))]; exact i2 tt k' j hf
        obtain ⟨-, -, -, o4, -⟩ := plI_ok (L := L) (dr := true) (GM_sd (v := ((k + 1 : Nat) : Int)) I.1.2.1) (GL_up (by omega) gl) (LM_13 _ hL) n
        obtain ⟨q2, c1, c2, c3⟩ := comesBack_m (lr + 78) (h 187 0) q1 (fun j hj => by rw [q1f _ _ _ (by unfold tuFr wiFr loFr mbFr maFr woFr crFr; omega), a2 j hj, r1]) (fun j hj => by rw [b2, o4 j hj, up_ne (by omega)])
        have hk := hv k
        refine ⟨((aI ((goS (upM (h 187 0) 13 ((k + 1 : Nat) : Int)) L H N true n : Nat) : Int), aI (bdV (h 187 0) L H N n k)), q2), ?_, c2, fun tt k' j hf => by simp only; rw [c3 tt k' j (fun z => hf (Or.inr z))]; exact q1f tt k' j hf⟩
        show run _ _ _ _ _ _ = run _ _ _ [_, _, _, aI (if bdF b (bdV (h 187 0) L H N n) k = -1 then bdV (h 187 0) L H N n k else if b = true then max (bdF b (bdV (h 187 0) L H N n) k) (bdV (h 187 0) L H N n k) else min (bdF b (bdV (h 187 0) L H N n) k) (bdV (h 187 0) L H N n k)), _, _, _] _ _
        rw [hd_304_37]
        by_cases d : bdF b (bdV (h 187 0) L H N n) k = -1
        · simp (disch := omega) only [x_6_0, x_4_1, x_1, x_80_3_d0, x_80_3_d1, x_80_3_d2, x_80_3_d3, x_80_3_d4, x_69, x_60, x_61, x_36, x_33, x_73, x_82, x_79_1_12_d0, x_79_1_12_d1, x_79_1_12_d2, x_79_1_12_d3, x_79_1_12_d4, x_7_3_I, x_7_3_A, x_7_3_U, x_7_4_I, x_7_4_A, x_7_4_U, x_4_4, x_66, x_34, x_39_187, x_79_3_12_d0, x_79_3_12_d1, x_79_3_12_d2, x_79_3_12_d3, x_79_3_12_d4, x_7_5_I, x_7_5_A, x_7_5_U, x_38_187, x_7_6_I, x_7_6_A, x_7_6_U, x_4_3, x_63, x_4_6, x_4_2, x_68, x_80_2_d0, x_80_2_d1, x_80_2_d2, x_80_2_d3, x_80_2_d4, x_10_4_I, x_10_4_A, x_10_4_U, cb_ri, cb_rl, cb_rv, cb_th, cb_ite, ps_s, ps_n, u_304_0, u_304_15, u_304_16, u_304_28, u_304_84, u_304_97, u_304_103, u_304_110, b1, m9, c1, d, Int.reduceEq, Int.reduceLT, Int.reduceLE, reduceIte, Int.reduceAdd, Int.reduceSub, Int.reduceMul, Int.reduceNeg, Int.reduceToNat, Bool.false_eq_true, eq_self, if_pos, if_neg, ci, w32_id]
        · cases b with
          | true => simp (disch := omega) only [x_6_0, x_4_1, x_1, x_80_3_d0, x_80_3_d1, x_80_3_d2, x_80_3_d3, x_80_3_d4, x_69, x_60, x_61, x_36, x_33, x_73, x_82, x_79_1_12_d0, x_79_1_12_d1, x_79_1_12_d2, x_79_1_12_d3, x_79_1_12_d4, x_7_3_I, x_7_3_A, x_7_3_U, x_7_4_I, x_7_4_A, x_7_4_U, x_4_4, x_66, x_34, x_39_187, x_79_3_12_d0, x_79_3_12_d1, x_79_3_12_d2, x_79_3_12_d3, x_79_3_12_d4, x_7_5_I, x_7_5_A, x_7_5_U, x_38_187, x_7_6_I, x_7_6_A, x_7_6_U, x_4_3, x_63, x_4_6, x_4_2, x_68, x_80_2_d0, x_80_2_d1, x_80_2_d2, x_80_2_d3, x_80_2_d4, x_10_4_I, x_10_4_A, x_10_4_U, cb_ri, cb_rl, cb_rv, cb_th, cb_ite, ps_s, ps_n, u_304_0, u_304_15, u_304_16, u_304_28, u_304_84, u_304_97, u_304_103, u_304_110, b1, m9, c1, d, boI, greater_c, Int.reduceEq, Int.reduceLT, Int.reduceLE, reduceIte, Int.reduceAdd, Int.reduceSub, Int.reduceMul, Int.reduceNeg, Int.reduceToNat, Bool.false_eq_true, eq_self, if_pos, if_neg, ci, w32_id]
          | false => simp (disch := omega) only [x_6_0, x_4_1, x_1, x_80_3_d0, x_80_3_d1, x_80_3_d2, x_80_3_d3, x_80_3_d4, x_69, x_60, x_61, x_36, x_33, x_73, x_82, x_79_1_12_d0, x_79_1_12_d1, x_79_1_12_d2, x_79_1_12_d3, x_79_1_12_d4, x_7_3_I, x_7_3_A, x_7_3_U, x_7_4_I, x_7_4_A, x_7_4_U, x_4_4, x_66, x_34, x_39_187, x_79_3_12_d0, x_79_3_12_d1, x_79_3_12_d2, x_79_3_12_d3, x_79_3_12_d4, x_7_5_I, x_7_5_A, x_7_5_U, x_38_187, x_7_6_I, x_7_6_A, x_7_6_U, x_4_3, x_63, x_4_6, x_4_2, x_68, x_80_2_d0, x_80_2_d1, x_80_2_d2, x_80_2_d3, x_80_2_d4, x_10_4_I, x_10_4_A, x_10_4_U, cb_ri, cb_rl, cb_rv, cb_th, cb_ite, ps_s, ps_n, u_304_0, u_304_15, u_304_16, u_304_28, u_304_84, u_304_97, u_304_103, u_304_110, b1, m9, c1, d, boI, lesser_c, Int.reduceEq, Int.reduceLT, Int.reduceLE, reduceIte, Int.reduceAdd, Int.reduceSub, Int.reduceMul, Int.reduceNeg, Int.reduceToNat, Bool.false_eq_true, eq_self, if_pos, if_neg, ci, w32_id]
      · rintro ⟨⟨v5, v6⟩, q⟩ ⟨i1, i2⟩
        simp only at i1 i2 ⊢
        refine ⟨q, ?_, i1, i2⟩
        rw [hd_304_37]
        simp (disch := omega) only [x_6_0, x_4_1, x_1, x_80_3_d0, x_80_3_d1, x_80_3_d2, x_80_3_d3, x_80_3_d4, x_69, x_60, x_61, x_36, x_33, x_73, x_82, x_79_1_12_d0, x_79_1_12_d1, x_79_1_12_d2, x_79_1_12_d3, x_79_1_12_d4, x_7_3_I, x_7_3_A, x_7_3_U, x_7_4_I, x_7_4_A, x_7_4_U, x_4_4, x_66, x_34, x_39_187, x_79_3_12_d0, x_79_3_12_d1, x_79_3_12_d2, x_79_3_12_d3, x_79_3_12_d4, x_7_5_I, x_7_5_A, x_7_5_U, x_38_187, x_7_6_I, x_7_6_A, x_7_6_U, x_4_3, x_63, x_4_6, x_4_2, x_68, x_80_2_d0, x_80_2_d1, x_80_2_d2, x_80_2_d3, x_80_2_d4, x_10_4_I, x_10_4_A, x_10_4_U, cb_ri, cb_rl, cb_rv, cb_th, cb_ite, ps_s, ps_n, u_304_0, u_304_15, u_304_16, u_304_28, u_304_84, u_304_97, u_304_103, u_304_110, Int.reduceEq, Int.reduceLT, Int.reduceLE, reduceIte, Int.reduceAdd, Int.reduceSub, Int.reduceMul, Int.reduceNeg, Int.reduceToNat, Bool.false_eq_true, eq_self, if_pos, if_neg]
  · rw [if_neg c] at ct
    refine AGt_e I 0 (by decide) ⟨h, ?_, Sm_r _ _⟩ (fun g s J => ⟨0, hset g 186 0 0 1, ?_, hs_eq _ _ _ _ _, rsc_186 g 1⟩)
    · show cl (lc + 80) _ _ _ = _
      rw [in_140]
      simp (disch := omega) only [x_4_1, x_1, x_80_2_d0, x_80_2_d1, x_80_2_d2, x_80_2_d3, x_80_2_d4, x_7_3_I, x_7_3_A, x_7_3_U, x_7_4_I, x_7_4_A, x_7_4_U, x_7_5_I, x_7_5_A, x_7_5_U, x_61, x_4_5, x_66, x_6_0, x_79_3_11_d0, x_79_3_11_d1, x_79_3_11_d2, x_79_3_11_d3, x_79_3_11_d4, x_4_3, x_35_1, x_34, x_38_137, x_4_4, x_10_5_I, x_10_5_A, x_10_5_U, x_60, x_4_2, x_68, x_82, cb_ri, cb_rl, cb_rv, cb_th, cb_ite, ps_s, ps_n, u_140_0, u_140_66, u_140_75, u_140_76, ct]
    · show cl (lr + 80) _ _ _ = _
      have iw := isIn_c (lr + 78) p 0 60 g
      rw [if_neg c] at iw
      rw [in_304]
      simp (disch := omega) only [x_6_0, x_4_1, x_1, x_80_3_d0, x_80_3_d1, x_80_3_d2, x_80_3_d3, x_80_3_d4, x_69, x_60, x_61, x_36, x_33, x_73, x_82, x_79_1_12_d0, x_79_1_12_d1, x_79_1_12_d2, x_79_1_12_d3, x_79_1_12_d4, x_7_3_I, x_7_3_A, x_7_3_U, x_7_4_I, x_7_4_A, x_7_4_U, x_4_4, x_66, x_34, x_39_187, x_79_3_12_d0, x_79_3_12_d1, x_79_3_12_d2, x_79_3_12_d3, x_79_3_12_d4, x_7_5_I, x_7_5_A, x_7_5_U, x_38_187, x_7_6_I, x_7_6_A, x_7_6_U, x_4_3, x_63, x_4_6, x_4_2, x_68, x_80_2_d0, x_80_2_d1, x_80_2_d2, x_80_2_d3, x_80_2_d4, x_10_4_I, x_10_4_A, x_10_4_U, cb_ri, cb_rl, cb_rv, cb_th, cb_ite, ps_s, ps_n, u_304_0, u_304_15, u_304_16, u_304_28, u_304_84, u_304_97, u_304_103, u_304_110, iw, hs_eq, Int.reduceEq, Int.reduceLT, Int.reduceLE, reduceIte, Int.reduceAdd, Int.reduceSub, Int.reduceMul, Int.reduceNeg, Int.reduceToNat, Bool.false_eq_true, eq_self, if_pos, if_neg]
