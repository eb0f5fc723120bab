/-! LOOKS AHEAD: odds, tiredness, trials. -/
def hdS (M : Nat → Int) (L : List LN) (H N : Nat) (k : Nat) : Int := sumI (fun i => ((cnt (atB (plI M L H N false i) (plI M L H N false i 5)) N : Nat) : Int) - ((lfS (plI M L H N false i) L H N : Nat) : Int)) k
theorem hdS_b (M : Nat → Int) (L : List LN) (H : Nat) {N : Nat} (hN : N ≤ 14) : ∀ k, 0 ≤ hdS M L H N k ∧ hdS M L H N k ≤ 14 * (k : Int) := by
  intro k
  induction k with
  | zero => exact ⟨Int.le_refl _, Int.le_refl _⟩
  | succ k ih =>
    have l1 := cnt_le (atB (plI M L H N false k) (plI M L H N false k 5)) N
    have l2 : lfS (plI M L H N false k) L H N ≤ cnt (atB (plI M L H N false k) (plI M L H N false k 5)) N := cnt_mono (fun i _ hp => by unfold lfP at hp; rw [Bool.and_eq_true] at hp; exact hp.1)
    have e : hdS M L H N (k + 1) = hdS M L H N k + (((cnt (atB (plI M L H N false k) (plI M L H N false k 5)) N : Nat) : Int) - ((lfS (plI M L H N false k) L H N : Nat) : Int)) := rfl
    omega
theorem heldAhead_c (lv H N n : Nat) (h : Hp) (I : INV h H N) (L : List LN) (W : LawW h 0 L) (hL : LM (h 187 0) L) (hn : n ≤ 12) : ∃ h', cl (lv + 7) 155 [aA 11 0, aI (n : Int)] h = ri (hdS (h 187 0) L H N n) h' ∧ Sm csc h h' := by
  have hN := I.1.2.1.2.1.2.1
  obtain ⟨h1, e1, D1⟩ := draft_c (lv + 4) H N h I
  have hb := hdS_b (h 187 0) L H hN
  have main := loop_p (S := AV × Hp) (F := fun k (q : AV × Hp) => run (lv + 6) 155 15 [aA 11 0, aI (n : Int), aI (hdS (h 187 0) L H N k), aI (k : Int), q.1] [] q.2)
    (I := fun k q => DrA h q.2 H N (plI (h 187 0) L H N false k))
    (Q := fun r => ∃ h', r = ri (hdS (h 187 0) L H N n) h' ∧ Sm csc h h') (N := n) ?_ ?_ (none, h1) D1
  · obtain ⟨h', f1, f2⟩ := main
    refine ⟨h', ?_, f2⟩
    rw [← f1, in_155]
    simp (disch := omega) only [x_6_0, x_35_1, x_35_0, x_79_2_7_d0, x_79_2_7_d1, x_79_2_7_d2, x_79_2_7_d3, x_79_2_7_d4, x_1, x_7_2_I, x_7_2_A, x_7_2_U, x_7_3_I, x_7_3_A, x_7_3_U, x_61, x_4_3, x_4_1, x_65, x_33, x_80_1_d0, x_80_1_d1, x_80_1_d2, x_80_1_d3, x_80_1_d4, x_7_4_I, x_7_4_A, x_7_4_U, x_4_2, x_4_4, x_79_3_9_d0, x_79_3_9_d1, x_79_3_9_d2, x_79_3_9_d3, x_79_3_9_d4, x_12, x_11, x_10_3_I, x_10_3_A, x_10_3_U, x_60, x_82, cb_ri, cb_rl, cb_rv, cb_th, cb_ite, ps_s, ps_n, u_155_0, u_155_63, e1]
    rfl
  · rintro k ⟨v4, q⟩ hk D
    simp only at D ⊢
    have Gk := (plI_ok (dr := false) I.1.2.1 (RL_GL I.1.1.2.2.2) hL k).1
    obtain ⟨q', a, b⟩ := play_d lv H N false h q _ L W D Gk
    have a : cl (lv + 6) 71 [aA 9 0, aA 7 1, aI 0] q = _ := a
    have x5 := D.1.2.2.1.2.1
    have na := notesAt_c (lv + 4) 1 N (plI (h 187 0) L H N false k) (plI (h 187 0) L H N false k 5) q D.1.2.1
    have bc := bitCount_c (lv + 5) (atB (plI (h 187 0) L H N false k) (plI (h 187 0) L H N false k 5)) N q hN
    have g1 := hb k
    have l1 := cnt_le (atB (plI (h 187 0) L H N false k) (plI (h 187 0) L H N false k 5)) N
    have lb : lfS (plI (h 187 0) L H N false k) L H N ≤ 14 := Nat.le_trans (cnt_le _ _) hN
    refine ⟨(aI ((cnt (atB (plI (h 187 0) L H N false k) (plI (h 187 0) L H N false k 5)) N : Nat) : Int), q'), ?_, b⟩
    show run _ _ _ _ _ _ = run _ _ _ [_, _, aI (hdS (h 187 0) L H N k + (((cnt (atB (plI (h 187 0) L H N false k) (plI (h 187 0) L H N false k 5)) N : Nat) : Int) - ((lfS (plI (h 187 0) L H N false k) L H N : Nat) : Int))), _, _] _ _
    rw [hd_155_15]
    simp (disch := omega) only [x_6_0, x_35_1, x_35_0, x_79_2_7_d0, x_79_2_7_d1, x_79_2_7_d2, x_79_2_7_d3, x_79_2_7_d4, x_1, x_7_2_I, x_7_2_A, x_7_2_U, x_7_3_I, x_7_3_A, x_7_3_U, x_61, x_4_3, x_4_1, x_65, x_33, x_80_1_d0, x_80_1_d1, x_80_1_d2, x_80_1_d3, x_80_1_d4, x_7_4_I, x_7_4_A, x_7_4_U, x_4_2, x_4_4, x_79_3_9_d0, x_79_3_9_d1, x_79_3_9_d2, x_79_3_9_d3, x_79_3_9_d4, x_12, x_11, x_10_3_I, x_10_3_A, x_10_3_U, x_60, x_82, cb_ri, cb_rl, cb_rv, cb_th, cb_ite, ps_s, ps_n, u_155_0, u_155_63, x5, na, bc, a, Int.reduceEq, Int.reduceLT, Int.reduceLE, reduceIte, Int.reduceAdd, Int.reduceSub, Int.reduceMul, Int.reduceNeg, Int.reduceToNat, Bool.false_eq_true, eq_self, if_pos, if_neg, ci, w32_id]
  · rintro ⟨v4, q⟩ D
    refine ⟨q, ?_, D.2⟩
    try simp only
    rw [hd_155_15]
    simp (disch := omega) only [x_6_0, x_35_1, x_35_0, x_79_2_7_d0, x_79_2_7_d1, x_79_2_7_d2, x_79_2_7_d3, x_79_2_7_d4, x_1, x_7_2_I, x_7_2_A, x_7_2_U, x_7_3_I, x_7_3_A, x_7_3_U, x_61, x_4_3, x_4_1, x_65, x_33, x_80_1_d0, x_80_1_d1, x_80_1_d2, x_80_1_d3, x_80_1_d4, x_7_4_I, x_7_4_A, x_7_4_U, x_4_2, x_4_4, x_79_3_9_d0, x_79_3_9_d1, x_79_3_9_d2, x_79_3_9_d3, x_79_3_9_d4, x_12, x_11, x_10_3_I, x_10_3_A, x_10_3_U, x_60, x_82, cb_ri, cb_rl, cb_rv, cb_th, cb_ite, ps_s, ps_n, u_155_0, u_155_63, Int.reduceEq, Int.reduceLT, Int.reduceLE, reduceIte, Int.reduceAdd, Int.reduceSub, Int.reduceMul, Int.reduceNeg, Int.reduceToNat, Bool.false_eq_true, eq_self, if_pos, if_neg]
theorem playedIn_m (lv H N n : Nat) (g : Hp) (M : Nat → Int) (L : List LN) (R : Rdy g M L H N) (hn : n ≤ 12) : ∃ g3, cl (lv + 40) 288 [aA 12 0, aI (n : Int)] g = ri (hdS M L H N n) g3 ∧ Sm rsc g g3 ∧ g3 186 0 0 = g 186 0 0 := by
  obtain ⟨r1, r2, r3, r4, r5, r6, r7⟩ := R
  have hN := r2.2.1.2.1
  have hb := hdS_b M L H hN
  obtain ⟨g1, a1, a2, a3⟩ := putsAside_m (lv + 38) g
  have k7 : g1 187 0 = M := by rw [← r1]; funext j; exact a3 _ _ _ (by omega)
  have main := loop_p (S := Hp) (F := fun k (q : Hp) => run (lv + 39) 288 8 [aA 12 0, aI (n : Int), aI (hdS M L H N k), aI (k : Int)] [] q)
    (I := fun k q => q 187 0 = plI M L H N false k ∧ ∀ tt k j, ¬ tuFr tt k → q tt k j = g1 tt k j)
    (Q := fun r => ∃ g3, r = ri (hdS M L H N n) g3 ∧ Sm rsc g g3 ∧ g3 186 0 0 = g 186 0 0) (N := n) ?_ ?_ g1 ⟨k7, fun _ _ _ _ => rfl⟩
  · obtain ⟨h', f1, f2⟩ := main
    refine ⟨h', ?_, f2⟩
    rw [← f1, in_288]
    simp (disch := omega) only [x_6_0, x_79_1_12_d0, x_79_1_12_d1, x_79_1_12_d2, x_79_1_12_d3, x_79_1_12_d4, x_1, x_7_2_I, x_7_2_A, x_7_2_U, x_7_3_I, x_7_3_A, x_7_3_U, x_61, x_4_3, x_4_1, x_65, x_4_2, x_34, x_38_187, x_79_2_12_d0, x_79_2_12_d1, x_79_2_12_d2, x_79_2_12_d3, x_79_2_12_d4, x_80_1_d0, x_80_1_d1, x_80_1_d2, x_80_1_d3, x_80_1_d4, x_11, x_12, x_10_3_I, x_10_3_A, x_10_3_U, x_60, x_82, cb_ri, cb_rl, cb_rv, cb_th, cb_ite, ps_s, ps_n, u_288_0, u_288_43, a1]
    rfl
  · rintro k q hk ⟨i1, i2⟩
    obtain ⟨o1, o2, o3, -⟩ := plI_ok (dr := false) r2 r3 r4 k
    obtain ⟨q', t1, t2, t3⟩ := turns_m (lv + 1) H N false q L (by rw [i1]; exact o3) (by rw [i1]; exact o1) (by rw [i1]; exact o2) r5 r6 (by rw [i2 _ _ _ (by unfold tuFr wiFr loFr mbFr maFr woFr crFr; omega), a3 _ _ _ (by omega)]; exact r7)
    rw [i1] at t1 t2
    have t1 : cl (lv + 39) 228 [aA 12 0, aI 0] q = ri ((lfS (plI M L H N false k) L H N : Nat) : Int) q' := t1
    have no := notesOf_c (lv + 36) N (plI M L H N false k 5) q (by rw [i1]; exact o1.2.1.1) hN
    rw [i1] at no
    have bc := bits_c (lv + 38) (atB (plI M L H N false k) (plI M L H N false k 5)) N q (by omega)
    have m5 : q 187 0 5 = plI M L H N false k 5 := by rw [i1]
    have g1' := hb k
    have l1 := cnt_le (atB (plI M L H N false k) (plI M L H N false k 5)) N
    have lb : lfS (plI M L H N false k) L H N ≤ 14 := Nat.le_trans (cnt_le _ _) hN
    refine ⟨q', ?_, t2, fun tt k j hf => by rw [t3 tt k j hf]; exact i2 tt k j hf⟩
    show run _ _ _ _ _ _ = run _ _ _ [_, _, aI (hdS M L H N k + (((cnt (atB (plI M L H N false k) (plI M L H N false k 5)) N : Nat) : Int) - ((lfS (plI M L H N false k) L H N : Nat) : Int))), _] _ _
    rw [hd_288_8]
    simp (disch := omega) only [x_6_0, x_79_1_12_d0, x_79_1_12_d1, x_79_1_12_d2, x_79_1_12_d3, x_79_1_12_d4, x_1, x_7_2_I, x_7_2_A, x_7_2_U, x_7_3_I, x_7_3_A, x_7_3_U, x_61, x_4_3, x_4_1, x_65, x_4_2, x_34, x_38_187, x_79_2_12_d0, x_79_2_12_d1, x_79_2_12_d2, x_79_2_12_d3, x_79_2_12_d4, x_80_1_d0, x_80_1_d1, x_80_1_d2, x_80_1_d3, x_80_1_d4, x_11, x_12, x_10_3_I, x_10_3_A, x_10_3_U, x_60, x_82, cb_ri, cb_rl, cb_rv, cb_th, cb_ite, ps_s, ps_n, u_288_0, u_288_43, m5, no, bc, t1, Int.reduceEq, Int.reduceLT, Int.reduceLE, reduceIte, Int.reduceAdd, Int.reduceSub, Int.reduceMul, Int.reduceNeg, Int.reduceToNat, Bool.false_eq_true, eq_self, if_pos, if_neg, ci, w32_id, Int.add_sub_assoc]
  · rintro q ⟨i1, i2⟩
    obtain ⟨-, -, -, o4, -⟩ := plI_ok (dr := false) r2 r3 r4 n
    obtain ⟨g3, c1, c2, c3⟩ := comesBack_m (lv + 38) M q (fun j hj => by rw [i2 _ _ _ (by unfold tuFr wiFr loFr mbFr maFr woFr crFr; omega), a2 j hj, r1]) (fun j hj => by rw [i1]; exact o4 j hj)
    refine ⟨g3, ?_, fun tt k j hf => ?_, ?_⟩
    · try simp only
      rw [hd_288_8]
      simp (disch := omega) only [x_6_0, x_79_1_12_d0, x_79_1_12_d1, x_79_1_12_d2, x_79_1_12_d3, x_79_1_12_d4, x_1, x_7_2_I, x_7_2_A, x_7_2_U, x_7_3_I, x_7_3_A, x_7_3_U, x_61, x_4_3, x_4_1, x_65, x_4_2, x_34, x_38_187, x_79_2_12_d0, x_79_2_12_d1, x_79_2_12_d2, x_79_2_12_d3, x_79_2_12_d4, x_80_1_d0, x_80_1_d1, x_80_1_d2, x_80_1_d3, x_80_1_d4, x_11, x_12, x_10_3_I, x_10_3_A, x_10_3_U, x_60, x_82, cb_ri, cb_rl, cb_rv, cb_th, cb_ite, ps_s, ps_n, u_288_0, u_288_43, c1, Int.reduceEq, Int.reduceLT, Int.reduceLE, reduceIte, Int.reduceAdd, Int.reduceSub, Int.reduceMul, Int.reduceNeg, Int.reduceToNat, Bool.false_eq_true, eq_self, if_pos, if_neg]
    · by_cases e : tt = 187 ∧ k = 0
      · rw [e.1, e.2, c2, r1]
      · rw [c3 tt k j e, rsc_tu i2 tt k j hf e, a3 tt k j (by unfold rsc at hf; omega)]
    · rw [c3 _ _ _ (by omega), i2 _ _ _ (by unfold tuFr wiFr loFr mbFr maFr woFr crFr; omega), a3 _ _ _ (by omega)]
def chF (s : Int) (k : Nat) : Int := itr (fun _ v => idiv (w32 (v * (100 - s))) 100) 10000 k
theorem ag_chance (lc lr H N : Nat) (p : Int) (b : Bool) (h : Hp) (I : INV h H N) : AGt t0 (fun h => cl (lc + 80) 128 [aA 11 0, aI p, aI (boI b)] h) (fun h => cl (lr + 80) 289 [aA 12 0, aI p, aI (boI b)] h) h := by
  have hN := I.1.2.1.2.1.2.1
  have ct := checkTurns_c (lc + 78) p 12 h
  obtain ⟨L, W, hL, hW, hl⟩ := INV_law I
  have g7 := I.1.2.1.2.2.2.2.2.1
  by_cases c : 0 ≤ p ∧ p ≤ 12
  · rw [if_pos c] at ct
    obtain ⟨n, rfl⟩ : ∃ n : Nat, p = (n : Int) := ⟨p.toNat, by omega⟩
    have hb := hdS_b (h 187 0) L H hN n
    obtain ⟨hd, ehd⟩ : ∃ hd : Nat, hdS (h 187 0) L H N n = (hd : Int) := ⟨(hdS (h 187 0) L H N n).toNat, by omega⟩
    refine AGt_q I (v := if b = true then chF (h 187 0 7) hd else (hd : Int)) ?_ (fun g s J => ?_)
    · obtain ⟨h1, a1, a2⟩ := heldAhead_c (lc + 72) H N n h I L W hL (by omega)
      rw [ehd] at a1
      refine ⟨h1, ?_, a2⟩
      show cl (lc + 80) _ _ _ = _
      rw [in_128]
      cases b with
      | false => simp (disch := omega) only [x_4_1, x_1, x_80_2_d0, x_80_2_d1, x_80_2_d2, x_80_2_d3, x_80_2_d4, x_6_0, x_79_2_11_d0, x_79_2_11_d1, x_79_2_11_d2, x_79_2_11_d3, x_79_2_11_d4, x_7_3_I, x_7_3_A, x_7_3_U, x_4_2, x_69, x_4_3, x_82, x_7_4_I, x_7_4_A, x_7_4_U, x_7_5_I, x_7_5_A, x_7_5_U, x_61, x_4_5, x_65, x_4_4, x_35_0, x_33, x_12, x_13, x_14, x_10_5_I, x_10_5_A, x_10_5_U, x_60, cb_ri, cb_rl, cb_rv, cb_th, cb_ite, ps_s, ps_n, u_128_0, u_128_18, u_128_56, ct, a1, boI, Int.reduceEq, Int.reduceLT, Int.reduceLE, reduceIte, Int.reduceAdd, Int.reduceSub, Int.reduceMul, Int.reduceNeg, Int.reduceToNat, Bool.false_eq_true, eq_self, if_pos, if_neg]
      | true =>
        simp (disch := omega) only [x_4_1, x_1, x_80_2_d0, x_80_2_d1, x_80_2_d2, x_80_2_d3, x_80_2_d4, x_6_0, x_79_2_11_d0, x_79_2_11_d1, x_79_2_11_d2, x_79_2_11_d3, x_79_2_11_d4, x_7_3_I, x_7_3_A, x_7_3_U, x_4_2, x_69, x_4_3, x_82, x_7_4_I, x_7_4_A, x_7_4_U, x_7_5_I, x_7_5_A, x_7_5_U, x_61, x_4_5, x_65, x_4_4, x_35_0, x_33, x_12, x_13, x_14, x_10_5_I, x_10_5_A, x_10_5_U, x_60, cb_ri, cb_rl, cb_rv, cb_th, cb_ite, ps_s, ps_n, u_128_0, u_128_18, u_128_56, ct, a1, boI, Int.reduceEq, Int.reduceLT, Int.reduceLE, reduceIte, Int.reduceAdd, Int.reduceSub, Int.reduceMul, Int.reduceNeg, Int.reduceToNat, Bool.false_eq_true, eq_self, if_pos, if_neg]
        have s6 : h1 146 0 0 = h 187 0 7 := by rw [a2 _ _ _ (by unfold csc stTag; omega)]; exact I.1.1.2.2.1.2.2.2.1
        refine loop_up (F := fun k => run (lc + 79) 128 26 [aA 11 0, aI (n : Int), aI 1, aI (hd : Int), aI (chF (h 187 0 7) k), aI (k : Int)] [] h1) (N := hd) ?_ ?_ 0 (by omega)
        · intro k hk
          show run _ _ _ _ _ _ = run _ _ _ [_, _, _, _, aI (idiv (w32 (chF (h 187 0 7) k * (100 - h 187 0 7))) 100), _] _ _
          rw [hd_128_26]
          simp (disch := omega) only [x_4_1, x_1, x_80_2_d0, x_80_2_d1, x_80_2_d2, x_80_2_d3, x_80_2_d4, x_6_0, x_79_2_11_d0, x_79_2_11_d1, x_79_2_11_d2, x_79_2_11_d3, x_79_2_11_d4, x_7_3_I, x_7_3_A, x_7_3_U, x_4_2, x_69, x_4_3, x_82, x_7_4_I, x_7_4_A, x_7_4_U, x_7_5_I, x_7_5_A, x_7_5_U, x_61, x_4_5, x_65, x_4_4, x_35_0, x_33, x_12, x_13, x_14, x_10_5_I, x_10_5_A, x_10_5_U, x_60, cb_ri, cb_rl, cb_rv, cb_th, cb_ite, ps_s, ps_n, u_128_0, u_128_18, u_128_56, s6, Int.reduceEq, Int.reduceLT, Int.reduceLE, reduceIte, Int.reduceAdd, Int.reduceSub, Int.reduceMul, Int.reduceNeg, Int.reduceToNat, Bool.false_eq_true, eq_self, if_pos, if_neg, ci, w32_id]
        · show run _ _ _ _ _ _ = _
          rw [hd_128_26]
          simp (disch := omega) only [x_4_1, x_1, x_80_2_d0, x_80_2_d1, x_80_2_d2, x_80_2_d3, x_80_2_d4, x_6_0, x_79_2_11_d0, x_79_2_11_d1, x_79_2_11_d2, x_79_2_11_d3, x_79_2_11_d4, x_7_3_I, x_7_3_A, x_7_3_U, x_4_2, x_69, x_4_3, x_82, x_7_4_I, x_7_4_A, x_7_4_U, x_7_5_I, x_7_5_A, x_7_5_U, x_61, x_4_5, x_65, x_4_4, x_35_0, x_33, x_12, x_13, x_14, x_10_5_I, x_10_5_A, x_10_5_U, x_60, cb_ri, cb_rl, cb_rv, cb_th, cb_ite, ps_s, ps_n, u_128_0, u_128_18, u_128_56, Int.reduceEq, Int.reduceLT, Int.reduceLE, reduceIte, Int.reduceAdd, Int.reduceSub, Int.reduceMul, Int.reduceNeg, Int.reduceToNat, Bool.false_eq_true, eq_self, if_pos, if_neg]
    · obtain ⟨g3, b1, b2, b3⟩ := playedIn_m (lr + 39) H N n (hset g 186 0 0 0) (h 187 0) L (rdy_of 0 I s J hL hW hl) (by omega)
      rw [ehd] at b1
      rw [hs_eq] at b3
      have iw := isIn_c (lr + 78) (n : Int) 0 12 g
      rw [if_pos c] at iw
      have m7 : g3 187 0 7 = h 187 0 7 := by rw [b2 _ _ _ (by unfold rsc; omega), h186_m, Sm_187 s scr_187]
      refine ⟨g3, ?_, b3, Sm_t (rsc_186 g 0) b2⟩
      show cl (lr + 80) _ _ _ = _
      rw [in_289]
      cases b with
      | false => simp (disch := omega) only [x_6_0, x_4_1, x_1, x_80_3_d0, x_80_3_d1, x_80_3_d2, x_80_3_d3, x_80_3_d4, x_69, x_60, x_61, x_36, x_33, x_73, x_82, x_79_2_12_d0, x_79_2_12_d1, x_79_2_12_d2, x_79_2_12_d3, x_79_2_12_d4, x_7_3_I, x_7_3_A, x_7_3_U, x_4_2, x_4_3, x_7_4_I, x_7_4_A, x_7_4_U, x_7_5_I, x_7_5_A, x_7_5_U, x_4_5, x_65, x_4_4, x_34, x_38_187, x_12, x_13, x_14, x_10_5_I, x_10_5_A, x_10_5_U, cb_ri, cb_rl, cb_rv, cb_th, cb_ite, ps_s, ps_n, u_289_0, u_289_15, u_289_16, u_289_28, u_289_40, u_289_78, iw, hs_eq, b1, boI, Int.reduceEq, Int.reduceLT, Int.reduceLE, reduceIte, Int.reduceAdd, Int.reduceSub, Int.reduceMul, Int.reduceNeg, Int.reduceToNat, Bool.false_eq_true, eq_self, if_pos, if_neg]
      | true =>
        simp (disch := omega) only [x_6_0, x_4_1, x_1, x_80_3_d0, x_80_3_d1, x_80_3_d2, x_80_3_d3, x_80_3_d4, x_69, x_60, x_61, x_36, x_33, x_73, x_82, x_79_2_12_d0, x_79_2_12_d1, x_79_2_12_d2, x_79_2_12_d3, x_79_2_12_d4, x_7_3_I, x_7_3_A, x_7_3_U, x_4_2, x_4_3, x_7_4_I, x_7_4_A, x_7_4_U, x_7_5_I, x_7_5_A, x_7_5_U, x_4_5, x_65, x_4_4, x_34, x_38_187, x_12, x_13, x_14, x_10_5_I, x_10_5_A, x_10_5_U, cb_ri, cb_rl, cb_rv, cb_th, cb_ite, ps_s, ps_n, u_289_0, u_289_15, u_289_16, u_289_28, u_289_40, u_289_78, iw, hs_eq, b1, boI, Int.reduceEq, Int.reduceLT, Int.reduceLE, reduceIte, Int.reduceAdd, Int.reduceSub, Int.reduceMul, Int.reduceNeg, Int.reduceToNat, Bool.false_eq_true, eq_self, if_pos, if_neg]
        refine loop_up (F := fun k => run (lr + 79) 289 48 [aA 12 0, aI (n : Int), aI 1, aI (hd : Int), aI (chF (h 187 0 7) k), aI (k : Int)] [] g3) (N := hd) ?_ ?_ 0 (by omega)
        · intro k hk
          show run _ _ _ _ _ _ = run _ _ _ [_, _, _, _, aI (idiv (w32 (chF (h 187 0 7) k * (100 - h 187 0 7))) 100), _] _ _
          rw [hd_289_48]
          simp (disch := omega) only [x_6_0, x_4_1, x_1, x_80_3_d0, x_80_3_d1, x_80_3_d2, x_80_3_d3, x_80_3_d4, x_69, x_60, x_61, x_36, x_33, x_73, x_82, x_79_2_12_d0, x_79_2_12_d1, x_79_2_12_d2, x_79_2_12_d3, x_79_2_12_d4, x_7_3_I, x_7_3_A, x_7_3_U, x_4_2, x_4_3, x_7_4_I, x_7_4_A, x_7_4_U, x_7_5_I, x_7_5_A, x_7_5_U, x_4_5, x_65, x_4_4, x_34, x_38_187, x_12, x_13, x_14, x_10_5_I, x_10_5_A, x_10_5_U, cb_ri, cb_rl, cb_rv, cb_th, cb_ite, ps_s, ps_n, u_289_0, u_289_15, u_289_16, u_289_28, u_289_40, u_289_78, m7, Int.reduceEq, Int.reduceLT, Int.reduceLE, reduceIte, Int.reduceAdd, Int.reduceSub, Int.reduceMul, Int.reduceNeg, Int.reduceToNat, Bool.false_eq_true, eq_self, if_pos, if_neg, ci, w32_id]
        · show run _ _ _ _ _ _ = _
          rw [hd_289_48]
          simp (disch := omega) only [x_6_0, x_4_1, x_1, x_80_3_d0, x_80_3_d1, x_80_3_d2, x_80_3_d3, x_80_3_d4, x_69, x_60, x_61, x_36, x_33, x_73, x_82, x_79_2_12_d0, x_79_2_12_d1, x_79_2_12_d2, x_79_2_12_d3, x_79_2_12_d4, x_7_3_I, x_7_3_A, x_7_3_U, x_4_2, x_4_3, x_7_4_I, x_7_4_A, x_7_4_U, x_7_5_I, x_7_5_A, x_7_5_U, x_4_5, x_65, x_4_4, x_34, x_38_187, x_12, x_13, x_14, x_10_5_I, x_10_5_A, x_10_5_U, cb_ri, cb_rl, cb_rv, cb_th, cb_ite, ps_s, ps_n, u_289_0, u_289_15, u_289_16, u_289_28, u_289_40, u_289_78, Int.reduceEq, Int.reduceLT, Int.reduceLE, reduceIte, Int.reduceAdd, Int.reduceSub, Int.reduceMul, Int.reduceNeg, Int.reduceToNat, Bool.false_eq_true, eq_self, if_pos, if_neg]
  · rw [if_neg c] at ct
    refine AGt_e I 0 (by decide) ⟨h, ?_, Sm_r _ _⟩ (fun g s J => ⟨0, hset g 186 0 0 1, ?_, hs_eq _ _ _ _ _, rsc_186 g 1⟩)
    · show cl (lc + 80) _ _ _ = _
      rw [in_128]
      simp (disch := omega) only [x_4_1, x_1, x_80_2_d0, x_80_2_d1, x_80_2_d2, x_80_2_d3, x_80_2_d4, x_6_0, x_79_2_11_d0, x_79_2_11_d1, x_79_2_11_d2, x_79_2_11_d3, x_79_2_11_d4, x_7_3_I, x_7_3_A, x_7_3_U, x_4_2, x_69, x_4_3, x_82, x_7_4_I, x_7_4_A, x_7_4_U, x_7_5_I, x_7_5_A, x_7_5_U, x_61, x_4_5, x_65, x_4_4, x_35_0, x_33, x_12, x_13, x_14, x_10_5_I, x_10_5_A, x_10_5_U, x_60, cb_ri, cb_rl, cb_rv, cb_th, cb_ite, ps_s, ps_n, u_128_0, u_128_18, u_128_56, ct]
    · show cl (lr + 80) _ _ _ = _
      have iw := isIn_c (lr + 78) p 0 12 g
      rw [if_neg c] at iw
      rw [in_289]
      simp (disch := omega) only [x_6_0, x_4_1, x_1, x_80_3_d0, x_80_3_d1, x_80_3_d2, x_80_3_d3, x_80_3_d4, x_69, x_60, x_61, x_36, x_33, x_73, x_82, x_79_2_12_d0, x_79_2_12_d1, x_79_2_12_d2, x_79_2_12_d3, x_79_2_12_d4, x_7_3_I, x_7_3_A, x_7_3_U, x_4_2, x_4_3, x_7_4_I, x_7_4_A, x_7_4_U, x_7_5_I, x_7_5_A, x_7_5_U, x_4_5, x_65, x_4_4, x_34, x_38_187, x_12, x_13, x_14, x_10_5_I, x_10_5_A, x_10_5_U, cb_ri, cb_rl, cb_rv, cb_th, cb_ite, ps_s, ps_n, u_289_0, u_289_15, u_289_16, u_289_28, u_289_40, u_289_78, iw, hs_eq, Int.reduceEq, Int.reduceLT, Int.reduceLE, reduceIte, Int.reduceAdd, Int.reduceSub, Int.reduceMul, Int.reduceNeg, Int.reduceToNat, Bool.false_eq_true, eq_self, if_pos, if_neg]
theorem ag_expect (lc lr H N : Nat) (h : Hp) (I : INV h H N) : AGp (fun h => cl (lc + 80) 129 [aA 11 0] h) (fun h => cl (lr + 80) 290 [aA 12 0] h) h := by
  obtain ⟨L, W, hL, hW, hl⟩ := INV_law I
  refine AGp_q I (v := idiv (w32 (hdS (h 187 0) L H N 12 * h 187 0 7)) 100) ?_ (fun g s J => ?_)
  · obtain ⟨h1, a1, a2⟩ := heldAhead_c (lc + 72) H N 12 h I L W hL (by omega)
    have a1 : cl (lc + 79) 155 [aA 11 0, aI 12] h = _ := a1
    have s6 : h1 146 0 0 = h 187 0 7 := by rw [a2 _ _ _ (by unfold csc stTag; omega)]; exact I.1.1.2.2.1.2.2.2.1
    refine ⟨h1, ?_, a2⟩
    show cl (lc + 80) _ _ _ = _
    rw [in_129]
    simp (disch := omega) only [x_6_0, x_1, x_79_2_11_d0, x_79_2_11_d1, x_79_2_11_d2, x_79_2_11_d3, x_79_2_11_d4, x_35_0, x_33, x_13, x_14, x_82, cb_ri, cb_rl, cb_rv, cb_th, cb_ite, ps_s, ps_n, u_129_0, a1, s6]
  · obtain ⟨g3, b1, b2, b3⟩ := playedIn_m (lr + 39) H N 12 (hset g 186 0 0 0) (h 187 0) L (rdy_of 0 I s J hL hW hl) (by omega)
    have b1 : cl (lr + 79) 288 [aA 12 0, aI 12] (hset g 186 0 0 0) = _ := b1
    have m7 : g3 187 0 7 = h 187 0 7 := by rw [b2 _ _ _ (by unfold rsc; omega), h186_m, Sm_187 s scr_187]
    refine ⟨g3, ?_, Sm_t (rsc_186 g 0) b2⟩
    show cl (lr + 80) _ _ _ = _
    rw [in_290]
    simp (disch := omega) only [x_6_0, x_1, x_36, x_79_2_12_d0, x_79_2_12_d1, x_79_2_12_d2, x_79_2_12_d3, x_79_2_12_d4, x_34, x_38_187, x_13, x_14, x_82, cb_ri, cb_rl, cb_rv, cb_th, cb_ite, ps_s, ps_n, u_290_0, b1, m7, Int.reduceEq, Int.reduceLT, Int.reduceLE, reduceIte, Int.reduceAdd, Int.reduceSub, Int.reduceMul, Int.reduceNeg, Int.reduceToNat, Bool.false_eq_true, eq_self, if_pos, if_neg]
/-! a hand ahead -/
theorem aheadD (lv H N n : Nat) (x w : Int) (h : Hp) (I : INV h H N) (L : List LN) (W : LawW h 0 L) (hL : LM (h 187 0) L) (h1 : Hp) (D1 : DrA h h1 H N (h 187 0)) (hn : n ≤ 60) : ∃ h2, run (lv + 6) 138 45 [aA 11 0, aI x, aI (n : Int), aI w, aI 0] [] h1 = run (lv + 6) 138 70 [aA 11 0, aI x, aI (n : Int), aI w, aI (n : Int)] [] h2 ∧ DrA h h2 H N (plI (h 187 0) L H N false n) := by
  refine loop_p (S := Hp) (F := fun k (q : Hp) => run (lv + 6) 138 45 [aA 11 0, aI x, aI (n : Int), aI w, aI (k : Int)] [] q)
    (I := fun k q => DrA h q H N (plI (h 187 0) L H N false k))
    (Q := fun r => ∃ h2, r = run (lv + 6) 138 70 [aA 11 0, aI x, aI (n : Int), aI w, aI (n : Int)] [] h2 ∧ DrA h h2 H N (plI (h 187 0) L H N false n)) (N := n) ?_ ?_ h1 D1
  · intro k q hk D
    obtain ⟨q', a, b⟩ := play_d lv H N false h q _ L W D (plI_ok I.1.2.1 (RL_GL I.1.1.2.2.2) hL k).1
    have a : cl (lv + 6) 71 [aA 9 0, aA 7 1, aI 0] q = _ := a
    refine ⟨q', ?_, b⟩
    try simp only
    rw [hd_138_45]
    simp (disch := omega) only [x_6_0, x_4_1, x_79_2_11_d0, x_79_2_11_d1, x_79_2_11_d2, x_79_2_11_d3, x_79_2_11_d4, x_4_2, x_1, x_80_2_d0, x_80_2_d1, x_80_2_d2, x_80_2_d3, x_80_2_d4, x_4_3, x_70, x_67, x_61, x_84, x_35_1, x_35_0, x_79_2_7_d0, x_79_2_7_d1, x_79_2_7_d2, x_79_2_7_d3, x_79_2_7_d4, x_7_4_I, x_7_4_A, x_7_4_U, x_4_4, x_65, x_79_3_9_d0, x_79_3_9_d1, x_79_3_9_d2, x_79_3_9_d3, x_79_3_9_d4, x_49, x_10_4_I, x_10_4_A, x_10_4_U, x_60, x_69, x_34, x_38_130, x_38_133, x_82, cb_ri, cb_rl, cb_rv, cb_th, cb_ite, ps_s, ps_n, u_138_0, u_138_20, u_138_31, u_138_70, u_138_86, u_138_95, a, Int.reduceEq, Int.reduceLT, Int.reduceLE, reduceIte, Int.reduceAdd, Int.reduceSub, Int.reduceMul, Int.reduceNeg, Int.reduceToNat, Bool.false_eq_true, eq_self, if_pos, if_neg, ci, w32_id]
  · intro q D
    refine ⟨q, ?_, D⟩
    try simp only
    rw [hd_138_45]
    simp (disch := omega) only [x_6_0, x_4_1, x_79_2_11_d0, x_79_2_11_d1, x_79_2_11_d2, x_79_2_11_d3, x_79_2_11_d4, x_4_2, x_1, x_80_2_d0, x_80_2_d1, x_80_2_d2, x_80_2_d3, x_80_2_d4, x_4_3, x_70, x_67, x_61, x_84, x_35_1, x_35_0, x_79_2_7_d0, x_79_2_7_d1, x_79_2_7_d2, x_79_2_7_d3, x_79_2_7_d4, x_7_4_I, x_7_4_A, x_7_4_U, x_4_4, x_65, x_79_3_9_d0, x_79_3_9_d1, x_79_3_9_d2, x_79_3_9_d3, x_79_3_9_d4, x_49, x_10_4_I, x_10_4_A, x_10_4_U, x_60, x_69, x_34, x_38_130, x_38_133, x_82, cb_ri, cb_rl, cb_rv, cb_th, cb_ite, ps_s, ps_n, u_138_0, u_138_20, u_138_31, u_138_86, u_138_95, Int.reduceEq, Int.reduceLT, Int.reduceLE, reduceIte, Int.reduceAdd, Int.reduceSub, Int.reduceMul, Int.reduceNeg, Int.reduceToNat, Bool.false_eq_true, eq_self, if_pos, if_neg]
theorem ag_ahead (lc lr H N : Nat) (p m w : Int) (h : Hp) (I : INV h H N) : AGt t204 (fun h => cl (lc + 80) 138 [aA 11 0, aI p, aI m, aI w] h) (fun h => cl (lr + 80) 302 [aA 12 0, aI p, aI m, aI w] h) h := by
  have hH := I.1.2.1.1.2.1
  have ch := checkHand_c (lc + 78) H p h I.1.1.1.1
  have ct := checkTurns_c (lc + 78) m 60 h
  obtain ⟨L, W, hL, hW, hl⟩ := INV_law I
  by_cases c1 : 0 ≤ p ∧ p < H
  · rw [if_pos c1] at ch
    obtain ⟨x, rfl⟩ : ∃ x : Nat, p = (x : Int) := ⟨p.toNat, by omega⟩
    have ih : ∀ g, INV g H N → cl (lr + 79) 176 [aA 12 0, aI (x : Int)] g = ri 1 g := fun g J => by
      have := inH J (lr + 77) (x : Int)
      rw [if_pos c1] at this; exact this
    by_cases c2 : 0 ≤ m ∧ m ≤ 60
    · rw [if_pos c2] at ct
      obtain ⟨n, rfl⟩ : ∃ n : Nat, m = (n : Int) := ⟨m.toNat, by omega⟩
      have it : ∀ g : Hp, cl (lr + 79) 168 [aI (n : Int), aI 0, aI 60] g = ri 1 g := fun g => by have := isIn_c (lr + 78) (n : Int) 0 60 g; rw [if_pos c2] at this; exact this
      by_cases c3 : 0 ≤ w ∧ w ≤ 1
      · have iw : ∀ g : Hp, cl (lr + 79) 168 [aI w, aI 0, aI 1] g = ri 1 g := fun g => by have := isIn_c (lr + 78) w 0 1 g; rw [if_pos c3] at this; exact this
        refine AGt_q I (v := plI (h 187 0) L H N false n (14 + 6 * x + (if w = 0 then 1 else 4))) ?_ (fun g s J => ?_)
        · obtain ⟨h1, e1, D1⟩ := draft_c (lc + 77) H N h I
          obtain ⟨h2, e2, D2⟩ := aheadD (lc + 73) H N n (x : Int) w h I L W hL h1 D1 (by omega)
          obtain ⟨-, p1, -, -, p4⟩ := D2.1.1.2.2.2 x (by omega)
          refine ⟨h2, ?_, D2.2⟩
          show cl (lc + 80) _ _ _ = _
          rw [in_138]
          simp (disch := omega) only [x_6_0, x_4_1, x_79_2_11_d0, x_79_2_11_d1, x_79_2_11_d2, x_79_2_11_d3, x_79_2_11_d4, x_4_2, x_1, x_80_2_d0, x_80_2_d1, x_80_2_d2, x_80_2_d3, x_80_2_d4, x_4_3, x_70, x_67, x_61, x_84, x_35_1, x_35_0, x_79_2_7_d0, x_79_2_7_d1, x_79_2_7_d2, x_79_2_7_d3, x_79_2_7_d4, x_7_4_I, x_7_4_A, x_7_4_U, x_4_4, x_65, x_79_3_9_d0, x_79_3_9_d1, x_79_3_9_d2, x_79_3_9_d3, x_79_3_9_d4, x_49, x_10_4_I, x_10_4_A, x_10_4_U, x_60, x_69, x_34, x_38_130, x_38_133, x_82, cb_ri, cb_rl, cb_rv, cb_th, cb_ite, ps_s, ps_n, u_138_0, u_138_20, u_138_31, u_138_86, u_138_95, ch, ct, e1, Int.reduceEq, Int.reduceLT, Int.reduceLE, reduceIte, Int.reduceAdd, Int.reduceSub, Int.reduceMul, Int.reduceNeg, Int.reduceToNat, Bool.false_eq_true, eq_self, if_pos, if_neg]
          rw [e2]
          by_cases d : w = 0
          · simp (disch := omega) only [x_6_0, x_4_1, x_79_2_11_d0, x_79_2_11_d1, x_79_2_11_d2, x_79_2_11_d3, x_79_2_11_d4, x_4_2, x_1, x_80_2_d0, x_80_2_d1, x_80_2_d2, x_80_2_d3, x_80_2_d4, x_4_3, x_70, x_67, x_61, x_84, x_35_1, x_35_0, x_79_2_7_d0, x_79_2_7_d1, x_79_2_7_d2, x_79_2_7_d3, x_79_2_7_d4, x_7_4_I, x_7_4_A, x_7_4_U, x_4_4, x_65, x_79_3_9_d0, x_79_3_9_d1, x_79_3_9_d2, x_79_3_9_d3, x_79_3_9_d4, x_49, x_10_4_I, x_10_4_A, x_10_4_U, x_60, x_69, x_34, x_38_130, x_38_133, x_82, cb_ri, cb_rl, cb_rv, cb_th, cb_ite, ps_s, ps_n, u_138_0, u_138_20, u_138_31, u_138_70, u_138_86, u_138_95, d, tn, p1, Int.reduceEq, Int.reduceLT, Int.reduceLE, reduceIte, Int.reduceAdd, Int.reduceSub, Int.reduceMul, Int.reduceNeg, Int.reduceToNat, Bool.false_eq_true, eq_self, if_pos, if_neg]
          · simp (disch := omega) only [x_6_0, x_4_1, x_79_2_11_d0, x_79_2_11_d1, x_79_2_11_d2, x_79_2_11_d3, x_79_2_11_d4, x_4_2, x_1, x_80_2_d0, x_80_2_d1, x_80_2_d2, x_80_2_d3, x_80_2_d4, x_4_3, x_70, x_67, x_61, x_84, x_35_1, x_35_0, x_79_2_7_d0, x_79_2_7_d1, x_79_2_7_d2, x_79_2_7_d3, x_79_2_7_d4, x_7_4_I, x_7_4_A, x_7_4_U, x_4_4, x_65, x_79_3_9_d0, x_79_3_9_d1, x_79_3_9_d2, x_79_3_9_d3, x_79_3_9_d4, x_49, x_10_4_I, x_10_4_A, x_10_4_U, x_60, x_69, x_34, x_38_130, x_38_133, x_82, cb_ri, cb_rl, cb_rv, cb_th, cb_ite, ps_s, ps_n, u_138_0, u_138_20, u_138_31, u_138_70, u_138_86, u_138_95, d, tn, p4, Int.reduceEq, Int.reduceLT, Int.reduceLE, reduceIte, Int.reduceAdd, Int.reduceSub, Int.reduceMul, Int.reduceNeg, Int.reduceToNat, Bool.false_eq_true, eq_self, if_pos, if_neg]
        · obtain ⟨g1, g2, g3, b1, b2, b3, b4, b5, b6⟩ := aside_go (lr + 40) H N n false (hset g 186 0 0 0) (h 187 0) L (rdy_of 0 I s J hL hW hl) (by omega)
          have b2 : cl (lr + 79) 230 [aA 12 0, aI (n : Int), aI 0] g1 = _ := b2
          have i1 : cl (lr + 79) 173 [aA 12 0, aI (x : Int), aI 1] g2 = ri (plI (h 187 0) L H N false n (14 + 6 * x + 1)) g2 := by have := its_c (lr + 78) x 1 g2 (by omega) (by omega); rw [b3] at this; exact this
          have i4 : cl (lr + 79) 173 [aA 12 0, aI (x : Int), aI 4] g2 = ri (plI (h 187 0) L H N false n (14 + 6 * x + 4)) g2 := by have := its_c (lr + 78) x 4 g2 (by omega) (by omega); rw [b3] at this; exact this
          refine ⟨g3, ?_, by rw [b6, hs_eq], Sm_t (rsc_186 g 0) b5⟩
          show cl (lr + 80) _ _ _ = _
          rw [in_302]
          by_cases d : w = 0
          · subst d
            simp (disch := omega) only [x_6_0, x_4_1, x_79_2_12_d0, x_79_2_12_d1, x_79_2_12_d2, x_79_2_12_d3, x_79_2_12_d4, x_69, x_1, x_60, x_4_2, x_80_3_d0, x_80_3_d1, x_80_3_d2, x_80_3_d3, x_80_3_d4, x_4_3, x_61, x_36, x_33, x_73, x_82, x_79_1_12_d0, x_79_1_12_d1, x_79_1_12_d2, x_79_1_12_d3, x_79_1_12_d4, x_79_3_12_d0, x_79_3_12_d1, x_79_3_12_d2, x_79_3_12_d3, x_79_3_12_d4, x_7_4_I, x_7_4_A, x_7_4_U, x_7_5_I, x_7_5_A, x_7_5_U, x_4_5, cb_ri, cb_rl, cb_rv, cb_th, cb_ite, ps_s, ps_n, u_302_0, u_302_13, u_302_27, u_302_40, u_302_41, u_302_53, u_302_75, u_302_76, ih g J, it, iw, hs_eq, b1, b2, i1, b4, Int.reduceEq, Int.reduceLT, Int.reduceLE, reduceIte, Int.reduceAdd, Int.reduceSub, Int.reduceMul, Int.reduceNeg, Int.reduceToNat, Bool.false_eq_true, eq_self, if_pos, if_neg]
          · simp (disch := omega) only [x_6_0, x_4_1, x_79_2_12_d0, x_79_2_12_d1, x_79_2_12_d2, x_79_2_12_d3, x_79_2_12_d4, x_69, x_1, x_60, x_4_2, x_80_3_d0, x_80_3_d1, x_80_3_d2, x_80_3_d3, x_80_3_d4, x_4_3, x_61, x_36, x_33, x_73, x_82, x_79_1_12_d0, x_79_1_12_d1, x_79_1_12_d2, x_79_1_12_d3, x_79_1_12_d4, x_79_3_12_d0, x_79_3_12_d1, x_79_3_12_d2, x_79_3_12_d3, x_79_3_12_d4, x_7_4_I, x_7_4_A, x_7_4_U, x_7_5_I, x_7_5_A, x_7_5_U, x_4_5, cb_ri, cb_rl, cb_rv, cb_th, cb_ite, ps_s, ps_n, u_302_0, u_302_13, u_302_27, u_302_40, u_302_41, u_302_53, u_302_75, u_302_76, ih g J, it, iw, hs_eq, b1, b2, d, i4, b4, Int.reduceEq, Int.reduceLT, Int.reduceLE, reduceIte, Int.reduceAdd, Int.reduceSub, Int.reduceMul, Int.reduceNeg, Int.reduceToNat, Bool.false_eq_true, eq_self, if_pos, if_neg]
      · refine AGt_e I 4 (by decide) ⟨h, ?_, Sm_r _ _⟩ (fun g s J => ⟨0, hset g 186 0 0 3, ?_, hs_eq _ _ _ _ _, rsc_186 g 3⟩)
        · show cl (lc + 80) _ _ _ = _
          rw [in_138]
          by_cases d : w < 0
          · simp (disch := omega) only [x_6_0, x_4_1, x_79_2_11_d0, x_79_2_11_d1, x_79_2_11_d2, x_79_2_11_d3, x_79_2_11_d4, x_4_2, x_1, x_80_2_d0, x_80_2_d1, x_80_2_d2, x_80_2_d3, x_80_2_d4, x_4_3, x_70, x_67, x_61, x_84, x_35_1, x_35_0, x_79_2_7_d0, x_79_2_7_d1, x_79_2_7_d2, x_79_2_7_d3, x_79_2_7_d4, x_7_4_I, x_7_4_A, x_7_4_U, x_4_4, x_65, x_79_3_9_d0, x_79_3_9_d1, x_79_3_9_d2, x_79_3_9_d3, x_79_3_9_d4, x_49, x_10_4_I, x_10_4_A, x_10_4_U, x_60, x_69, x_34, x_38_130, x_38_133, x_82, cb_ri, cb_rl, cb_rv, cb_th, cb_ite, ps_s, ps_n, u_138_0, u_138_20, u_138_31, u_138_70, u_138_86, u_138_95, ch, ct, d, Int.reduceEq, Int.reduceLT, Int.reduceLE, reduceIte, Int.reduceAdd, Int.reduceSub, Int.reduceMul, Int.reduceNeg, Int.reduceToNat, Bool.false_eq_true, eq_self, if_pos, if_neg]
          · simp (disch := omega) only [x_6_0, x_4_1, x_79_2_11_d0, x_79_2_11_d1, x_79_2_11_d2, x_79_2_11_d3, x_79_2_11_d4, x_4_2, x_1, x_80_2_d0, x_80_2_d1, x_80_2_d2, x_80_2_d3, x_80_2_d4, x_4_3, x_70, x_67, x_61, x_84, x_35_1, x_35_0, x_79_2_7_d0, x_79_2_7_d1, x_79_2_7_d2, x_79_2_7_d3, x_79_2_7_d4, x_7_4_I, x_7_4_A, x_7_4_U, x_4_4, x_65, x_79_3_9_d0, x_79_3_9_d1, x_79_3_9_d2, x_79_3_9_d3, x_79_3_9_d4, x_49, x_10_4_I, x_10_4_A, x_10_4_U, x_60, x_69, x_34, x_38_130, x_38_133, x_82, cb_ri, cb_rl, cb_rv, cb_th, cb_ite, ps_s, ps_n, u_138_0, u_138_20, u_138_31, u_138_70, u_138_86, u_138_95, ch, ct, Int.reduceEq, Int.reduceLT, Int.reduceLE, reduceIte, Int.reduceAdd, Int.reduceSub, Int.reduceMul, Int.reduceNeg, Int.reduceToNat, Bool.false_eq_true, eq_self, if_pos, if_neg]
        · show cl (lr + 80) _ _ _ = _
          have iw := isIn_c (lr + 78) w 0 1 g
          rw [if_neg c3] at iw
          rw [in_302]
          simp (disch := omega) only [x_6_0, x_4_1, x_79_2_12_d0, x_79_2_12_d1, x_79_2_12_d2, x_79_2_12_d3, x_79_2_12_d4, x_69, x_1, x_60, x_4_2, x_80_3_d0, x_80_3_d1, x_80_3_d2, x_80_3_d3, x_80_3_d4, x_4_3, x_61, x_36, x_33, x_73, x_82, x_79_1_12_d0, x_79_1_12_d1, x_79_1_12_d2, x_79_1_12_d3, x_79_1_12_d4, x_79_3_12_d0, x_79_3_12_d1, x_79_3_12_d2, x_79_3_12_d3, x_79_3_12_d4, x_7_4_I, x_7_4_A, x_7_4_U, x_7_5_I, x_7_5_A, x_7_5_U, x_4_5, cb_ri, cb_rl, cb_rv, cb_th, cb_ite, ps_s, ps_n, u_302_0, u_302_13, u_302_27, u_302_40, u_302_41, u_302_53, u_302_75, u_302_76, ih g J, it, iw, hs_eq, Int.reduceEq, Int.reduceLT, Int.reduceLE, reduceIte, Int.reduceAdd, Int.reduceSub, Int.reduceMul, Int.reduceNeg, Int.reduceToNat, Bool.false_eq_true, eq_self, if_pos, if_neg]
    · rw [if_neg c2] at ct
      refine AGt_e I 0 (by decide) ⟨h, ?_, Sm_r _ _⟩ (fun g s J => ⟨0, hset g 186 0 0 2, ?_, hs_eq _ _ _ _ _, rsc_186 g 2⟩)
      · show cl (lc + 80) _ _ _ = _
        rw [in_138]
        simp (disch := omega) only [x_6_0, x_4_1, x_79_2_11_d0, x_79_2_11_d1, x_79_2_11_d2, x_79_2_11_d3, x_79_2_11_d4, x_4_2, x_1, x_80_2_d0, x_80_2_d1, x_80_2_d2, x_80_2_d3, x_80_2_d4, x_4_3, x_70, x_67, x_61, x_84, x_35_1, x_35_0, x_79_2_7_d0, x_79_2_7_d1, x_79_2_7_d2, x_79_2_7_d3, x_79_2_7_d4, x_7_4_I, x_7_4_A, x_7_4_U, x_4_4, x_65, x_79_3_9_d0, x_79_3_9_d1, x_79_3_9_d2, x_79_3_9_d3, x_79_3_9_d4, x_49, x_10_4_I, x_10_4_A, x_10_4_U, x_60, x_69, x_34, x_38_130, x_38_133, x_82, cb_ri, cb_rl, cb_rv, cb_th, cb_ite, ps_s, ps_n, u_138_0, u_138_20, u_138_31, u_138_70, u_138_86, u_138_95, ch, ct]
      · show cl (lr + 80) _ _ _ = _
        have it := isIn_c (lr + 78) m 0 60 g
        rw [if_neg c2] at it
        rw [in_302]
        simp (disch := omega) only [x_6_0, x_4_1, x_79_2_12_d0, x_79_2_12_d1, x_79_2_12_d2, x_79_2_12_d3, x_79_2_12_d4, x_69, x_1, x_60, x_4_2, x_80_3_d0, x_80_3_d1, x_80_3_d2, x_80_3_d3, x_80_3_d4, x_4_3, x_61, x_36, x_33, x_73, x_82, x_79_1_12_d0, x_79_1_12_d1, x_79_1_12_d2, x_79_1_12_d3, x_79_1_12_d4, x_79_3_12_d0, x_79_3_12_d1, x_79_3_12_d2, x_79_3_12_d3, x_79_3_12_d4, x_7_4_I, x_7_4_A, x_7_4_U, x_7_5_I, x_7_5_A, x_7_5_U, x_4_5, cb_ri, cb_rl, cb_rv, cb_th, cb_ite, ps_s, ps_n, u_302_0, u_302_13, u_302_27, u_302_40, u_302_41, u_302_53, u_302_75, u_302_76, ih g J, it, hs_eq, Int.reduceEq, Int.reduceLT, Int.reduceLE, reduceIte, Int.reduceAdd, Int.reduceSub, Int.reduceMul, Int.reduceNeg, Int.reduceToNat, Bool.false_eq_true, eq_self, if_pos, if_neg]
  · rw [if_neg c1] at ch
    refine AGt_e I 2 (by decide) ⟨h, ?_, Sm_r _ _⟩ (fun g s J => ⟨0, hset g 186 0 0 1, ?_, hs_eq _ _ _ _ _, rsc_186 g 1⟩)
    · show cl (lc + 80) _ _ _ = _
      rw [in_138]
      simp (disch := omega) only [x_6_0, x_4_1, x_79_2_11_d0, x_79_2_11_d1, x_79_2_11_d2, x_79_2_11_d3, x_79_2_11_d4, x_4_2, x_1, x_80_2_d0, x_80_2_d1, x_80_2_d2, x_80_2_d3, x_80_2_d4, x_4_3, x_70, x_67, x_61, x_84, x_35_1, x_35_0, x_79_2_7_d0, x_79_2_7_d1, x_79_2_7_d2, x_79_2_7_d3, x_79_2_7_d4, x_7_4_I, x_7_4_A, x_7_4_U, x_4_4, x_65, x_79_3_9_d0, x_79_3_9_d1, x_79_3_9_d2, x_79_3_9_d3, x_79_3_9_d4, x_49, x_10_4_I, x_10_4_A, x_10_4_U, x_60, x_69, x_34, x_38_130, x_38_133, x_82, cb_ri, cb_rl, cb_rv, cb_th, cb_ite, ps_s, ps_n, u_138_0, u_138_20, u_138_31, u_138_70, u_138_86, u_138_95, ch]
    · show cl (lr + 80) _ _ _ = _
      have ih := inH J (lr + 77) p
      rw [if_neg c1] at ih
      rw [in_302]
      simp (disch := omega) only [x_6_0, x_4_1, x_79_2_12_d0, x_79_2_12_d1, x_79_2_12_d2, x_79_2_12_d3, x_79_2_12_d4, x_69, x_1, x_60, x_4_2, x_80_3_d0, x_80_3_d1, x_80_3_d2, x_80_3_d3, x_80_3_d4, x_4_3, x_61, x_36, x_33, x_73, x_82, x_79_1_12_d0, x_79_1_12_d1, x_79_1_12_d2, x_79_1_12_d3, x_79_1_12_d4, x_79_3_12_d0, x_79_3_12_d1, x_79_3_12_d2, x_79_3_12_d3, x_79_3_12_d4, x_7_4_I, x_7_4_A, x_7_4_U, x_7_5_I, x_7_5_A, x_7_5_U, x_4_5, cb_ri, cb_rl, cb_rv, cb_th, cb_ite, ps_s, ps_n, u_302_0, u_302_13, u_302_27, u_302_40, u_302_41, u_302_53, u_302_75, u_302_76, ih, hs_eq, Int.reduceEq, Int.reduceLT, Int.reduceLE, reduceIte, Int.reduceAdd, Int.reduceSub, Int.reduceMul, Int.reduceNeg, Int.reduceToNat, Bool.false_eq_true, eq_self, if_pos, if_neg]
