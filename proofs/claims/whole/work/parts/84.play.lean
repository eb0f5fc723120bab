/-! THE CLASS PLAYS A BEAT. -/
theorem drawsSlip_c (lv s : Nat) (h : Hp) : cl (lv + 1) 55 [aA 7 s] h = ri (if slV (h 147 s 0) < h 146 s 0 then 1 else 0) (hset h 147 s 0 (nxS (h 147 s 0))) := by
  have e1 : w32 (w32 (1103515245 * h 147 s 0) + 12345) = nxS (h 147 s 0) := rfl
  have e2 : irem (iand (iushr (nxS (h 147 s 0)) 16) 32767) 100 = slV (h 147 s 0) := rfl
  rw [in_55]
  by_cases c : slV (h 147 s 0) < h 146 s 0
  · simp (disch := omega) only [x_6_0, x_1, x_33, x_13, x_11, x_36, x_22, x_17, x_15, x_65, x_60, x_61, x_85, u_55_0, u_55_40, u_55_41, e1, hs_eq, hs_t, e2, c, Int.reduceEq, Int.reduceLT, Int.reduceLE, reduceIte, Int.reduceAdd, Int.reduceSub, Int.reduceMul, Int.reduceNeg, Int.reduceToNat, Bool.false_eq_true, eq_self, if_pos, if_neg]
  · simp (disch := omega) only [x_6_0, x_1, x_33, x_13, x_11, x_36, x_22, x_17, x_15, x_65, x_60, x_61, x_85, u_55_0, u_55_40, u_55_41, e1, hs_eq, hs_t, e2, c, Int.reduceEq, Int.reduceLT, Int.reduceLE, reduceIte, Int.reduceAdd, Int.reduceSub, Int.reduceMul, Int.reduceNeg, Int.reduceToNat, Bool.false_eq_true, eq_self, if_pos, if_neg]
theorem enter_c (lv s kd nw S : Nat) (n hd : Int) (m : Nat → Int) (h : Hp) (hk : kd < 4) (x6 : h 145 s 0 = m 6) (xc : h 137 s kd = m (8 + kd)) (gc : 0 ≤ m (8 + kd) ∧ m (8 + kd) ≤ 9999) (ho : rowOk (m 6) n hd kd) (h1 : h 122 s 0 = (nw : Int)) (h2 : nw < 60) (h3 : h 123 s 0 = (S : Int)) (h4 : S ≤ 60) :
    cl (lv + 3) 56 [aA 7 s, aI n, aI hd, aI (kd : Int)] h = rv (hadd (hset h 137 s kd (min 9999 (m (8 + kd) + 1))) s nw S (enc (m 6) n hd kd)) := by
  have la := logAdd_c lv s nw S (m 6) n hd kd (hset h 137 s kd (min 9999 (m (8 + kd) + 1))) (by rw [hs_t (by omega)]; exact h1) h2 (by rw [hs_t (by omega)]; exact h3) h4 ho
  rw [in_56]
  simp (disch := omega) only [x_6_0, x_34, x_4_3, x_1, x_38_137, x_11, x_80_2_d0, x_80_2_d1, x_80_2_d2, x_80_2_d3, x_80_2_d4, x_39_137, x_33, x_4_1, x_4_2, x_79_5_4_d0, x_79_5_4_d1, x_79_5_4_d2, x_79_5_4_d3, x_79_5_4_d4, x_83, cb_ri, cb_rl, cb_rv, cb_th, cb_ite, ps_s, ps_n, u_56_0, tn, xc, min_c, hs_t, x6, la, w32_id, Int.reduceEq, Int.reduceLT, Int.reduceLE, reduceIte, Int.reduceAdd, Int.reduceSub, Int.reduceMul, Int.reduceNeg, Int.reduceToNat, Bool.false_eq_true, eq_self, if_pos, if_neg]
def stFr (s tt k : Nat) : Prop := k = s ∧ stTag tt
/-- a note is entered -/
theorem enter_k (lv s kd H N : Nat) (n hd : Int) (m : Nat → Int) (h : Hp) (hk : kd < 4) (R : RS h s m H N) (G : GM m H N) (hn : 0 ≤ n ∧ n ≤ 13) (hh : -1 ≤ hd ∧ hd ≤ 5) :
    ∃ h', cl (lv + 3) 56 [aA 7 s, aI n, aI hd, aI (kd : Int)] h = rv h' ∧ RS h' s (logM m n hd kd) H N ∧ ∀ tt k j, ¬ stFr s tt k → h' tt k j = h tt k j := by
  have ho : rowOk (m 6) n hd kd := ⟨G.2.2.2.2.1, hn, hh, by omega⟩
  obtain ⟨nw, S, e1, e2, e3, e4, e5⟩ := RS_log hk ho R
  refine ⟨_, enter_c lv s kd nw S n hd m h hk R.2.2.1.2.2.1 (R.2.2.1.2.2.2.2.2 kd hk) (G.2.2.2.2.2.2 kd hk) ho e1 e2 e3 e4, e5, fun tt k j hf => ?_⟩
  unfold stFr stTag at hf
  unfold hadd
  rw [hs_o (by omega), hs_o (by omega), hs_o (by omega), hs_o (by omega)]
theorem playHeld_c (lv s H N : Nat) (M : Nat → Int) (L : List LN) (b : Int) (dr : Bool) (h : Hp) (R : RS h s M H N) (G : GM M H N) (Y : WyC h N (wayW M L H N b)) :
    ∃ h', cl (lv + 4) 72 [aA 9 0, aA 7 s, aI (boI dr)] h = rv h' ∧ RS h' s (itr (p1M (wayW M L H N b) dr) M N) H N ∧ ∀ tt k j, ¬ stFr s tt k → h' tt k j = h tt k j := by
  have hH := G.1.2.1
  have hN := G.2.1.2.1
  have main := loop_p (S := (AV × AV) × Hp) (F := fun n (q : (AV × AV) × Hp) => run (lv + 3) 72 2 [aA 9 0, aA 7 s, aI (boI dr), aI (n : Int), q.1.1, q.1.2] [] q.2)
    (I := fun n q => RS q.2 s (itr (p1M (wayW M L H N b) dr) M n) H N ∧ ∀ tt k j, ¬ stFr s tt k → q.2 tt k j = h tt k j)
    (Q := fun r => ∃ h', r = rv h' ∧ RS h' s (itr (p1M (wayW M L H N b) dr) M N) H N ∧ ∀ tt k j, ¬ stFr s tt k → h' tt k j = h tt k j) (N := N) ?_ ?_ ((none, none), h) ⟨R, fun _ _ _ _ => rfl⟩
  · rw [in_72]
    simp (disch := omega) only [x_1, x_7_3_I, x_7_3_A, x_7_3_U, x_61, x_4_3, x_6_1, x_33, x_65, x_6_0, x_35_0, x_34, x_38_130, x_38_133, x_38_135, x_38_136, x_38_165, x_7_4_I, x_7_4_A, x_7_4_U, x_4_4, x_62, x_4_2, x_68, x_79_1_7_d0, x_79_1_7_d1, x_79_1_7_d2, x_79_1_7_d3, x_79_1_7_d4, x_60, x_7_5_I, x_7_5_A, x_7_5_U, x_4_5, x_79_4_7_d0, x_79_4_7_d1, x_79_4_7_d2, x_79_4_7_d3, x_79_4_7_d4, x_39_130, x_39_133, x_39_135, x_39_136, x_39_165, x_11, x_80_2_d0, x_80_2_d1, x_80_2_d2, x_80_2_d3, x_80_2_d4, x_10_3_I, x_10_3_A, x_10_3_U, x_83, cb_ri, cb_rl, cb_rv, cb_th, cb_ite, ps_s, ps_n, u_72_0, u_72_42, u_72_43, u_72_58, u_72_59, u_72_103, u_72_109]
    exact main
  · rintro n ⟨⟨v4, v5⟩, q⟩ hn ⟨i1, i2⟩
    simp only at i1 i2 ⊢
    have n40 := i1.2.1.1
    obtain ⟨Gm, Km⟩ := itr_ok (f := p1M (wayW M L H N b) dr) (K := N) p1_ok G n (by omega)
    have y5 : q 165 0 n = (wayW M L H N b).2.1 n := by rw [i2 _ _ _ (by unfold stFr stTag; omega)]; exact Y.1 n hn
    show ∃ s', _ ∧ RS _ s (p1M (wayW M L H N b) dr n (itr (p1M (wayW M L H N b) dr) M n)) H N ∧ _
    generalize itr (p1M (wayW M L H N b) dr) M n = m at i1 Gm Km
    rcases (way_inv M L H N b).1 n with e | ⟨x, x1, x2, x3, x4⟩
    · rw [e] at y5
      refine ⟨((aI (-1), v5), q), ?_, ?_, i2⟩
      · try simp only
        rw [hd_72_2]
        simp (disch := omega) only [x_1, x_7_3_I, x_7_3_A, x_7_3_U, x_61, x_4_3, x_6_1, x_33, x_65, x_6_0, x_35_0, x_34, x_38_130, x_38_133, x_38_135, x_38_136, x_38_165, x_7_4_I, x_7_4_A, x_7_4_U, x_4_4, x_62, x_4_2, x_68, x_79_1_7_d0, x_79_1_7_d1, x_79_1_7_d2, x_79_1_7_d3, x_79_1_7_d4, x_60, x_7_5_I, x_7_5_A, x_7_5_U, x_4_5, x_79_4_7_d0, x_79_4_7_d1, x_79_4_7_d2, x_79_4_7_d3, x_79_4_7_d4, x_39_130, x_39_133, x_39_135, x_39_136, x_39_165, x_11, x_80_2_d0, x_80_2_d1, x_80_2_d2, x_80_2_d3, x_80_2_d4, x_10_3_I, x_10_3_A, x_10_3_U, x_83, cb_ri, cb_rl, cb_rv, cb_th, cb_ite, ps_s, ps_n, u_72_0, u_72_42, u_72_43, u_72_58, u_72_59, u_72_103, u_72_109, n40, tn, y5, Int.reduceEq, Int.reduceLT, Int.reduceLE, reduceIte, Int.reduceAdd, Int.reduceSub, Int.reduceMul, Int.reduceNeg, Int.reduceToNat, Bool.false_eq_true, eq_self, if_pos, if_neg, ci, w32_id]
      · unfold p1M; rw [if_pos e]; exact i1
    · rw [x1] at y5
      have nx : ¬ (x : Int) = -1 := by omega
      have gn := Gm.2.1.2.2.1 n hn
      have gx := Gm.1.2.2 x x2
      have ep : p1M (wayW M L H N b) dr n m = hlM n x dr m := by unfold p1M; rw [x1, if_neg (by omega), tn]
      rw [ep]
      -- the draw
      have draw : ∃ q1 : Hp, RS q1 s (if dr = true then upM m 13 (nxS (m 13)) else m) H N ∧ (∀ tt k j, ¬ stFr s tt k → q1 tt k j = q tt k j) ∧ ∀ v4 v5, run (lv + 3) 72 2 [aA 9 0, aA 7 s, aI (boI dr), aI (n : Int), v4, v5] [] q = run (lv + 3) 72 59 [aA 9 0, aA 7 s, aI (boI dr), aI (n : Int), aI (x : Int), aI (kdH dr m : Int)] [aI (kdH dr m : Int), aI (x : Int), aI (n : Int), aA 7 s] q1 := by
        have s7 := i1.2.2.1.2.2.2.2.1
        have s6 := i1.2.2.1.2.2.2.1
        cases dr with
        | false =>
          refine ⟨q, i1, fun _ _ _ _ => rfl, fun v4 v5 => ?_⟩
          have ek : kdH false m = 0 := by unfold kdH; rw [if_neg (fun z => absurd z.1 (by decide))]
          rw [ek, hd_72_2]
          simp (disch := omega) only [x_1, x_7_3_I, x_7_3_A, x_7_3_U, x_61, x_4_3, x_6_1, x_33, x_65, x_6_0, x_35_0, x_34, x_38_130, x_38_133, x_38_135, x_38_136, x_38_165, x_7_4_I, x_7_4_A, x_7_4_U, x_4_4, x_62, x_4_2, x_68, x_79_1_7_d0, x_79_1_7_d1, x_79_1_7_d2, x_79_1_7_d3, x_79_1_7_d4, x_60, x_7_5_I, x_7_5_A, x_7_5_U, x_4_5, x_79_4_7_d0, x_79_4_7_d1, x_79_4_7_d2, x_79_4_7_d3, x_79_4_7_d4, x_39_130, x_39_133, x_39_135, x_39_136, x_39_165, x_11, x_80_2_d0, x_80_2_d1, x_80_2_d2, x_80_2_d3, x_80_2_d4, x_10_3_I, x_10_3_A, x_10_3_U, x_83, cb_ri, cb_rl, cb_rv, cb_th, cb_ite, ps_s, ps_n, u_72_0, u_72_42, u_72_43, u_72_58, u_72_103, u_72_109, n40, tn, y5, nx, boI, Int.reduceEq, Int.reduceLT, Int.reduceLE, reduceIte, Int.reduceAdd, Int.reduceSub, Int.reduceMul, Int.reduceNeg, Int.reduceToNat, Bool.false_eq_true, eq_self, if_pos, if_neg]
          rfl
        | true =>
          have ds := drawsSlip_c (lv + 2) s q
          rw [s7, s6] at ds
          refine ⟨hset q 147 s 0 (nxS (m 13)), RS_x _ (Or.inl ⟨rfl, rfl⟩) i1, fun tt k j hf => hs_o (by unfold stFr stTag at hf; omega), fun v4 v5 => ?_⟩
          rw [hd_72_2]
          by_cases c : slV (m 13) < m 7
          · rw [if_pos c] at ds
            have ek : kdH true m = 1 := by unfold kdH; rw [if_pos ⟨rfl, c⟩]
            rw [ek]
            simp (disch := omega) only [x_1, x_7_3_I, x_7_3_A, x_7_3_U, x_61, x_4_3, x_6_1, x_33, x_65, x_6_0, x_35_0, x_34, x_38_130, x_38_133, x_38_135, x_38_136, x_38_165, x_7_4_I, x_7_4_A, x_7_4_U, x_4_4, x_62, x_4_2, x_68, x_79_1_7_d0, x_79_1_7_d1, x_79_1_7_d2, x_79_1_7_d3, x_79_1_7_d4, x_60, x_7_5_I, x_7_5_A, x_7_5_U, x_4_5, x_79_4_7_d0, x_79_4_7_d1, x_79_4_7_d2, x_79_4_7_d3, x_79_4_7_d4, x_39_130, x_39_133, x_39_135, x_39_136, x_39_165, x_11, x_80_2_d0, x_80_2_d1, x_80_2_d2, x_80_2_d3, x_80_2_d4, x_10_3_I, x_10_3_A, x_10_3_U, x_83, cb_ri, cb_rl, cb_rv, cb_th, cb_ite, ps_s, ps_n, u_72_0, u_72_42, u_72_43, u_72_58, u_72_103, u_72_109, n40, tn, y5, nx, boI, ds, Int.reduceEq, Int.reduceLT, Int.reduceLE, reduceIte, Int.reduceAdd, Int.reduceSub, Int.reduceMul, Int.reduceNeg, Int.reduceToNat, Bool.false_eq_true, eq_self, if_pos, if_neg]
            rfl
          · rw [if_neg c] at ds
            have ek : kdH true m = 0 := by unfold kdH; rw [if_neg (fun z => c z.2)]
            rw [ek]
            simp (disch := omega) only [x_1, x_7_3_I, x_7_3_A, x_7_3_U, x_61, x_4_3, x_6_1, x_33, x_65, x_6_0, x_35_0, x_34, x_38_130, x_38_133, x_38_135, x_38_136, x_38_165, x_7_4_I, x_7_4_A, x_7_4_U, x_4_4, x_62, x_4_2, x_68, x_79_1_7_d0, x_79_1_7_d1, x_79_1_7_d2, x_79_1_7_d3, x_79_1_7_d4, x_60, x_7_5_I, x_7_5_A, x_7_5_U, x_4_5, x_79_4_7_d0, x_79_4_7_d1, x_79_4_7_d2, x_79_4_7_d3, x_79_4_7_d4, x_39_130, x_39_133, x_39_135, x_39_136, x_39_165, x_11, x_80_2_d0, x_80_2_d1, x_80_2_d2, x_80_2_d3, x_80_2_d4, x_10_3_I, x_10_3_A, x_10_3_U, x_83, cb_ri, cb_rl, cb_rv, cb_th, cb_ite, ps_s, ps_n, u_72_0, u_72_42, u_72_43, u_72_58, u_72_103, u_72_109, n40, tn, y5, nx, boI, ds, Int.reduceEq, Int.reduceLT, Int.reduceLE, reduceIte, Int.reduceAdd, Int.reduceSub, Int.reduceMul, Int.reduceNeg, Int.reduceToNat, Bool.false_eq_true, eq_self, if_pos, if_neg]
            rfl
      obtain ⟨q1, d1, d2, d3⟩ := draw
      have hk : kdH dr m < 4 := by unfold kdH; split <;> omega
      have g1 : GM (if dr = true then upM m 13 (nxS (m 13)) else m) H N := by split; exact GM_sd Gm; exact Gm
      obtain ⟨q2, e1, e2, e3⟩ := enter_k lv s (kdH dr m) H N (n : Int) (x : Int) _ q1 hk d1 g1 (by omega) (by omega)
      have hm : ∀ j, 14 ≤ j → j < 106 → logM (if dr = true then upM m 13 (nxS (m 13)) else m) (n : Int) (x : Int) (kdH dr m) j = m j := by
        intro j h1 h2
        rw [logM_o (by omega) (by omega) (by omega)]
        split
        · exact up_ne (by omega)
        · rfl
      have c35 : q2 135 s n = m (50 + 4 * n + 1) := by rw [(e2.2.1.2.2.2 n hn).2.1]; exact hm _ (by omega) (by omega)
      have c36 : q2 136 s n = m (50 + 4 * n + 2) := by rw [(e2.2.1.2.2.2 n hn).2.2]; exact hm _ (by omega) (by omega)
      have c33 : q2 133 s x = m (14 + 6 * x + 4) := by rw [(e2.1.2.2.2 x x2).2.2.2.2]; exact hm _ (by omega) (by omega)
      refine ⟨((aI (x : Int), aI (kdH dr m : Int)), hset (hset q2 130 s x (m (50 + 4 * n + 1))) 133 s x (min 99 (m (14 + 6 * x + 4) + m (50 + 4 * n + 2) + 1))), ?_, ?_, fun tt k j hf => ?_⟩
      · try simp only
        rw [d3]
        simp (disch := omega) only [x_1, x_7_3_I, x_7_3_A, x_7_3_U, x_61, x_4_3, x_6_1, x_33, x_65, x_6_0, x_35_0, x_34, x_38_130, x_38_133, x_38_135, x_38_136, x_38_165, x_7_4_I, x_7_4_A, x_7_4_U, x_4_4, x_62, x_4_2, x_68, x_79_1_7_d0, x_79_1_7_d1, x_79_1_7_d2, x_79_1_7_d3, x_79_1_7_d4, x_60, x_7_5_I, x_7_5_A, x_7_5_U, x_4_5, x_79_4_7_d0, x_79_4_7_d1, x_79_4_7_d2, x_79_4_7_d3, x_79_4_7_d4, x_39_130, x_39_133, x_39_135, x_39_136, x_39_165, x_11, x_80_2_d0, x_80_2_d1, x_80_2_d2, x_80_2_d3, x_80_2_d4, x_10_3_I, x_10_3_A, x_10_3_U, x_83, cb_ri, cb_rl, cb_rv, cb_th, cb_ite, ps_s, ps_n, u_72_0, u_72_42, u_72_43, u_72_58, u_72_59, u_72_103, u_72_109, e1, c35, c36, c33, tn, hs_t, min_c, Int.reduceEq, Int.reduceLT, Int.reduceLE, reduceIte, Int.reduceAdd, Int.reduceSub, Int.reduceMul, Int.reduceNeg, Int.reduceToNat, Bool.false_eq_true, eq_self, if_pos, if_neg, ci, w32_id]
      · exact RS_hd (f := 4) _ (by omega) x2 (RS_hd (f := 1) _ (by omega) x2 e2)
      · have hf2 := hf
        unfold stFr stTag at hf2
        try simp only
        rw [hs_o (by omega), hs_o (by omega), e3 _ _ _ hf, d2 _ _ _ hf]
        exact i2 tt k j hf
  · rintro ⟨⟨v4, v5⟩, q⟩ ⟨i1, i2⟩
    simp only at i1 i2 ⊢
    have n40 := i1.2.1.1
    refine ⟨q, ?_, i1, i2⟩
    rw [hd_72_2]
    simp (disch := omega) only [x_1, x_7_3_I, x_7_3_A, x_7_3_U, x_61, x_4_3, x_6_1, x_33, x_65, x_6_0, x_35_0, x_34, x_38_130, x_38_133, x_38_135, x_38_136, x_38_165, x_7_4_I, x_7_4_A, x_7_4_U, x_4_4, x_62, x_4_2, x_68, x_79_1_7_d0, x_79_1_7_d1, x_79_1_7_d2, x_79_1_7_d3, x_79_1_7_d4, x_60, x_7_5_I, x_7_5_A, x_7_5_U, x_4_5, x_79_4_7_d0, x_79_4_7_d1, x_79_4_7_d2, x_79_4_7_d3, x_79_4_7_d4, x_39_130, x_39_133, x_39_135, x_39_136, x_39_165, x_11, x_80_2_d0, x_80_2_d1, x_80_2_d2, x_80_2_d3, x_80_2_d4, x_10_3_I, x_10_3_A, x_10_3_U, x_83, cb_ri, cb_rl, cb_rv, cb_th, cb_ite, ps_s, ps_n, u_72_0, u_72_42, u_72_43, u_72_58, u_72_59, u_72_103, u_72_109, n40, Int.reduceEq, Int.reduceLT, Int.reduceLE, reduceIte, Int.reduceAdd, Int.reduceSub, Int.reduceMul, Int.reduceNeg, Int.reduceToNat, Bool.false_eq_true, eq_self, if_pos, if_neg]
theorem ease_c (lv s H N : Nat) (M m : Nat → Int) (L : List LN) (b : Int) (h : Hp) (R : RS h s m H N) (G : GM m H N) (Y : ∀ i, i < 6 → h 166 0 i = (wayW M L H N b).2.2.1 i) :
    ∃ h', cl (lv + 2) 73 [aA 9 0, aA 7 s] h = rv h' ∧ RS h' s (itr (p2M (wayW M L H N b)) m H) H N ∧ ∀ tt k j, ¬ stFr s tt k → h' tt k j = h tt k j := by
  have hH := G.1.2.1
  have main := loop_p (S := Hp) (F := fun x (q : Hp) => run (lv + 1) 73 2 [aA 9 0, aA 7 s, aI (x : Int)] [] q)
    (I := fun x q => RS q s (itr (p2M (wayW M L H N b)) m x) H N ∧ ∀ tt k j, ¬ stFr s tt k → q tt k j = h tt k j)
    (Q := fun r => ∃ h', r = rv h' ∧ RS h' s (itr (p2M (wayW M L H N b)) m H) H N ∧ ∀ tt k j, ¬ stFr s tt k → h' tt k j = h tt k j) (N := H) ?_ ?_ h ⟨R, fun _ _ _ _ => rfl⟩
  · rw [in_73]
    simp (disch := omega) only [x_1, x_7_2_I, x_7_2_A, x_7_2_U, x_61, x_4_2, x_6_1, x_33, x_65, x_6_0, x_35_0, x_34, x_38_133, x_38_166, x_63, x_12, x_80_2_d0, x_80_2_d1, x_80_2_d2, x_80_2_d3, x_80_2_d4, x_39_133, x_39_166, x_10_2_I, x_10_2_A, x_10_2_U, x_60, x_83, cb_ri, cb_rl, cb_rv, cb_th, cb_ite, ps_s, ps_n, u_73_0, u_73_47, u_73_53]
    exact main
  · rintro x q hx ⟨i1, i2⟩
    have n39 := i1.1.1
    obtain ⟨Gm, Km⟩ := itr_ok (f := p2M (wayW M L H N b)) (K := H) p2_ok G x (by omega)
    have y6 : q 166 0 x = (wayW M L H N b).2.2.1 x := by rw [i2 _ _ _ (by unfold stFr stTag; omega)]; exact Y x (by omega)
    show ∃ s', _ ∧ RS _ s (p2M (wayW M L H N b) x (itr (p2M (wayW M L H N b)) m x)) H N ∧ _
    generalize itr (p2M (wayW M L H N b)) m x = m' at i1 Gm Km
    have gx := Gm.1.2.2 x hx
    have c33 : q 133 s x = m' (14 + 6 * x + 4) := (i1.1.2.2.2 x hx).2.2.2.2
    unfold p2M
    by_cases c : (wayW M L H N b).2.2.1 x = -1
    · rw [c] at y6
      rw [if_pos c]
      refine ⟨hset q 133 s x (max 0 (m' (14 + 6 * x + 4) - 1)), ?_, RS_hd (f := 4) _ (by omega) hx i1, fun tt k j hf => ?_⟩
      · try simp only
        rw [hd_73_2]
        simp (disch := omega) only [x_1, x_7_2_I, x_7_2_A, x_7_2_U, x_61, x_4_2, x_6_1, x_33, x_65, x_6_0, x_35_0, x_34, x_38_133, x_38_166, x_63, x_12, x_80_2_d0, x_80_2_d1, x_80_2_d2, x_80_2_d3, x_80_2_d4, x_39_133, x_39_166, x_10_2_I, x_10_2_A, x_10_2_U, x_60, x_83, cb_ri, cb_rl, cb_rv, cb_th, cb_ite, ps_s, ps_n, u_73_0, u_73_47, u_73_53, n39, tn, y6, c33, max_c, Int.reduceEq, Int.reduceLT, Int.reduceLE, reduceIte, Int.reduceAdd, Int.reduceSub, Int.reduceMul, Int.reduceNeg, Int.reduceToNat, Bool.false_eq_true, eq_self, if_pos, if_neg, ci, w32_id]
      · have hf2 := hf
        unfold stFr stTag at hf2
        rw [hs_o (by omega)]; exact i2 tt k j hf
    · rw [if_neg c]
      refine ⟨q, ?_, i1, i2⟩
      try simp only
      rw [hd_73_2]
      simp (disch := omega) only [x_1, x_7_2_I, x_7_2_A, x_7_2_U, x_61, x_4_2, x_6_1, x_33, x_65, x_6_0, x_35_0, x_34, x_38_133, x_38_166, x_63, x_12, x_80_2_d0, x_80_2_d1, x_80_2_d2, x_80_2_d3, x_80_2_d4, x_39_133, x_39_166, x_10_2_I, x_10_2_A, x_10_2_U, x_60, x_83, cb_ri, cb_rl, cb_rv, cb_th, cb_ite, ps_s, ps_n, u_73_0, u_73_47, u_73_53, n39, tn, y6, c, Int.reduceEq, Int.reduceLT, Int.reduceLE, reduceIte, Int.reduceAdd, Int.reduceSub, Int.reduceMul, Int.reduceNeg, Int.reduceToNat, Bool.false_eq_true, eq_self, if_pos, if_neg, ci, w32_id]
  · rintro q ⟨i1, i2⟩
    have n39 := i1.1.1
    refine ⟨q, ?_, i1, i2⟩
    try simp only
    rw [hd_73_2]
    by_cases c6 : H = 6
    · simp (disch := omega) only [x_1, x_7_2_I, x_7_2_A, x_7_2_U, x_61, x_4_2, x_6_1, x_33, x_65, x_6_0, x_35_0, x_34, x_38_133, x_38_166, x_63, x_12, x_80_2_d0, x_80_2_d1, x_80_2_d2, x_80_2_d3, x_80_2_d4, x_39_133, x_39_166, x_10_2_I, x_10_2_A, x_10_2_U, x_60, x_83, cb_ri, cb_rl, cb_rv, cb_th, cb_ite, ps_s, ps_n, u_73_0, u_73_47, u_73_53, n39, Int.reduceEq, Int.reduceLT, Int.reduceLE, reduceIte, Int.reduceAdd, Int.reduceSub, Int.reduceMul, Int.reduceNeg, Int.reduceToNat, Bool.false_eq_true, eq_self, if_pos, if_neg]
    · simp (disch := omega) only [x_1, x_7_2_I, x_7_2_A, x_7_2_U, x_61, x_4_2, x_6_1, x_33, x_65, x_6_0, x_35_0, x_34, x_38_133, x_38_166, x_63, x_12, x_80_2_d0, x_80_2_d1, x_80_2_d2, x_80_2_d3, x_80_2_d4, x_39_133, x_39_166, x_10_2_I, x_10_2_A, x_10_2_U, x_60, x_83, cb_ri, cb_rl, cb_rv, cb_th, cb_ite, ps_s, ps_n, u_73_0, u_73_47, u_73_53, n39, Int.reduceEq, Int.reduceLT, Int.reduceLE, reduceIte, Int.reduceAdd, Int.reduceSub, Int.reduceMul, Int.reduceNeg, Int.reduceToNat, Bool.false_eq_true, eq_self, if_pos, if_neg]
theorem LawW_st {h g : Hp} {s : Nat} {L : List LN} (e : ∀ tt kk j, ¬ (stFr s tt kk ∨ lwFr 0 tt kk) → g tt kk j = h tt kk j) (W : LawW h 0 L) : LawW g 0 L := by
  obtain ⟨W1, W2, W3, W4, W5⟩ := W
  refine ⟨?_, ?_, ?_, ?_, W5⟩
  · rw [e _ _ _ (by unfold stFr stTag lwFr; omega)]; exact W1
  · rw [e _ _ _ (by unfold stFr stTag lwFr; omega)]; exact W2
  · intro i hi; rw [e _ _ _ (by unfold stFr stTag lwFr; omega), e _ _ _ (by unfold stFr stTag lwFr; omega)]; exact W3 i hi
  · intro i hi; rw [e _ _ _ (by unfold stFr stTag lwFr; omega)]; exact W4 i hi
theorem leaveRest_c (lv s H N : Nat) (M m : Nat → Int) (L : List LN) (P : Nat → Bool) (h : Hp) (R : RS h s m H N) (G : GM m H N) (W : LawW h 0 L) (K : KP M m) (Y : h 167 0 0 = ((bsN P N : Nat) : Int)) :
    ∃ h', cl (lv + 4) 74 [aA 9 0, aA 7 s] h = rv h' ∧ RS h' s (itr (p3M P (fun n => takB M L n (M (50 + 4 * n)))) m N) H N ∧ ∀ tt k j, ¬ (stFr s tt k ∨ lwFr 0 tt k) → h' tt k j = h tt k j := by
  have hN := G.2.1.2.1
  have main := loop_p (S := Hp) (F := fun n (q : Hp) => run (lv + 3) 74 2 [aA 9 0, aA 7 s, aI (n : Int)] [] q)
    (I := fun n q => RS q s (itr (p3M P (fun n => takB M L n (M (50 + 4 * n)))) m n) H N ∧ ∀ tt k j, ¬ (stFr s tt k ∨ lwFr 0 tt k) → q tt k j = h tt k j)
    (Q := fun r => ∃ h', r = rv h' ∧ RS h' s (itr (p3M P (fun n => takB M L n (M (50 + 4 * n)))) m N) H N ∧ ∀ tt k j, ¬ (stFr s tt k ∨ lwFr 0 tt k) → h' tt k j = h tt k j) (N := N) ?_ ?_ h ⟨R, fun _ _ _ _ => rfl⟩
  · rw [in_74]
    simp (disch := omega) only [x_1, x_7_2_I, x_7_2_A, x_7_2_U, x_61, x_4_2, x_6_1, x_33, x_65, x_6_0, x_35_0, x_21, x_17, x_68, x_79_3_1_d0, x_79_3_1_d1, x_79_3_1_d2, x_79_3_1_d3, x_79_3_1_d4, x_60, x_79_4_7_d0, x_79_4_7_d1, x_79_4_7_d2, x_79_4_7_d3, x_79_4_7_d4, x_10_2_I, x_10_2_A, x_10_2_U, x_83, cb_ri, cb_rl, cb_rv, cb_th, cb_ite, ps_s, ps_n, u_74_0, u_74_43, u_74_44, u_74_47, u_74_53]
    exact main
  · rintro n q hn ⟨i1, i2⟩
    have n40 := i1.2.1.1
    obtain ⟨Gm, Km⟩ := itr_ok (f := p3M P (fun n => takB M L n (M (50 + 4 * n)))) (K := N) p3_ok G n (by omega)
    have y7 : q 167 0 0 = ((bsN P N : Nat) : Int) := by rw [i2 _ _ _ (by unfold stFr stTag lwFr; omega)]; exact Y
    have bt := bit_n (a := bsN P N) (i := n) (by omega) (Nat.lt_of_lt_of_le (bsN_mono P hN) (by omega))
    rw [bsN_bit, show (decide (n < N) && P n) = P n by simp [hn]] at bt
    show ∃ s', _ ∧ RS _ s (p3M P (fun n => takB M L n (M (50 + 4 * n))) n (itr (p3M P (fun n => takB M L n (M (50 + 4 * n)))) m n)) H N ∧ _
    have Kt := KP_t K Km
    generalize itr (p3M P (fun n => takB M L n (M (50 + 4 * n)))) m n = m' at i1 Gm Km Kt
    unfold p3M lvM
    cases c : P n with
    | true =>
      rw [c, if_pos rfl] at bt
      rw [if_pos rfl]
      obtain ⟨q1, t1, t2⟩ := takes_k (lv + 1) 0 s n H N m' q L i1 Gm (LawW_st i2 W) hn
      rw [takB_kp (by omega) Kt] at t1
      have R1 : RS q1 s m' H N := RS_lw t2 i1
      cases ct : takB M L n (M (50 + 4 * n)) with
      | true =>
        rw [ct] at t1
        have t1 : _ = ri 1 q1 := t1
        obtain ⟨q2, e1, e2, e3⟩ := enter_k lv s 2 H N (n : Int) (-1) m' q1 (by omega) R1 Gm (by omega) (by omega)
        have e1 : cl (lv + 3) 56 [aA 7 s, aI (n : Int), aI (-1), aI 2] q1 = rv q2 := e1
        simp only [ct, if_true]
        refine ⟨q2, ?_, e2, fun tt k j hf => ?_⟩
        · try simp only
          rw [hd_74_2]
          simp (disch := omega) only [x_1, x_7_2_I, x_7_2_A, x_7_2_U, x_61, x_4_2, x_6_1, x_33, x_65, x_6_0, x_35_0, x_21, x_17, x_68, x_79_3_1_d0, x_79_3_1_d1, x_79_3_1_d2, x_79_3_1_d3, x_79_3_1_d4, x_60, x_79_4_7_d0, x_79_4_7_d1, x_79_4_7_d2, x_79_4_7_d3, x_79_4_7_d4, x_10_2_I, x_10_2_A, x_10_2_U, x_83, cb_ri, cb_rl, cb_rv, cb_th, cb_ite, ps_s, ps_n, u_74_0, u_74_43, u_74_44, u_74_47, u_74_53, n40, y7, bt, t1, e1, Int.reduceEq, Int.reduceLT, Int.reduceLE, reduceIte, Int.reduceAdd, Int.reduceSub, Int.reduceMul, Int.reduceNeg, Int.reduceToNat, Bool.false_eq_true, eq_self, if_pos, if_neg, ci, w32_id]
        · rw [e3 _ _ _ (fun z => hf (Or.inl z)), t2 _ _ _ (fun z => hf (Or.inr z))]; exact i2 tt k j hf
      | false =>
        rw [ct] at t1
        have t1 : _ = ri 0 q1 := t1
        obtain ⟨q2, e1, e2, e3⟩ := enter_k lv s 3 H N (n : Int) (-1) m' q1 (by omega) R1 Gm (by omega) (by omega)
        have e1 : cl (lv + 3) 56 [aA 7 s, aI (n : Int), aI (-1), aI 3] q1 = rv q2 := e1
        simp only [ct, if_false]
        refine ⟨q2, ?_, e2, fun tt k j hf => ?_⟩
        · try simp only
          rw [hd_74_2]
          simp (disch := omega) only [x_1, x_7_2_I, x_7_2_A, x_7_2_U, x_61, x_4_2, x_6_1, x_33, x_65, x_6_0, x_35_0, x_21, x_17, x_68, x_79_3_1_d0, x_79_3_1_d1, x_79_3_1_d2, x_79_3_1_d3, x_79_3_1_d4, x_60, x_79_4_7_d0, x_79_4_7_d1, x_79_4_7_d2, x_79_4_7_d3, x_79_4_7_d4, x_10_2_I, x_10_2_A, x_10_2_U, x_83, cb_ri, cb_rl, cb_rv, cb_th, cb_ite, ps_s, ps_n, u_74_0, u_74_43, u_74_44, u_74_47, u_74_53, n40, y7, bt, t1, e1, Int.reduceEq, Int.reduceLT, Int.reduceLE, reduceIte, Int.reduceAdd, Int.reduceSub, Int.reduceMul, Int.reduceNeg, Int.reduceToNat, Bool.false_eq_true, eq_self, if_pos, if_neg, ci, w32_id]
        · rw [e3 _ _ _ (fun z => hf (Or.inl z)), t2 _ _ _ (fun z => hf (Or.inr z))]; exact i2 tt k j hf
    | false =>
      rw [c, if_neg Bool.false_ne_true] at bt
      rw [if_neg Bool.false_ne_true]
      refine ⟨q, ?_, i1, i2⟩
      try simp only
      rw [hd_74_2]
      simp (disch := omega) only [x_1, x_7_2_I, x_7_2_A, x_7_2_U, x_61, x_4_2, x_6_1, x_33, x_65, x_6_0, x_35_0, x_21, x_17, x_68, x_79_3_1_d0, x_79_3_1_d1, x_79_3_1_d2, x_79_3_1_d3, x_79_3_1_d4, x_60, x_79_4_7_d0, x_79_4_7_d1, x_79_4_7_d2, x_79_4_7_d3, x_79_4_7_d4, x_10_2_I, x_10_2_A, x_10_2_U, x_83, cb_ri, cb_rl, cb_rv, cb_th, cb_ite, ps_s, ps_n, u_74_0, u_74_43, u_74_44, u_74_47, u_74_53, n40, y7, bt, Int.reduceEq, Int.reduceLT, Int.reduceLE, reduceIte, Int.reduceAdd, Int.reduceSub, Int.reduceMul, Int.reduceNeg, Int.reduceToNat, Bool.false_eq_true, eq_self, if_pos, if_neg, ci, w32_id]
  · rintro q ⟨i1, i2⟩
    have n40 := i1.2.1.1
    refine ⟨q, ?_, i1, i2⟩
    try simp only
    rw [hd_74_2]
    simp (disch := omega) only [x_1, x_7_2_I, x_7_2_A, x_7_2_U, x_61, x_4_2, x_6_1, x_33, x_65, x_6_0, x_35_0, x_21, x_17, x_68, x_79_3_1_d0, x_79_3_1_d1, x_79_3_1_d2, x_79_3_1_d3, x_79_3_1_d4, x_60, x_79_4_7_d0, x_79_4_7_d1, x_79_4_7_d2, x_79_4_7_d3, x_79_4_7_d4, x_10_2_I, x_10_2_A, x_10_2_U, x_83, cb_ri, cb_rl, cb_rv, cb_th, cb_ite, ps_s, ps_n, u_74_0, u_74_43, u_74_44, u_74_47, u_74_53, n40, Int.reduceEq, Int.reduceLT, Int.reduceLE, reduceIte, Int.reduceAdd, Int.reduceSub, Int.reduceMul, Int.reduceNeg, Int.reduceToNat, Bool.false_eq_true, eq_self, if_pos, if_neg]
theorem passBeat_c (lv s H N : Nat) (m : Nat → Int) (h : Hp) (R : RS h s m H N) (G : GM m H N) :
    ∃ h', cl (lv + 2) 75 [aA 7 s] h = rv h' ∧ RS h' s (pbM m) H N ∧ ∀ tt k j, ¬ stFr s tt k → h' tt k j = h tt k j := by
  have g5 := G.2.2.2.1
  have g6 := G.2.2.2.2.1
  have x5 := R.2.2.1.2.1
  have x6 := R.2.2.1.2.2.1
  rw [in_75]
  unfold pbM
  by_cases c : m 5 + 1 = 12
  · rw [if_pos c]
    refine ⟨hset (hset (hset h 144 s 0 (m 5 + 1)) 144 s 0 0) 145 s 0 (min 9999 (m 6 + 1)), ?_, ?_, fun tt k j hf => ?_⟩
    · simp (disch := omega) only [x_6_0, x_47_I, x_47_A, x_33, x_1, x_11, x_36, x_64, x_80_2_d0, x_80_2_d1, x_80_2_d2, x_80_2_d3, x_80_2_d4, x_61, x_83, cb_ri, cb_rl, cb_rv, cb_th, cb_ite, ps_s, ps_n, u_75_0, u_75_40, x5, hs_eq, hs_t, x6, min_c, w32_id, Int.reduceEq, Int.reduceLT, Int.reduceLE, reduceIte, Int.reduceAdd, Int.reduceSub, Int.reduceMul, Int.reduceNeg, Int.reduceToNat, Bool.false_eq_true, eq_self, if_pos, if_neg]
    · have r1 := RS_x (t := 144) (j := 5) (m 5 + 1) (by omega) R
      have r2 := RS_x (t := 144) (j := 5) 0 (by omega) r1
      rw [up_up] at r2
      exact RS_x (t := 145) (j := 6) _ (by omega) r2
    · unfold stFr stTag at hf
      rw [hs_o (by omega), hs_o (by omega), hs_o (by omega)]
  · rw [if_neg c]
    refine ⟨hset h 144 s 0 (m 5 + 1), ?_, RS_x (t := 144) (j := 5) _ (by omega) R, fun tt k j hf => ?_⟩
    · simp (disch := omega) only [x_6_0, x_47_I, x_47_A, x_33, x_1, x_11, x_36, x_64, x_80_2_d0, x_80_2_d1, x_80_2_d2, x_80_2_d3, x_80_2_d4, x_61, x_83, cb_ri, cb_rl, cb_rv, cb_th, cb_ite, ps_s, ps_n, u_75_0, u_75_40, x5, hs_eq, hs_t, x6, min_c, w32_id, Int.reduceEq, Int.reduceLT, Int.reduceLE, reduceIte, Int.reduceAdd, Int.reduceSub, Int.reduceMul, Int.reduceNeg, Int.reduceToNat, Bool.false_eq_true, eq_self, if_pos, if_neg]
    · unfold stFr stTag at hf
      rw [hs_o (by omega)]
def pyFr (s tt k : Nat) : Prop := stFr s tt k ∨ fwFr tt k
theorem playBeat_c (lv s H N : Nat) (M : Nat → Int) (L : List LN) (dr : Bool) (h : Hp) (R : RS h s M H N) (G : GM M H N) (W : LawW h 0 L) :
    ∃ h', cl (lv + 6) 71 [aA 9 0, aA 7 s, aI (boI dr)] h = ri ((cnt (lfP M L H N (M 5)) N : Nat) : Int) h' ∧ RS h' s (plM M L H N dr) H N ∧ ∀ tt k j, ¬ pyFr s tt k → h' tt k j = h tt k j := by
  have hN := G.2.1.2.1
  have x5 := R.2.2.1.2.1
  obtain ⟨h1, a1, a2, a3⟩ := find_c lv s H N (M 5) M h L R G W
  have R1 : RS h1 s M H N := RS_same (fun t ht => by funext i; exact a3 t s i (by unfold fwFr lwFr; unfold stTag at ht; omega)) R
  obtain ⟨h2, b1, b2, b3⟩ := playHeld_c (lv + 1) s H N M L (M 5) dr h1 R1 G a2
  obtain ⟨g2, k2⟩ := itr_ok (f := p1M (wayW M L H N (M 5)) dr) (K := N) p1_ok G N (Nat.le_refl _)
  obtain ⟨h3, c1, c2, c3⟩ := ease_c (lv + 3) s H N M _ L (M 5) h2 b2 g2 (fun i hi => by rw [b3 _ _ _ (by unfold stFr stTag; omega)]; exact a2.2.1 i hi)
  obtain ⟨g3, k3⟩ := itr_ok (f := p2M (wayW M L H N (M 5))) (K := H) p2_ok g2 H (Nat.le_refl _)
  have W3 : LawW h3 0 L := LawW_st (s := s) (fun tt kk j hf => by rw [c3 _ _ _ (fun z => hf (Or.inl z)), b3 _ _ _ (fun z => hf (Or.inl z))]) (LawW_q (fun tt kk j hq => a3 tt kk j (by unfold qT at hq; unfold fwFr lwFr; omega)) W)
  have y7 : h3 167 0 0 = ((bsN (lfP M L H N (M 5)) N : Nat) : Int) := by rw [c3 _ _ _ (by unfold stFr stTag; omega), b3 _ _ _ (by unfold stFr stTag; omega), a2.2.2.1, way_left]
  obtain ⟨h4, d1, d2, d3⟩ := leaveRest_c (lv + 1) s H N M _ L (lfP M L H N (M 5)) h3 c2 g3 W3 (KP_t k2 k3) y7
  obtain ⟨g4, k4⟩ := itr_ok (f := p3M (lfP M L H N (M 5)) (fun n => takB M L n (M (50 + 4 * n)))) (K := N) p3_ok g3 N (Nat.le_refl _)
  obtain ⟨h5, e1, e2, e3⟩ := passBeat_c (lv + 3) s H N _ h4 d2 g4
  have y75 : h5 167 0 0 = ((bsN (lfP M L H N (M 5)) N : Nat) : Int) := by rw [e3 _ _ _ (by unfold stFr stTag; omega), d3 _ _ _ (by unfold stFr stTag lwFr; omega)]; exact y7
  have bc := bitCount_c (lv + 4) (lfP M L H N (M 5)) N h5 hN
  refine ⟨h5, ?_, e2, fun tt k j hf => ?_⟩
  · rw [in_71]
    simp (disch := omega) only [x_6_0, x_35_0, x_6_1, x_33, x_79_3_10_d0, x_79_3_10_d1, x_79_3_10_d2, x_79_3_10_d3, x_79_3_10_d4, x_4_2, x_79_3_9_d0, x_79_3_9_d1, x_79_3_9_d2, x_79_3_9_d3, x_79_3_9_d4, x_79_2_9_d0, x_79_2_9_d1, x_79_2_9_d2, x_79_2_9_d3, x_79_2_9_d4, x_80_1_d0, x_80_1_d1, x_80_1_d2, x_80_1_d3, x_80_1_d4, x_82, cb_ri, cb_rl, cb_rv, cb_th, cb_ite, ps_s, ps_n, u_71_0, x5, a1, b1, c1, d1, e1, y75, bc]
  · unfold pyFr at hf
    rw [e3 _ _ _ (fun z => hf (Or.inl z)), d3 _ _ _ (fun z => hf (z.imp id (fun y => Or.inr y))), c3 _ _ _ (fun z => hf (Or.inl z)), b3 _ _ _ (fun z => hf (Or.inl z)), a3 _ _ _ (fun z => hf (Or.inr z))]
