/-! QUESTIONS OF HANDS AND NOTES: the hardest, the worst, spans, counts; the seed. -/
def hdF (S : Nat → Bool) (v : Nat → Int) : Nat → Int
  | 0 => -1
  | n + 1 => if (S n && (decide (hdF S v n = -1) || decide (v (hdF S v n).toNat < v n))) = true then (n : Int) else hdF S v n
def hdM (S : Nat → Bool) (v : Nat → Int) (n : Nat) : Int := if hdF S v n = -1 then -1 else v (hdF S v n).toNat
theorem hdF_b (S : Nat → Bool) (v : Nat → Int) : ∀ n, hdF S v n = -1 ∨ ∃ i : Nat, i < n ∧ hdF S v n = (i : Int) := by
  intro n
  induction n with
  | zero => exact Or.inl rfl
  | succ n ih =>
    simp only [hdF]
    split
    · exact Or.inr ⟨n, by omega, rfl⟩
    · rcases ih with e | ⟨i, h1, h2⟩
      · exact Or.inl e
      · exact Or.inr ⟨i, by omega, h2⟩
theorem hd_s {S : Nat → Bool} {v : Nat → Int} {n : Nat} (hv : 0 ≤ v n) : (S n = true ∧ hdM S v n < v n → hdF S v (n + 1) = (n : Int) ∧ hdM S v (n + 1) = v n) ∧ (¬ (S n = true ∧ hdM S v n < v n) → hdF S v (n + 1) = hdF S v n ∧ hdM S v (n + 1) = hdM S v n) := by
  have key : (S n && (decide (hdF S v n = -1) || decide (v (hdF S v n).toNat < v n))) = true ↔ S n = true ∧ hdM S v n < v n := by
    rw [Bool.and_eq_true, Bool.or_eq_true, decide_eq_true_eq, decide_eq_true_eq]
    unfold hdM
    by_cases c : hdF S v n = -1
    · rw [if_pos c]; constructor
      · intro z; exact ⟨z.1, by omega⟩
      · intro z; exact ⟨z.1, Or.inl c⟩
    · rw [if_neg c]; constructor
      · intro z; exact ⟨z.1, z.2.resolve_left c⟩
      · intro z; exact ⟨z.1, Or.inr z.2⟩
  have e : hdF S v (n + 1) = if (S n && (decide (hdF S v n = -1) || decide (v (hdF S v n).toNat < v n))) = true then (n : Int) else hdF S v n := rfl
  constructor
  · intro z
    rw [if_pos (key.mpr z)] at e
    refine ⟨e, ?_⟩
    unfold hdM
    rw [e, if_neg (by omega), tn]
  · intro z
    rw [if_neg (fun y => z (key.mp y))] at e
    refine ⟨e, ?_⟩
    unfold hdM
    rw [e]
theorem ag_hardest (lc lr H N : Nat) (h : Hp) (I : INV h H N) : AGp (fun h => cl (lc + 80) 135 [aA 11 0] h) (fun h => cl (lr + 80) 298 [aA 12 0] h) h := by
  have hN := I.1.2.1.2.1.2.1
  have h40 := I.1.1.2.1.1
  have gv : ∀ n, n < N → 0 ≤ h 187 0 (50 + 4 * n + 2) := fun n hn => (I.1.2.1.2.1.2.2.1 n hn).2.2.1.1
  refine AGp_q I (v := hdF (stB (h 187 0)) (fun n => h 187 0 (50 + 4 * n + 2)) N) ⟨h, ?_, Sm_r _ _⟩ (fun g s J => ⟨hset g 186 0 0 0, ?_, rsc_186 g 0⟩)
  · show cl (lc + 80) _ _ _ = _
    rw [in_135]
    simp (disch := omega) only [x_1, x_7_1_I, x_7_1_A, x_7_1_U, x_7_2_I, x_7_2_A, x_7_2_U, x_7_3_I, x_7_3_A, x_7_3_U, x_61, x_4_3, x_6_0, x_35_0, x_33, x_65, x_79_2_7_d0, x_79_2_7_d1, x_79_2_7_d2, x_79_2_7_d3, x_79_2_7_d4, x_68, x_34, x_38_136, x_4_2, x_67, x_10_3_I, x_10_3_A, x_10_3_U, x_60, x_4_1, x_82, cb_ri, cb_rl, cb_rv, cb_th, cb_ite, ps_s, ps_n, u_135_0, u_135_53, u_135_59]
    refine loop_up (F := fun n => run (lc + 79) 135 6 [aA 11 0, aI (hdF (stB (h 187 0)) (fun n => h 187 0 (50 + 4 * n + 2)) n), aI (hdM (stB (h 187 0)) (fun n => h 187 0 (50 + 4 * n + 2)) n), aI (n : Int)] [] h) (N := N) ?_ ?_ 0 (by omega)
    · intro n hn
      have st := isStanding_c (lc + 78) 0 N n (h 187 0) h I.1.1.2.1 hn
      have p2 := (I.1.1.2.1.2.2.2 n hn).2.2
      obtain ⟨s1, s2⟩ := hd_s (S := stB (h 187 0)) (v := fun n => h 187 0 (50 + 4 * n + 2)) (n := n) (gv n hn)
      show run _ _ _ _ _ _ = run _ _ _ _ _ _
      rw [hd_135_6]
      by_cases c1 : stB (h 187 0) n = true
      · rw [if_pos c1] at st
        by_cases c2 : hdM (stB (h 187 0)) (fun n => h 187 0 (50 + 4 * n + 2)) n < h 187 0 (50 + 4 * n + 2)
        · obtain ⟨e1, e2⟩ := s1 ⟨c1, c2⟩
          rw [e1, e2]
          simp (disch := omega) only [x_1, x_7_1_I, x_7_1_A, x_7_1_U, x_7_2_I, x_7_2_A, x_7_2_U, x_7_3_I, x_7_3_A, x_7_3_U, x_61, x_4_3, x_6_0, x_35_0, x_33, x_65, x_79_2_7_d0, x_79_2_7_d1, x_79_2_7_d2, x_79_2_7_d3, x_79_2_7_d4, x_68, x_34, x_38_136, x_4_2, x_67, x_10_3_I, x_10_3_A, x_10_3_U, x_60, x_4_1, x_82, cb_ri, cb_rl, cb_rv, cb_th, cb_ite, ps_s, ps_n, u_135_0, u_135_53, u_135_59, h40, st, tn, p2, c2, Int.reduceEq, Int.reduceLT, Int.reduceLE, reduceIte, Int.reduceAdd, Int.reduceSub, Int.reduceMul, Int.reduceNeg, Int.reduceToNat, Bool.false_eq_true, eq_self, if_pos, if_neg, ci, w32_id]
        · obtain ⟨e1, e2⟩ := s2 (fun z => c2 z.2)
          rw [e1, e2]
          simp (disch := omega) only [x_1, x_7_1_I, x_7_1_A, x_7_1_U, x_7_2_I, x_7_2_A, x_7_2_U, x_7_3_I, x_7_3_A, x_7_3_U, x_61, x_4_3, x_6_0, x_35_0, x_33, x_65, x_79_2_7_d0, x_79_2_7_d1, x_79_2_7_d2, x_79_2_7_d3, x_79_2_7_d4, x_68, x_34, x_38_136, x_4_2, x_67, x_10_3_I, x_10_3_A, x_10_3_U, x_60, x_4_1, x_82, cb_ri, cb_rl, cb_rv, cb_th, cb_ite, ps_s, ps_n, u_135_0, u_135_53, u_135_59, h40, st, tn, p2, c2, Int.reduceEq, Int.reduceLT, Int.reduceLE, reduceIte, Int.reduceAdd, Int.reduceSub, Int.reduceMul, Int.reduceNeg, Int.reduceToNat, Bool.false_eq_true, eq_self, if_pos, if_neg, ci, w32_id]
      · rw [if_neg c1] at st
        obtain ⟨e1, e2⟩ := s2 (fun z => c1 z.1)
        rw [e1, e2]
        simp (disch := omega) only [x_1, x_7_1_I, x_7_1_A, x_7_1_U, x_7_2_I, x_7_2_A, x_7_2_U, x_7_3_I, x_7_3_A, x_7_3_U, x_61, x_4_3, x_6_0, x_35_0, x_33, x_65, x_79_2_7_d0, x_79_2_7_d1, x_79_2_7_d2, x_79_2_7_d3, x_79_2_7_d4, x_68, x_34, x_38_136, x_4_2, x_67, x_10_3_I, x_10_3_A, x_10_3_U, x_60, x_4_1, x_82, cb_ri, cb_rl, cb_rv, cb_th, cb_ite, ps_s, ps_n, u_135_0, u_135_53, u_135_59, h40, st, Int.reduceEq, Int.reduceLT, Int.reduceLE, reduceIte, Int.reduceAdd, Int.reduceSub, Int.reduceMul, Int.reduceNeg, Int.reduceToNat, Bool.false_eq_true, eq_self, if_pos, if_neg, ci, w32_id]
    · show run _ _ _ _ _ _ = _
      rw [hd_135_6]
      simp (disch := omega) only [x_1, x_7_1_I, x_7_1_A, x_7_1_U, x_7_2_I, x_7_2_A, x_7_2_U, x_7_3_I, x_7_3_A, x_7_3_U, x_61, x_4_3, x_6_0, x_35_0, x_33, x_65, x_79_2_7_d0, x_79_2_7_d1, x_79_2_7_d2, x_79_2_7_d3, x_79_2_7_d4, x_68, x_34, x_38_136, x_4_2, x_67, x_10_3_I, x_10_3_A, x_10_3_U, x_60, x_4_1, x_82, cb_ri, cb_rl, cb_rv, cb_th, cb_ite, ps_s, ps_n, u_135_0, u_135_53, u_135_59, h40, Int.reduceEq, Int.reduceLT, Int.reduceLE, reduceIte, Int.reduceAdd, Int.reduceSub, Int.reduceMul, Int.reduceNeg, Int.reduceToNat, Bool.false_eq_true, eq_self, if_pos, if_neg]
  · show cl (lr + 80) _ _ _ = _
    have g7 : hset g 186 0 0 0 187 0 = h 187 0 := by rw [h186_m, Sm_187 s scr_187]
    have m4 : hset g 186 0 0 0 187 0 4 = (N : Int) := by rw [g7]; exact I.1.2.1.2.1.1
    rw [in_298]
    simp (disch := omega) only [x_6_0, x_1, x_36, x_7_1_I, x_7_1_A, x_7_1_U, x_7_2_I, x_7_2_A, x_7_2_U, x_61, x_4_2, x_34, x_38_187, x_65, x_79_2_12_d0, x_79_2_12_d1, x_79_2_12_d2, x_79_2_12_d3, x_79_2_12_d4, x_68, x_4_1, x_62, x_79_3_12_d0, x_79_3_12_d1, x_79_3_12_d2, x_79_3_12_d3, x_79_3_12_d4, x_67, x_10_2_I, x_10_2_A, x_10_2_U, x_60, x_82, cb_ri, cb_rl, cb_rv, cb_th, cb_ite, ps_s, ps_n, u_298_0, u_298_47, u_298_49, u_298_55]
    refine loop_up (F := fun n => run (lr + 79) 298 9 [aA 12 0, aI (hdF (stB (h 187 0)) (fun n => h 187 0 (50 + 4 * n + 2)) n), aI (n : Int)] [] (hset g 186 0 0 0)) (N := N) ?_ ?_ 0 (by omega)
    · intro n hn
      have st := stands_c (lr + 77) n (hset g 186 0 0 0) (by omega)
      rw [g7] at st
      have o2 : ∀ i : Nat, i < 14 → cl (lr + 79) 175 [aA 12 0, aI (i : Int), aI 2] (hset g 186 0 0 0) = ri (h 187 0 (50 + 4 * i + 2)) (hset g 186 0 0 0) := fun i hi => by have := ofNote_c (lr + 78) i 2 (hset g 186 0 0 0) hi (by omega); rw [g7] at this; exact this
      have on := o2 n (by omega)
      show run _ _ _ _ _ _ = run _ _ _ _ _ _
      have e : hdF (stB (h 187 0)) (fun n => h 187 0 (50 + 4 * n + 2)) (n + 1) = if (stB (h 187 0) n && (decide (hdF (stB (h 187 0)) (fun n => h 187 0 (50 + 4 * n + 2)) n = -1) || decide (h 187 0 (50 + 4 * (hdF (stB (h 187 0)) (fun n => h 187 0 (50 + 4 * n + 2)) n).toNat + 2) < h 187 0 (50 + 4 * n + 2)))) = true then (n : Int) else hdF (stB (h 187 0)) (fun n => h 187 0 (50 + 4 * n + 2)) n := rfl
      rw [e, hd_298_9]
      by_cases c1 : stB (h 187 0) n = true
      · rw [if_pos c1] at st
        rw [c1, Bool.true_and]
        rcases hdF_b (stB (h 187 0)) (fun n => h 187 0 (50 + 4 * n + 2)) n with d | ⟨i, hi, d⟩
        · rw [d, if_pos (by simp)]
          simp (disch := omega) only [x_6_0, x_1, x_36, x_7_1_I, x_7_1_A, x_7_1_U, x_7_2_I, x_7_2_A, x_7_2_U, x_61, x_4_2, x_34, x_38_187, x_65, x_79_2_12_d0, x_79_2_12_d1, x_79_2_12_d2, x_79_2_12_d3, x_79_2_12_d4, x_68, x_4_1, x_62, x_79_3_12_d0, x_79_3_12_d1, x_79_3_12_d2, x_79_3_12_d3, x_79_3_12_d4, x_67, x_10_2_I, x_10_2_A, x_10_2_U, x_60, x_82, cb_ri, cb_rl, cb_rv, cb_th, cb_ite, ps_s, ps_n, u_298_0, u_298_47, u_298_49, u_298_55, m4, st, Int.reduceEq, Int.reduceLT, Int.reduceLE, reduceIte, Int.reduceAdd, Int.reduceSub, Int.reduceMul, Int.reduceNeg, Int.reduceToNat, Bool.false_eq_true, eq_self, if_pos, if_neg, ci, w32_id]
        · have oi := o2 i (by omega)
          have ni : ¬ (i : Int) = -1 := by omega
          rw [d, tn]
          by_cases c2 : h 187 0 (50 + 4 * i + 2) < h 187 0 (50 + 4 * n + 2)
          · rw [if_pos (by simp [c2])]
            simp (disch := omega) only [x_6_0, x_1, x_36, x_7_1_I, x_7_1_A, x_7_1_U, x_7_2_I, x_7_2_A, x_7_2_U, x_61, x_4_2, x_34, x_38_187, x_65, x_79_2_12_d0, x_79_2_12_d1, x_79_2_12_d2, x_79_2_12_d3, x_79_2_12_d4, x_68, x_4_1, x_62, x_79_3_12_d0, x_79_3_12_d1, x_79_3_12_d2, x_79_3_12_d3, x_79_3_12_d4, x_67, x_10_2_I, x_10_2_A, x_10_2_U, x_60, x_82, cb_ri, cb_rl, cb_rv, cb_th, cb_ite, ps_s, ps_n, u_298_0, u_298_47, u_298_49, u_298_55, m4, st, ni, oi, on, c2, Int.reduceEq, Int.reduceLT, Int.reduceLE, reduceIte, Int.reduceAdd, Int.reduceSub, Int.reduceMul, Int.reduceNeg, Int.reduceToNat, Bool.false_eq_true, eq_self, if_pos, if_neg, ci, w32_id]
          · rw [if_neg (by simp [c2])]
            simp (disch := omega) only [x_6_0, x_1, x_36, x_7_1_I, x_7_1_A, x_7_1_U, x_7_2_I, x_7_2_A, x_7_2_U, x_61, x_4_2, x_34, x_38_187, x_65, x_79_2_12_d0, x_79_2_12_d1, x_79_2_12_d2, x_79_2_12_d3, x_79_2_12_d4, x_68, x_4_1, x_62, x_79_3_12_d0, x_79_3_12_d1, x_79_3_12_d2, x_79_3_12_d3, x_79_3_12_d4, x_67, x_10_2_I, x_10_2_A, x_10_2_U, x_60, x_82, cb_ri, cb_rl, cb_rv, cb_th, cb_ite, ps_s, ps_n, u_298_0, u_298_47, u_298_49, u_298_55, m4, st, ni, oi, on, c2, Int.reduceEq, Int.reduceLT, Int.reduceLE, reduceIte, Int.reduceAdd, Int.reduceSub, Int.reduceMul, Int.reduceNeg, Int.reduceToNat, Bool.false_eq_true, eq_self, if_pos, if_neg, ci, w32_id]
      · rw [if_neg c1] at st
        rw [Bool.eq_false_iff.mpr c1, Bool.false_and, if_neg Bool.false_ne_true]
        simp (disch := omega) only [x_6_0, x_1, x_36, x_7_1_I, x_7_1_A, x_7_1_U, x_7_2_I, x_7_2_A, x_7_2_U, x_61, x_4_2, x_34, x_38_187, x_65, x_79_2_12_d0, x_79_2_12_d1, x_79_2_12_d2, x_79_2_12_d3, x_79_2_12_d4, x_68, x_4_1, x_62, x_79_3_12_d0, x_79_3_12_d1, x_79_3_12_d2, x_79_3_12_d3, x_79_3_12_d4, x_67, x_10_2_I, x_10_2_A, x_10_2_U, x_60, x_82, cb_ri, cb_rl, cb_rv, cb_th, cb_ite, ps_s, ps_n, u_298_0, u_298_47, u_298_49, u_298_55, m4, st, Int.reduceEq, Int.reduceLT, Int.reduceLE, reduceIte, Int.reduceAdd, Int.reduceSub, Int.reduceMul, Int.reduceNeg, Int.reduceToNat, Bool.false_eq_true, eq_self, if_pos, if_neg, ci, w32_id]
    · show run _ _ _ _ _ _ = _
      rw [hd_298_9]
      simp (disch := omega) only [x_6_0, x_1, x_36, x_7_1_I, x_7_1_A, x_7_1_U, x_7_2_I, x_7_2_A, x_7_2_U, x_61, x_4_2, x_34, x_38_187, x_65, x_79_2_12_d0, x_79_2_12_d1, x_79_2_12_d2, x_79_2_12_d3, x_79_2_12_d4, x_68, x_4_1, x_62, x_79_3_12_d0, x_79_3_12_d1, x_79_3_12_d2, x_79_3_12_d3, x_79_3_12_d4, x_67, x_10_2_I, x_10_2_A, x_10_2_U, x_60, x_82, cb_ri, cb_rl, cb_rv, cb_th, cb_ite, ps_s, ps_n, u_298_0, u_298_47, u_298_49, u_298_55, m4, Int.reduceEq, Int.reduceLT, Int.reduceLE, reduceIte, Int.reduceAdd, Int.reduceSub, Int.reduceMul, Int.reduceNeg, Int.reduceToNat, Bool.false_eq_true, eq_self, if_pos, if_neg]
theorem ag_worst (lc lr H N : Nat) (p : Int) (h : Hp) (I : INV h H N) : AGt t2 (fun h => cl (lc + 80) 130 [aA 11 0, aI p] h) (fun h => cl (lr + 80) 291 [aA 12 0, aI p] h) h := by
  have hH := I.1.2.1.1.2.1
  have h39 := I.1.1.1.1
  have cp := checkPlayer_c (lc + 78) p h
  by_cases c : 0 ≤ p ∧ p < 3
  · rw [if_pos c] at cp
    have gv : ∀ n, n < H → 0 ≤ h 187 0 (14 + 6 * n + 4) := fun n hn => (I.1.2.1.1.2.2 n hn).2.2.2.2.1.1
    refine AGt_q I (v := hdF (fun x => decide (h 187 0 (14 + 6 * x) = p)) (fun n => h 187 0 (14 + 6 * n + 4)) H) ⟨h, ?_, Sm_r _ _⟩ (fun g s J => ⟨hset g 186 0 0 0, ?_, hs_eq _ _ _ _ _, rsc_186 g 0⟩)
    · show cl (lc + 80) _ _ _ = _
      rw [in_130]
      simp (disch := omega) only [x_4_1, x_80_1_d0, x_80_1_d1, x_80_1_d2, x_80_1_d3, x_80_1_d4, x_1, x_7_2_I, x_7_2_A, x_7_2_U, x_7_3_I, x_7_3_A, x_7_3_U, x_7_4_I, x_7_4_A, x_7_4_U, x_61, x_4_4, x_6_0, x_35_0, x_33, x_65, x_34, x_38_129, x_38_133, x_63, x_4_3, x_67, x_10_4_I, x_10_4_A, x_10_4_U, x_60, x_4_2, x_82, cb_ri, cb_rl, cb_rv, cb_th, cb_ite, ps_s, ps_n, u_130_0, u_130_65, u_130_71, cp]
      refine loop_up (F := fun n => run (lc + 79) 130 11 [aA 11 0, aI p, aI (hdF (fun x => decide (h 187 0 (14 + 6 * x) = p)) (fun n => h 187 0 (14 + 6 * n + 4)) n), aI (hdM (fun x => decide (h 187 0 (14 + 6 * x) = p)) (fun n => h 187 0 (14 + 6 * n + 4)) n), aI (n : Int)] [] h) (N := H) ?_ ?_ 0 (by omega)
      · intro n hn
        obtain ⟨p0, -, -, -, p4⟩ := I.1.1.1.2.2.2 n hn
        obtain ⟨s1, s2⟩ := hd_s (S := fun x => decide (h 187 0 (14 + 6 * x) = p)) (v := fun n => h 187 0 (14 + 6 * n + 4)) (n := n) (gv n hn)
        show run _ _ _ _ _ _ = run _ _ _ _ _ _
        rw [hd_130_11]
        by_cases c1 : h 187 0 (14 + 6 * n) = p
        · by_cases c2 : hdM (fun x => decide (h 187 0 (14 + 6 * x) = p)) (fun n => h 187 0 (14 + 6 * n + 4)) n < h 187 0 (14 + 6 * n + 4)
          · obtain ⟨e1, e2⟩ := s1 ⟨decide_eq_true c1, c2⟩
            rw [e1, e2]
            simp (disch := omega) only [x_4_1, x_80_1_d0, x_80_1_d1, x_80_1_d2, x_80_1_d3, x_80_1_d4, x_1, x_7_2_I, x_7_2_A, x_7_2_U, x_7_3_I, x_7_3_A, x_7_3_U, x_7_4_I, x_7_4_A, x_7_4_U, x_61, x_4_4, x_6_0, x_35_0, x_33, x_65, x_34, x_38_129, x_38_133, x_63, x_4_3, x_67, x_10_4_I, x_10_4_A, x_10_4_U, x_60, x_4_2, x_82, cb_ri, cb_rl, cb_rv, cb_th, cb_ite, ps_s, ps_n, u_130_0, u_130_65, u_130_71, h39, tn, p0, p4, c1, c2, Int.reduceEq, Int.reduceLT, Int.reduceLE, reduceIte, Int.reduceAdd, Int.reduceSub, Int.reduceMul, Int.reduceNeg, Int.reduceToNat, Bool.false_eq_true, eq_self, if_pos, if_neg, ci, w32_id]
          · obtain ⟨e1, e2⟩ := s2 (fun z => c2 z.2)
            rw [e1, e2]
            simp (disch := omega) only [x_4_1, x_80_1_d0, x_80_1_d1, x_80_1_d2, x_80_1_d3, x_80_1_d4, x_1, x_7_2_I, x_7_2_A, x_7_2_U, x_7_3_I, x_7_3_A, x_7_3_U, x_7_4_I, x_7_4_A, x_7_4_U, x_61, x_4_4, x_6_0, x_35_0, x_33, x_65, x_34, x_38_129, x_38_133, x_63, x_4_3, x_67, x_10_4_I, x_10_4_A, x_10_4_U, x_60, x_4_2, x_82, cb_ri, cb_rl, cb_rv, cb_th, cb_ite, ps_s, ps_n, u_130_0, u_130_65, u_130_71, h39, tn, p0, p4, c1, c2, Int.reduceEq, Int.reduceLT, Int.reduceLE, reduceIte, Int.reduceAdd, Int.reduceSub, Int.reduceMul, Int.reduceNeg, Int.reduceToNat, Bool.false_eq_true, eq_self, if_pos, if_neg, ci, w32_id]
        · obtain ⟨e1, e2⟩ := s2 (fun z => c1 (of_decide_eq_true z.1))
          rw [e1, e2]
          simp (disch := omega) only [x_4_1, x_80_1_d0, x_80_1_d1, x_80_1_d2, x_80_1_d3, x_80_1_d4, x_1, x_7_2_I, x_7_2_A, x_7_2_U, x_7_3_I, x_7_3_A, x_7_3_U, x_7_4_I, x_7_4_A, x_7_4_U, x_61, x_4_4, x_6_0, x_35_0, x_33, x_65, x_34, x_38_129, x_38_133, x_63, x_4_3, x_67, x_10_4_I, x_10_4_A, x_10_4_U, x_60, x_4_2, x_82, cb_ri, cb_rl, cb_rv, cb_th, cb_ite, ps_s, ps_n, u_130_0, u_130_65, u_130_71, h39, tn, p0, c1, Int.reduceEq, Int.reduceLT, Int.reduceLE, reduceIte, Int.reduceAdd, Int.reduceSub, Int.reduceMul, Int.reduceNeg, Int.reduceToNat, Bool.false_eq_true, eq_self, if_pos, if_neg, ci, w32_id]
      · show run _ _ _ _ _ _ = _
        rw [hd_130_11]
        simp (disch := omega) only [x_4_1, x_80_1_d0, x_80_1_d1, x_80_1_d2, x_80_1_d3, x_80_1_d4, x_1, x_7_2_I, x_7_2_A, x_7_2_U, x_7_3_I, x_7_3_A, x_7_3_U, x_7_4_I, x_7_4_A, x_7_4_U, x_61, x_4_4, x_6_0, x_35_0, x_33, x_65, x_34, x_38_129, x_38_133, x_63, x_4_3, x_67, x_10_4_I, x_10_4_A, x_10_4_U, x_60, x_4_2, x_82, cb_ri, cb_rl, cb_rv, cb_th, cb_ite, ps_s, ps_n, u_130_0, u_130_65, u_130_71, h39, Int.reduceEq, Int.reduceLT, Int.reduceLE, reduceIte, Int.reduceAdd, Int.reduceSub, Int.reduceMul, Int.reduceNeg, Int.reduceToNat, Bool.false_eq_true, eq_self, if_pos, if_neg]
    · show cl (lr + 80) _ _ _ = _
      have g7 : hset g 186 0 0 0 187 0 = h 187 0 := by rw [h186_m, Sm_187 s scr_187]
      have m3 : hset g 186 0 0 0 187 0 3 = (H : Int) := by rw [g7]; exact I.1.2.1.1.1
      have ip := isPlayer_c (lr + 77) p g
      rw [if_pos c] at ip
      rw [in_291]
      simp (disch := omega) only [x_6_0, x_4_1, x_80_1_d0, x_80_1_d1, x_80_1_d2, x_80_1_d3, x_80_1_d4, x_69, x_1, x_60, x_61, x_36, x_33, x_73, x_82, x_7_2_I, x_7_2_A, x_7_2_U, x_7_3_I, x_7_3_A, x_7_3_U, x_4_3, x_34, x_38_187, x_65, x_79_3_12_d0, x_79_3_12_d1, x_79_3_12_d2, x_79_3_12_d3, x_79_3_12_d4, x_63, x_4_2, x_62, x_67, x_10_3_I, x_10_3_A, x_10_3_U, cb_ri, cb_rl, cb_rv, cb_th, cb_ite, ps_s, ps_n, u_291_0, u_291_12, u_291_13, u_291_25, u_291_69, u_291_71, u_291_77, ip, hs_eq, Int.reduceEq, Int.reduceLT, Int.reduceLE, reduceIte, Int.reduceAdd, Int.reduceSub, Int.reduceMul, Int.reduceNeg, Int.reduceToNat, Bool.false_eq_true, eq_self, if_pos, if_neg]
      refine loop_up (F := fun n => run (lr + 79) 291 29 [aA 12 0, aI p, aI (hdF (fun x => decide (h 187 0 (14 + 6 * x) = p)) (fun n => h 187 0 (14 + 6 * n + 4)) n), aI (n : Int)] [] (hset g 186 0 0 0)) (N := H) ?_ ?_ 0 (by omega)
      · intro n hn
        have it : ∀ x f : Nat, x < 7 → f < 6 → cl (lr + 79) 173 [aA 12 0, aI (x : Int), aI (f : Int)] (hset g 186 0 0 0) = ri (h 187 0 (14 + 6 * x + f)) (hset g 186 0 0 0) := fun x f hx hf => by have := its_c (lr + 78) x f (hset g 186 0 0 0) hx hf; rw [g7] at this; exact this
        have n0 : cl (lr + 79) 173 [aA 12 0, aI (n : Int), aI 0] (hset g 186 0 0 0) = ri (h 187 0 (14 + 6 * n)) (hset g 186 0 0 0) := it n 0 (by omega) (by omega)
        have n4 : cl (lr + 79) 173 [aA 12 0, aI (n : Int), aI 4] (hset g 186 0 0 0) = ri (h 187 0 (14 + 6 * n + 4)) (hset g 186 0 0 0) := it n 4 (by omega) (by omega)
        show run _ _ _ _ _ _ = run _ _ _ _ _ _
        have e : hdF (fun x => decide (h 187 0 (14 + 6 * x) = p)) (fun n => h 187 0 (14 + 6 * n + 4)) (n + 1) = if (decide (h 187 0 (14 + 6 * n) = p) && (decide (hdF (fun x => decide (h 187 0 (14 + 6 * x) = p)) (fun n => h 187 0 (14 + 6 * n + 4)) n = -1) || decide (h 187 0 (14 + 6 * (hdF (fun x => decide (h 187 0 (14 + 6 * x) = p)) (fun n => h 187 0 (14 + 6 * n + 4)) n).toNat + 4) < h 187 0 (14 + 6 * n + 4)))) = true then (n : Int) else hdF (fun x => decide (h 187 0 (14 + 6 * x) = p)) (fun n => h 187 0 (14 + 6 * n + 4)) n := rfl
        rw [e, hd_291_29]
        by_cases c1 : h 187 0 (14 + 6 * n) = p
        · rw [decide_eq_true c1, Bool.true_and]
          rcases hdF_b (fun x => decide (h 187 0 (14 + 6 * x) = p)) (fun n => h 187 0 (14 + 6 * n + 4)) n with d | ⟨i, hi, d⟩
          · rw [d, if_pos (by simp)]
            simp (disch := omega) only [x_6_0, x_4_1, x_80_1_d0, x_80_1_d1, x_80_1_d2, x_80_1_d3, x_80_1_d4, x_69, x_1, x_60, x_61, x_36, x_33, x_73, x_82, x_7_2_I, x_7_2_A, x_7_2_U, x_7_3_I, x_7_3_A, x_7_3_U, x_4_3, x_34, x_38_187, x_65, x_79_3_12_d0, x_79_3_12_d1, x_79_3_12_d2, x_79_3_12_d3, x_79_3_12_d4, x_63, x_4_2, x_62, x_67, x_10_3_I, x_10_3_A, x_10_3_U, cb_ri, cb_rl, cb_rv, cb_th, cb_ite, ps_s, ps_n, u_291_0, u_291_12, u_291_13, u_291_25, u_291_69, u_291_71, u_291_77, m3, n0, c1, Int.reduceEq, Int.reduceLT, Int.reduceLE, reduceIte, Int.reduceAdd, Int.reduceSub, Int.reduceMul, Int.reduceNeg, Int.reduceToNat, Bool.false_eq_true, eq_self, if_pos, if_neg, ci, w32_id]
          · have i4 : cl (lr + 79) 173 [aA 12 0, aI (i : Int), aI 4] (hset g 186 0 0 0) = ri (h 187 0 (14 + 6 * i + 4)) (hset g 186 0 0 0) := it i 4 (by omega) (by omega)
            have ni : ¬ (i : Int) = -1 := by omega
            rw [d, tn]
            by_cases c2 : h 187 0 (14 + 6 * i + 4) < h 187 0 (14 + 6 * n + 4)
            · rw [if_pos (by simp [c2])]
              simp (disch := omega) only [x_6_0, x_4_1, x_80_1_d0, x_80_1_d1, x_80_1_d2, x_80_1_d3, x_80_1_d4, x_69, x_1, x_60, x_61, x_36, x_33, x_73, x_82, x_7_2_I, x_7_2_A, x_7_2_U, x_7_3_I, x_7_3_A, x_7_3_U, x_4_3, x_34, x_38_187, x_65, x_79_3_12_d0, x_79_3_12_d1, x_79_3_12_d2, x_79_3_12_d3, x_79_3_12_d4, x_63, x_4_2, x_62, x_67, x_10_3_I, x_10_3_A, x_10_3_U, cb_ri, cb_rl, cb_rv, cb_th, cb_ite, ps_s, ps_n, u_291_0, u_291_12, u_291_13, u_291_25, u_291_69, u_291_71, u_291_77, m3, n0, c1, ni, i4, n4, c2, Int.reduceEq, Int.reduceLT, Int.reduceLE, reduceIte, Int.reduceAdd, Int.reduceSub, Int.reduceMul, Int.reduceNeg, Int.reduceToNat, Bool.false_eq_true, eq_self, if_pos, if_neg, ci, w32_id]
            · rw [if_neg (by simp [c2])]
              simp (disch := omega) only [x_6_0, x_4_1, x_80_1_d0, x_80_1_d1, x_80_1_d2, x_80_1_d3, x_80_1_d4, x_69, x_1, x_60, x_61, x_36, x_33, x_73, x_82, x_7_2_I, x_7_2_A, x_7_2_U, x_7_3_I, x_7_3_A, x_7_3_U, x_4_3, x_34, x_38_187, x_65, x_79_3_12_d0, x_79_3_12_d1, x_79_3_12_d2, x_79_3_12_d3, x_79_3_12_d4, x_63, x_4_2, x_62, x_67, x_10_3_I, x_10_3_A, x_10_3_U, cb_ri, cb_rl, cb_rv, cb_th, cb_ite, ps_s, ps_n, u_291_0, u_291_12, u_291_13, u_291_25, u_291_69, u_291_71, u_291_77, m3, n0, c1, ni, i4, n4, c2, Int.reduceEq, Int.reduceLT, Int.reduceLE, reduceIte, Int.reduceAdd, Int.reduceSub, Int.reduceMul, Int.reduceNeg, Int.reduceToNat, Bool.false_eq_true, eq_self, if_pos, if_neg, ci, w32_id]
        · rw [decide_eq_false c1, Bool.false_and, if_neg Bool.false_ne_true]
          simp (disch := omega) only [x_6_0, x_4_1, x_80_1_d0, x_80_1_d1, x_80_1_d2, x_80_1_d3, x_80_1_d4, x_69, x_1, x_60, x_61, x_36, x_33, x_73, x_82, x_7_2_I, x_7_2_A, x_7_2_U, x_7_3_I, x_7_3_A, x_7_3_U, x_4_3, x_34, x_38_187, x_65, x_79_3_12_d0, x_79_3_12_d1, x_79_3_12_d2, x_79_3_12_d3, x_79_3_12_d4, x_63, x_4_2, x_62, x_67, x_10_3_I, x_10_3_A, x_10_3_U, cb_ri, cb_rl, cb_rv, cb_th, cb_ite, ps_s, ps_n, u_291_0, u_291_12, u_291_13, u_291_25, u_291_69, u_291_71, u_291_77, m3, n0, c1, Int.reduceEq, Int.reduceLT, Int.reduceLE, reduceIte, Int.reduceAdd, Int.reduceSub, Int.reduceMul, Int.reduceNeg, Int.reduceToNat, Bool.false_eq_true, eq_self, if_pos, if_neg, ci, w32_id]
      · show run _ _ _ _ _ _ = _
        rw [hd_291_29]
        simp (disch := omega) only [x_6_0, x_4_1, x_80_1_d0, x_80_1_d1, x_80_1_d2, x_80_1_d3, x_80_1_d4, x_69, x_1, x_60, x_61, x_36, x_33, x_73, x_82, x_7_2_I, x_7_2_A, x_7_2_U, x_7_3_I, x_7_3_A, x_7_3_U, x_4_3, x_34, x_38_187, x_65, x_79_3_12_d0, x_79_3_12_d1, x_79_3_12_d2, x_79_3_12_d3, x_79_3_12_d4, x_63, x_4_2, x_62, x_67, x_10_3_I, x_10_3_A, x_10_3_U, cb_ri, cb_rl, cb_rv, cb_th, cb_ite, ps_s, ps_n, u_291_0, u_291_12, u_291_13, u_291_25, u_291_69, u_291_71, u_291_77, m3, Int.reduceEq, Int.reduceLT, Int.reduceLE, reduceIte, Int.reduceAdd, Int.reduceSub, Int.reduceMul, Int.reduceNeg, Int.reduceToNat, Bool.false_eq_true, eq_self, if_pos, if_neg]
  · rw [if_neg c] at cp
    refine AGt_e I 2 (by decide) ⟨h, ?_, Sm_r _ _⟩ (fun g s J => ⟨0, hset g 186 0 0 1, ?_, hs_eq _ _ _ _ _, rsc_186 g 1⟩)
    · show cl (lc + 80) _ _ _ = _
      rw [in_130]
      simp (disch := omega) only [x_4_1, x_80_1_d0, x_80_1_d1, x_80_1_d2, x_80_1_d3, x_80_1_d4, x_1, x_7_2_I, x_7_2_A, x_7_2_U, x_7_3_I, x_7_3_A, x_7_3_U, x_7_4_I, x_7_4_A, x_7_4_U, x_61, x_4_4, x_6_0, x_35_0, x_33, x_65, x_34, x_38_129, x_38_133, x_63, x_4_3, x_67, x_10_4_I, x_10_4_A, x_10_4_U, x_60, x_4_2, x_82, cb_ri, cb_rl, cb_rv, cb_th, cb_ite, ps_s, ps_n, u_130_0, u_130_65, u_130_71, cp]
    · show cl (lr + 80) _ _ _ = _
      have ip := isPlayer_c (lr + 77) p g
      rw [if_neg c] at ip
      rw [in_291]
      simp (disch := omega) only [x_6_0, x_4_1, x_80_1_d0, x_80_1_d1, x_80_1_d2, x_80_1_d3, x_80_1_d4, x_69, x_1, x_60, x_61, x_36, x_33, x_73, x_82, x_7_2_I, x_7_2_A, x_7_2_U, x_7_3_I, x_7_3_A, x_7_3_U, x_4_3, x_34, x_38_187, x_65, x_79_3_12_d0, x_79_3_12_d1, x_79_3_12_d2, x_79_3_12_d3, x_79_3_12_d4, x_63, x_4_2, x_62, x_67, x_10_3_I, x_10_3_A, x_10_3_U, cb_ri, cb_rl, cb_rv, cb_th, cb_ite, ps_s, ps_n, u_291_0, u_291_12, u_291_13, u_291_25, u_291_69, u_291_71, u_291_77, ip, hs_eq, Int.reduceEq, Int.reduceLT, Int.reduceLE, reduceIte, Int.reduceAdd, Int.reduceSub, Int.reduceMul, Int.reduceNeg, Int.reduceToNat, Bool.false_eq_true, eq_self, if_pos, if_neg]
/-! how far a player's hands are from each other -/
def loF (M : Nat → Int) (p : Int) (n : Nat) : Int := itr (fun x v => if M (14 + 6 * x) = p then min v (M (14 + 6 * x + 1)) else v) 64 n
def hiF (M : Nat → Int) (p : Int) (n : Nat) : Int := itr (fun x v => if M (14 + 6 * x) = p then max v (M (14 + 6 * x + 1)) else v) (-1) n
def spI (M : Nat → Int) (p : Int) (x : Nat) (a : Int) (n : Nat) : Int := itr (fun y v => if M (14 + 6 * x) = p ∧ M (14 + 6 * y) = p then max v (M (14 + 6 * x + 1) - M (14 + 6 * y + 1)) else v) a n
def spF (M : Nat → Int) (p : Int) (H n : Nat) : Int := itr (fun x v => spI M p x v H) 0 n
theorem lohi {M : Nat → Int} {p : Int} : ∀ n, (∀ x, x < n → M (14 + 6 * x) = p → loF M p n ≤ M (14 + 6 * x + 1) ∧ M (14 + 6 * x + 1) ≤ hiF M p n) ∧ ((loF M p n = 64 ∧ hiF M p n = -1 ∧ ∀ x, x < n → M (14 + 6 * x) ≠ p) ∨ ((∃ x, x < n ∧ M (14 + 6 * x) = p ∧ (loF M p n = M (14 + 6 * x + 1) ∨ (loF M p n = 64 ∧ 64 ≤ M (14 + 6 * x + 1)))) ∧ ∃ x, x < n ∧ M (14 + 6 * x) = p ∧ (hiF M p n = M (14 + 6 * x + 1) ∨ (hiF M p n = -1 ∧ M (14 + 6 * x + 1) ≤ -1)))) := by
  intro n
  induction n with
  | zero => exact ⟨fun x hx => by omega, Or.inl ⟨rfl, rfl, fun x hx => by omega⟩⟩
  | succ n ih =>
    obtain ⟨i1, i2⟩ := ih
    have el : loF M p (n + 1) = if M (14 + 6 * n) = p then min (loF M p n) (M (14 + 6 * n + 1)) else loF M p n := rfl
    have eh : hiF M p (n + 1) = if M (14 + 6 * n) = p then max (hiF M p n) (M (14 + 6 * n + 1)) else hiF M p n := rfl
    by_cases c : M (14 + 6 * n) = p
    · rw [if_pos c] at el eh
      refine ⟨fun x hx hp => ?_, Or.inr ⟨?_, ?_⟩⟩
      · by_cases e : x = n
        · subst e; omega
        · have := i1 x (by omega) hp; omega
      · by_cases q : loF M p n ≤ M (14 + 6 * n + 1)
        · rcases i2 with ⟨z1, z2, z3⟩ | ⟨⟨x, x1, x2, x3⟩, -⟩
          · exact ⟨n, by omega, c, Or.inr (by omega)⟩
          · exact ⟨x, by omega, x2, by omega⟩
        · exact ⟨n, by omega, c, Or.inl (by omega)⟩
      · by_cases q : M (14 + 6 * n + 1) ≤ hiF M p n
        · rcases i2 with ⟨z1, z2, z3⟩ | ⟨-, x, x1, x2, x3⟩
          · exact ⟨n, by omega, c, Or.inr (by omega)⟩
          · exact ⟨x, by omega, x2, by omega⟩
        · exact ⟨n, by omega, c, Or.inl (by omega)⟩
    · rw [if_neg c] at el eh
      rw [el, eh]
      refine ⟨fun x hx hp => ?_, ?_⟩
      · have : x ≠ n := fun e => c (e ▸ hp)
        exact i1 x (by omega) hp
      · rcases i2 with ⟨z1, z2, z3⟩ | ⟨⟨x, x1, x2, x3⟩, y, y1, y2, y3⟩
        · refine Or.inl ⟨z1, z2, fun x hx => ?_⟩
          by_cases e : x = n
          · rw [e]; exact c
          · exact z3 x (by omega)
        · exact Or.inr ⟨⟨x, by omega, x2, x3⟩, y, by omega, y2, y3⟩
theorem spI_v {M : Nat → Int} {p : Int} {x : Nat} {a : Int} : ∀ n, a ≤ spI M p x a n ∧ (M (14 + 6 * x) = p → ∀ y, y < n → M (14 + 6 * y) = p → M (14 + 6 * x + 1) - M (14 + 6 * y + 1) ≤ spI M p x a n) ∧ (spI M p x a n = a ∨ ∃ y, y < n ∧ M (14 + 6 * x) = p ∧ M (14 + 6 * y) = p ∧ spI M p x a n = M (14 + 6 * x + 1) - M (14 + 6 * y + 1)) := by
  intro n
  induction n with
  | zero => exact ⟨Int.le_refl _, fun _ y hy => by omega, Or.inl rfl⟩
  | succ n ih =>
    obtain ⟨i1, i2, i3⟩ := ih
    have e : spI M p x a (n + 1) = if M (14 + 6 * x) = p ∧ M (14 + 6 * n) = p then max (spI M p x a n) (M (14 + 6 * x + 1) - M (14 + 6 * n + 1)) else spI M p x a n := rfl
    by_cases c : M (14 + 6 * x) = p ∧ M (14 + 6 * n) = p
    · rw [if_pos c] at e
      refine ⟨by omega, fun hp y hy hq => ?_, ?_⟩
      · by_cases ey : y = n
        · subst ey; omega
        · have := i2 hp y (by omega) hq; omega
      · by_cases q : M (14 + 6 * x + 1) - M (14 + 6 * n + 1) ≤ spI M p x a n
        · rcases i3 with z | ⟨y, y1, y2, y3, y4⟩
          · exact Or.inl (by omega)
          · exact Or.inr ⟨y, by omega, y2, y3, by omega⟩
        · exact Or.inr ⟨n, by omega, c.1, c.2, by omega⟩
    · rw [if_neg c] at e
      rw [e]
      refine ⟨i1, fun hp y hy hq => ?_, ?_⟩
      · have : y ≠ n := fun z => c ⟨hp, z ▸ hq⟩
        exact i2 hp y (by omega) hq
      · rcases i3 with z | ⟨y, y1, y2⟩
        · exact Or.inl z
        · exact Or.inr ⟨y, by omega, y2⟩
theorem spF_v {M : Nat → Int} {p : Int} {H : Nat} : ∀ n, 0 ≤ spF M p H n ∧ (∀ x, x < n → M (14 + 6 * x) = p → ∀ y, y < H → M (14 + 6 * y) = p → M (14 + 6 * x + 1) - M (14 + 6 * y + 1) ≤ spF M p H n) ∧ (spF M p H n = 0 ∨ ∃ x y, x < n ∧ y < H ∧ M (14 + 6 * x) = p ∧ M (14 + 6 * y) = p ∧ spF M p H n = M (14 + 6 * x + 1) - M (14 + 6 * y + 1)) := by
  intro n
  induction n with
  | zero => exact ⟨Int.le_refl _, fun x hx => by omega, Or.inl rfl⟩
  | succ n ih =>
    obtain ⟨i1, i2, i3⟩ := ih
    obtain ⟨j1, j2, j3⟩ := spI_v (M := M) (p := p) (x := n) (a := spF M p H n) H
    have e : spF M p H (n + 1) = spI M p n (spF M p H n) H := rfl
    rw [e]
    refine ⟨by omega, fun x hx hp y hy hq => ?_, ?_⟩
    · by_cases ex : x = n
      · subst ex; exact j2 hp y hy hq
      · have := i2 x (by omega) hp y hy hq; omega
    · rcases j3 with z | ⟨y, y1, y2, y3, y4⟩
      · rw [z]
        rcases i3 with w | ⟨x, y, x1, r⟩
        · exact Or.inl w
        · exact Or.inr ⟨x, y, by omega, r⟩
      · exact Or.inr ⟨n, y, by omega, y1, y2, y3, y4⟩
theorem span_eq {M : Nat → Int} {p : Int} {H : Nat} (hb : ∀ x, x < H → 0 ≤ M (14 + 6 * x + 1) ∧ M (14 + 6 * x + 1) ≤ 63) : max 0 (hiF M p H - loF M p H) = spF M p H H := by
  obtain ⟨a1, a2⟩ := lohi (M := M) (p := p) H
  obtain ⟨b1, b2, b3⟩ := spF_v (M := M) (p := p) (H := H) H
  rcases a2 with ⟨z1, z2, z3⟩ | ⟨⟨x, x1, x2, x3⟩, y, y1, y2, y3⟩
  · rcases b3 with w | ⟨x, y, q1, q2, q3, -⟩
    · omega
    · exact absurd q3 (z3 x q1)
  · have hx := hb x x1
    have hy := hb y y1
    have u := b2 y y1 y2 x x1 x2
    have v : spF M p H H ≤ max 0 (hiF M p H - loF M p H) := by
      rcases b3 with w | ⟨x', y', q1, q2, q3, q4, q5⟩
      · omega
      · have := a1 x' q1 q3
        have := a1 y' q2 q4
        omega
    omega
theorem lo_b {M : Nat → Int} {p : Int} {H : Nat} (hb : ∀ x, x < H → 0 ≤ M (14 + 6 * x + 1) ∧ M (14 + 6 * x + 1) ≤ 63) : ∀ n, n ≤ H → (0 ≤ loF M p n ∧ loF M p n ≤ 64) ∧ (-1 ≤ hiF M p n ∧ hiF M p n ≤ 63) := by
  intro n
  induction n with
  | zero => intro _; show (0 ≤ (64 : Int) ∧ (64 : Int) ≤ 64) ∧ (-1 ≤ (-1 : Int) ∧ (-1 : Int) ≤ 63); omega
  | succ n ih =>
    intro hn
    have := ih (by omega)
    have := hb n (by omega)
    have el : loF M p (n + 1) = if M (14 + 6 * n) = p then min (loF M p n) (M (14 + 6 * n + 1)) else loF M p n := rfl
    have eh : hiF M p (n + 1) = if M (14 + 6 * n) = p then max (hiF M p n) (M (14 + 6 * n + 1)) else hiF M p n := rfl
    by_cases c : M (14 + 6 * n) = p
    · rw [if_pos c] at el eh; omega
    · rw [if_neg c] at el eh; omega
theorem ag_span (lc lr H N : Nat) (p : Int) (h : Hp) (I : INV h H N) : AGt t2 (fun h => cl (lc + 80) 133 [aA 11 0, aI p] h) (fun h => cl (lr + 80) 296 [aA 12 0, aI p] h) h := by
  have hH := I.1.2.1.1.2.1
  have h39 := I.1.1.1.1
  have cp := checkPlayer_c (lc + 78) p h
  by_cases c : 0 ≤ p ∧ p < 3
  · rw [if_pos c] at cp
    have hb : ∀ x, x < H → 0 ≤ h 187 0 (14 + 6 * x + 1) ∧ h 187 0 (14 + 6 * x + 1) ≤ 63 := fun x hx => (I.1.2.1.1.2.2 x hx).2.1
    refine AGt_q I (v := spF (h 187 0) p H H) ⟨h, ?_, Sm_r _ _⟩ (fun g s J => ⟨hset g 186 0 0 0, ?_, hs_eq _ _ _ _ _, rsc_186 g 0⟩)
    · show cl (lc + 80) _ _ _ = _
      rw [← span_eq hb, in_133]
      simp (disch := omega) only [x_4_1, x_80_1_d0, x_80_1_d1, x_80_1_d2, x_80_1_d3, x_80_1_d4, x_1, x_7_2_I, x_7_2_A, x_7_2_U, x_7_3_I, x_7_3_A, x_7_3_U, x_7_4_I, x_7_4_A, x_7_4_U, x_61, x_4_4, x_6_0, x_35_0, x_33, x_65, x_34, x_38_129, x_38_130, x_63, x_4_2, x_80_2_d0, x_80_2_d1, x_80_2_d2, x_80_2_d3, x_80_2_d4, x_4_3, x_10_4_I, x_10_4_A, x_10_4_U, x_60, x_12, x_82, cb_ri, cb_rl, cb_rv, cb_th, cb_ite, ps_s, ps_n, u_133_0, u_133_68, u_133_74, cp]
      refine loop_up (F := fun n => run (lc + 79) 133 12 [aA 11 0, aI p, aI (loF (h 187 0) p n), aI (hiF (h 187 0) p n), aI (n : Int)] [] h) (N := H) ?_ ?_ 0 (by omega)
      · intro n hn
        obtain ⟨p0, p1, -⟩ := I.1.1.1.2.2.2 n hn
        have el : loF (h 187 0) p (n + 1) = if h 187 0 (14 + 6 * n) = p then min (loF (h 187 0) p n) (h 187 0 (14 + 6 * n + 1)) else loF (h 187 0) p n := rfl
        have eh : hiF (h 187 0) p (n + 1) = if h 187 0 (14 + 6 * n) = p then max (hiF (h 187 0) p n) (h 187 0 (14 + 6 * n + 1)) else hiF (h 187 0) p n := rfl
        show run _ _ _ _ _ _ = run _ _ _ _ _ _
        rw [el, eh, hd_133_12]
        by_cases c1 : h 187 0 (14 + 6 * n) = p
        · rw [if_pos c1, if_pos c1]
          simp (disch := omega) only [x_4_1, x_80_1_d0, x_80_1_d1, x_80_1_d2, x_80_1_d3, x_80_1_d4, x_1, x_7_2_I, x_7_2_A, x_7_2_U, x_7_3_I, x_7_3_A, x_7_3_U, x_7_4_I, x_7_4_A, x_7_4_U, x_61, x_4_4, x_6_0, x_35_0, x_33, x_65, x_34, x_38_129, x_38_130, x_63, x_4_2, x_80_2_d0, x_80_2_d1, x_80_2_d2, x_80_2_d3, x_80_2_d4, x_4_3, x_10_4_I, x_10_4_A, x_10_4_U, x_60, x_12, x_82, cb_ri, cb_rl, cb_rv, cb_th, cb_ite, ps_s, ps_n, u_133_0, u_133_68, u_133_74, h39, tn, p0, p1, c1, min_c, max_c, Int.reduceEq, Int.reduceLT, Int.reduceLE, reduceIte, Int.reduceAdd, Int.reduceSub, Int.reduceMul, Int.reduceNeg, Int.reduceToNat, Bool.false_eq_true, eq_self, if_pos, if_neg, ci, w32_id]
        · rw [if_neg c1, if_neg c1]
          simp (disch := omega) only [x_4_1, x_80_1_d0, x_80_1_d1, x_80_1_d2, x_80_1_d3, x_80_1_d4, x_1, x_7_2_I, x_7_2_A, x_7_2_U, x_7_3_I, x_7_3_A, x_7_3_U, x_7_4_I, x_7_4_A, x_7_4_U, x_61, x_4_4, x_6_0, x_35_0, x_33, x_65, x_34, x_38_129, x_38_130, x_63, x_4_2, x_80_2_d0, x_80_2_d1, x_80_2_d2, x_80_2_d3, x_80_2_d4, x_4_3, x_10_4_I, x_10_4_A, x_10_4_U, x_60, x_12, x_82, cb_ri, cb_rl, cb_rv, cb_th, cb_ite, ps_s, ps_n, u_133_0, u_133_68, u_133_74, h39, tn, p0, c1, Int.reduceEq, Int.reduceLT, Int.reduceLE, reduceIte, Int.reduceAdd, Int.reduceSub, Int.reduceMul, Int.reduceNeg, Int.reduceToNat, Bool.false_eq_true, eq_self, if_pos, if_neg, ci, w32_id]
      · have lb := lo_b (M := h 187 0) (p := p) hb H (Nat.le_refl _)
        show run _ _ _ _ _ _ = _
        rw [hd_133_12]
        simp (disch := omega) only [x_4_1, x_80_1_d0, x_80_1_d1, x_80_1_d2, x_80_1_d3, x_80_1_d4, x_1, x_7_2_I, x_7_2_A, x_7_2_U, x_7_3_I, x_7_3_A, x_7_3_U, x_7_4_I, x_7_4_A, x_7_4_U, x_61, x_4_4, x_6_0, x_35_0, x_33, x_65, x_34, x_38_129, x_38_130, x_63, x_4_2, x_80_2_d0, x_80_2_d1, x_80_2_d2, x_80_2_d3, x_80_2_d4, x_4_3, x_10_4_I, x_10_4_A, x_10_4_U, x_60, x_12, x_82, cb_ri, cb_rl, cb_rv, cb_th, cb_ite, ps_s, ps_n, u_133_0, u_133_68, u_133_74, h39, max_c, w32_id, Int.reduceEq, Int.reduceLT, Int.reduceLE, reduceIte, Int.reduceAdd, Int.reduceSub, Int.reduceMul, Int.reduceNeg, Int.reduceToNat, Bool.false_eq_true, eq_self, if_pos, if_neg]
    · show cl (lr + 80) _ _ _ = _
      have g7 : hset g 186 0 0 0 187 0 = h 187 0 := by rw [h186_m, Sm_187 s scr_187]
      have m3 : hset g 186 0 0 0 187 0 3 = (H : Int) := by rw [g7]; exact I.1.2.1.1.1
      have ip := isPlayer_c (lr + 77) p g
      rw [if_pos c] at ip
      have it : ∀ x f : Nat, x < 7 → f < 6 → cl (lr + 79) 173 [aA 12 0, aI (x : Int), aI (f : Int)] (hset g 186 0 0 0) = ri (h 187 0 (14 + 6 * x + f)) (hset g 186 0 0 0) := fun x f hx hf => by have := its_c (lr + 78) x f (hset g 186 0 0 0) hx hf; rw [g7] at this; exact this
      rw [in_296]
      simp (disch := omega) only [x_6_0, x_4_1, x_80_1_d0, x_80_1_d1, x_80_1_d2, x_80_1_d3, x_80_1_d4, x_69, x_1, x_60, x_61, x_36, x_33, x_73, x_82, x_7_2_I, x_7_2_A, x_7_2_U, x_7_3_I, x_7_3_A, x_7_3_U, x_4_3, x_34, x_38_187, x_65, x_7_4_I, x_7_4_A, x_7_4_U, x_4_4, x_79_3_12_d0, x_79_3_12_d1, x_79_3_12_d2, x_79_3_12_d3, x_79_3_12_d4, x_63, x_4_2, x_12, x_80_2_d0, x_80_2_d1, x_80_2_d2, x_80_2_d3, x_80_2_d4, x_10_4_I, x_10_4_A, x_10_4_U, x_10_3_I, x_10_3_A, x_10_3_U, cb_ri, cb_rl, cb_rv, cb_th, cb_ite, ps_s, ps_n, u_296_0, u_296_12, u_296_13, u_296_25, u_296_93, u_296_99, u_296_105, ip, hs_eq, Int.reduceEq, Int.reduceLT, Int.reduceLE, reduceIte, Int.reduceAdd, Int.reduceSub, Int.reduceMul, Int.reduceNeg, Int.reduceToNat, Bool.false_eq_true, eq_self, if_pos, if_neg]
      refine loop_g (F := fun x (v : AV) => run (lr + 79) 296 29 [aA 12 0, aI p, aI (spF (h 187 0) p H x), aI (x : Int), v] [] (hset g 186 0 0 0)) (N := H) ?_ ?_ none
      · intro x v hx
        refine ⟨aI (H : Int), ?_⟩
        show run _ _ _ _ _ _ = run _ _ _ [_, _, aI (spI (h 187 0) p x (spF (h 187 0) p H x) H), _, _] _ _
        rw [hd_296_29]
        simp (disch := omega) only [x_6_0, x_4_1, x_80_1_d0, x_80_1_d1, x_80_1_d2, x_80_1_d3, x_80_1_d4, x_69, x_1, x_60, x_61, x_36, x_33, x_73, x_82, x_7_2_I, x_7_2_A, x_7_2_U, x_7_3_I, x_7_3_A, x_7_3_U, x_4_3, x_34, x_38_187, x_65, x_7_4_I, x_7_4_A, x_7_4_U, x_4_4, x_79_3_12_d0, x_79_3_12_d1, x_79_3_12_d2, x_79_3_12_d3, x_79_3_12_d4, x_63, x_4_2, x_12, x_80_2_d0, x_80_2_d1, x_80_2_d2, x_80_2_d3, x_80_2_d4, x_10_4_I, x_10_4_A, x_10_4_U, x_10_3_I, x_10_3_A, x_10_3_U, cb_ri, cb_rl, cb_rv, cb_th, cb_ite, ps_s, ps_n, u_296_0, u_296_12, u_296_13, u_296_25, u_296_93, u_296_99, u_296_105, m3, Int.reduceEq, Int.reduceLT, Int.reduceLE, reduceIte, Int.reduceAdd, Int.reduceSub, Int.reduceMul, Int.reduceNeg, Int.reduceToNat, Bool.false_eq_true, eq_self, if_pos, if_neg]
        refine loop_up (F := fun y => run (lr + 79) 296 42 [aA 12 0, aI p, aI (spI (h 187 0) p x (spF (h 187 0) p H x) y), aI (x : Int), aI (y : Int)] [] (hset g 186 0 0 0)) (N := H) ?_ ?_ 0 (by omega)
        · intro y hy
          have x0 : cl (lr + 79) 173 [aA 12 0, aI (x : Int), aI 0] (hset g 186 0 0 0) = ri (h 187 0 (14 + 6 * x)) (hset g 186 0 0 0) := it x 0 (by omega) (by omega)
          have x1 : cl (lr + 79) 173 [aA 12 0, aI (x : Int), aI 1] (hset g 186 0 0 0) = ri (h 187 0 (14 + 6 * x + 1)) (hset g 186 0 0 0) := it x 1 (by omega) (by omega)
          have y0 : cl (lr + 79) 173 [aA 12 0, aI (y : Int), aI 0] (hset g 186 0 0 0) = ri (h 187 0 (14 + 6 * y)) (hset g 186 0 0 0) := it y 0 (by omega) (by omega)
          have y1 : cl (lr + 79) 173 [aA 12 0, aI (y : Int), aI 1] (hset g 186 0 0 0) = ri (h 187 0 (14 + 6 * y + 1)) (hset g 186 0 0 0) := it y 1 (by omega) (by omega)
          have bx := hb x hx
          have bY := hb y hy
          show run _ _ _ _ _ _ = run _ _ _ [_, _, aI (if h 187 0 (14 + 6 * x) = p ∧ h 187 0 (14 + 6 * y) = p then max (spI (h 187 0) p x (spF (h 187 0) p H x) y) (h 187 0 (14 + 6 * x + 1) - h 187 0 (14 + 6 * y + 1)) else spI (h 187 0) p x (spF (h 187 0) p H x) y), _, _] _ _
          rw [hd_296_42]
          by_cases c1 : h 187 0 (14 + 6 * x) = p
          · by_cases c2 : h 187 0 (14 + 6 * y) = p
            · rw [if_pos ⟨c1, c2⟩]
              simp (disch := omega) only [x_6_0, x_4_1, x_80_1_d0, x_80_1_d1, x_80_1_d2, x_80_1_d3, x_80_1_d4, x_69, x_1, x_60, x_61, x_36, x_33, x_73, x_82, x_7_2_I, x_7_2_A, x_7_2_U, x_7_3_I, x_7_3_A, x_7_3_U, x_4_3, x_34, x_38_187, x_65, x_7_4_I, x_7_4_A, x_7_4_U, x_4_4, x_79_3_12_d0, x_79_3_12_d1, x_79_3_12_d2, x_79_3_12_d3, x_79_3_12_d4, x_63, x_4_2, x_12, x_80_2_d0, x_80_2_d1, x_80_2_d2, x_80_2_d3, x_80_2_d4, x_10_4_I, x_10_4_A, x_10_4_U, x_10_3_I, x_10_3_A, x_10_3_U, cb_ri, cb_rl, cb_rv, cb_th, cb_ite, ps_s, ps_n, u_296_0, u_296_12, u_296_13, u_296_25, u_296_93, u_296_99, u_296_105, m3, x0, x1, y0, y1, c1, c2, greater_c, Int.reduceEq, Int.reduceLT, Int.reduceLE, reduceIte, Int.reduceAdd, Int.reduceSub, Int.reduceMul, Int.reduceNeg, Int.reduceToNat, Bool.false_eq_true, eq_self, if_pos, if_neg, ci, w32_id]
            · rw [if_neg (fun z => c2 z.2)]
              simp (disch := omega) only [x_6_0, x_4_1, x_80_1_d0, x_80_1_d1, x_80_1_d2, x_80_1_d3, x_80_1_d4, x_69, x_1, x_60, x_61, x_36, x_33, x_73, x_82, x_7_2_I, x_7_2_A, x_7_2_U, x_7_3_I, x_7_3_A, x_7_3_U, x_4_3, x_34, x_38_187, x_65, x_7_4_I, x_7_4_A, x_7_4_U, x_4_4, x_79_3_12_d0, x_79_3_12_d1, x_79_3_12_d2, x_79_3_12_d3, x_79_3_12_d4, x_63, x_4_2, x_12, x_80_2_d0, x_80_2_d1, x_80_2_d2, x_80_2_d3, x_80_2_d4, x_10_4_I, x_10_4_A, x_10_4_U, x_10_3_I, x_10_3_A, x_10_3_U, cb_ri, cb_rl, cb_rv, cb_th, cb_ite, ps_s, ps_n, u_296_0, u_296_12, u_296_13, u_296_25, u_296_93, u_296_99, u_296_105, m3, x0, y0, c1, c2, Int.reduceEq, Int.reduceLT, Int.reduceLE, reduceIte, Int.reduceAdd, Int.reduceSub, Int.reduceMul, Int.reduceNeg, Int.reduceToNat, Bool.false_eq_true, eq_self, if_pos, if_neg, ci, w32_id]
          · rw [if_neg (fun z => c1 z.1)]
            simp (disch := omega) only [x_6_0, x_4_1, x_80_1_d0, x_80_1_d1, x_80_1_d2, x_80_1_d3, x_80_1_d4, x_69, x_1, x_60, x_61, x_36, x_33, x_73, x_82, x_7_2_I, x_7_2_A, x_7_2_U, x_7_3_I, x_7_3_A, x_7_3_U, x_4_3, x_34, x_38_187, x_65, x_7_4_I, x_7_4_A, x_7_4_U, x_4_4, x_79_3_12_d0, x_79_3_12_d1, x_79_3_12_d2, x_79_3_12_d3, x_79_3_12_d4, x_63, x_4_2, x_12, x_80_2_d0, x_80_2_d1, x_80_2_d2, x_80_2_d3, x_80_2_d4, x_10_4_I, x_10_4_A, x_10_4_U, x_10_3_I, x_10_3_A, x_10_3_U, cb_ri, cb_rl, cb_rv, cb_th, cb_ite, ps_s, ps_n, u_296_0, u_296_12, u_296_13, u_296_25, u_296_93, u_296_99, u_296_105, m3, x0, c1, Int.reduceEq, Int.reduceLT, Int.reduceLE, reduceIte, Int.reduceAdd, Int.reduceSub, Int.reduceMul, Int.reduceNeg, Int.reduceToNat, Bool.false_eq_true, eq_self, if_pos, if_neg, ci, w32_id]
        · show run _ _ _ _ _ _ = _
          rw [hd_296_42]
          simp (disch := omega) only [x_6_0, x_4_1, x_80_1_d0, x_80_1_d1, x_80_1_d2, x_80_1_d3, x_80_1_d4, x_69, x_1, x_60, x_61, x_36, x_33, x_73, x_82, x_7_2_I, x_7_2_A, x_7_2_U, x_7_3_I, x_7_3_A, x_7_3_U, x_4_3, x_34, x_38_187, x_65, x_7_4_I, x_7_4_A, x_7_4_U, x_4_4, x_79_3_12_d0, x_79_3_12_d1, x_79_3_12_d2, x_79_3_12_d3, x_79_3_12_d4, x_63, x_4_2, x_12, x_80_2_d0, x_80_2_d1, x_80_2_d2, x_80_2_d3, x_80_2_d4, x_10_4_I, x_10_4_A, x_10_4_U, x_10_3_I, x_10_3_A, x_10_3_U, cb_ri, cb_rl, cb_rv, cb_th, cb_ite, ps_s, ps_n, u_296_0, u_296_12, u_296_13, u_296_25, u_296_93, u_296_99, u_296_105, m3, Int.reduceEq, Int.reduceLT, Int.reduceLE, reduceIte, Int.reduceAdd, Int.reduceSub, Int.reduceMul, Int.reduceNeg, Int.reduceToNat, Bool.false_eq_true, eq_self, if_pos, if_neg, ci, w32_id]
      · intro v
        show run _ _ _ _ _ _ = _
        rw [hd_296_29]
        simp (disch := omega) only [x_6_0, x_4_1, x_80_1_d0, x_80_1_d1, x_80_1_d2, x_80_1_d3, x_80_1_d4, x_69, x_1, x_60, x_61, x_36, x_33, x_73, x_82, x_7_2_I, x_7_2_A, x_7_2_U, x_7_3_I, x_7_3_A, x_7_3_U, x_4_3, x_34, x_38_187, x_65, x_7_4_I, x_7_4_A, x_7_4_U, x_4_4, x_79_3_12_d0, x_79_3_12_d1, x_79_3_12_d2, x_79_3_12_d3, x_79_3_12_d4, x_63, x_4_2, x_12, x_80_2_d0, x_80_2_d1, x_80_2_d2, x_80_2_d3, x_80_2_d4, x_10_4_I, x_10_4_A, x_10_4_U, x_10_3_I, x_10_3_A, x_10_3_U, cb_ri, cb_rl, cb_rv, cb_th, cb_ite, ps_s, ps_n, u_296_0, u_296_12, u_296_13, u_296_25, u_296_93, u_296_99, u_296_105, m3, Int.reduceEq, Int.reduceLT, Int.reduceLE, reduceIte, Int.reduceAdd, Int.reduceSub, Int.reduceMul, Int.reduceNeg, Int.reduceToNat, Bool.false_eq_true, eq_self, if_pos, if_neg]
  · rw [if_neg c] at cp
    refine AGt_e I 2 (by decide) ⟨h, ?_, Sm_r _ _⟩ (fun g s J => ⟨0, hset g 186 0 0 1, ?_, hs_eq _ _ _ _ _, rsc_186 g 1⟩)
    · show cl (lc + 80) _ _ _ = _
      rw [in_133]
      simp (disch := omega) only [x_4_1, x_80_1_d0, x_80_1_d1, x_80_1_d2, x_80_1_d3, x_80_1_d4, x_1, x_7_2_I, x_7_2_A, x_7_2_U, x_7_3_I, x_7_3_A, x_7_3_U, x_7_4_I, x_7_4_A, x_7_4_U, x_61, x_4_4, x_6_0, x_35_0, x_33, x_65, x_34, x_38_129, x_38_130, x_63, x_4_2, x_80_2_d0, x_80_2_d1, x_80_2_d2, x_80_2_d3, x_80_2_d4, x_4_3, x_10_4_I, x_10_4_A, x_10_4_U, x_60, x_12, x_82, cb_ri, cb_rl, cb_rv, cb_th, cb_ite, ps_s, ps_n, u_133_0, u_133_68, u_133_74, cp]
    · show cl (lr + 80) _ _ _ = _
      have ip := isPlayer_c (lr + 77) p g
      rw [if_neg c] at ip
      rw [in_296]
      simp (disch := omega) only [x_6_0, x_4_1, x_80_1_d0, x_80_1_d1, x_80_1_d2, x_80_1_d3, x_80_1_d4, x_69, x_1, x_60, x_61, x_36, x_33, x_73, x_82, x_7_2_I, x_7_2_A, x_7_2_U, x_7_3_I, x_7_3_A, x_7_3_U, x_4_3, x_34, x_38_187, x_65, x_7_4_I, x_7_4_A, x_7_4_U, x_4_4, x_79_3_12_d0, x_79_3_12_d1, x_79_3_12_d2, x_79_3_12_d3, x_79_3_12_d4, x_63, x_4_2, x_12, x_80_2_d0, x_80_2_d1, x_80_2_d2, x_80_2_d3, x_80_2_d4, x_10_4_I, x_10_4_A, x_10_4_U, x_10_3_I, x_10_3_A, x_10_3_U, cb_ri, cb_rl, cb_rv, cb_th, cb_ite, ps_s, ps_n, u_296_0, u_296_12, u_296_13, u_296_25, u_296_93, u_296_99, u_296_105, ip, hs_eq, Int.reduceEq, Int.reduceLT, Int.reduceLE, reduceIte, Int.reduceAdd, Int.reduceSub, Int.reduceMul, Int.reduceNeg, Int.reduceToNat, Bool.false_eq_true, eq_self, if_pos, if_neg]
