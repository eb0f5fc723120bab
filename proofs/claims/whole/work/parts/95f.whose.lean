/-! whose, ask -/
theorem rows_u (h : Hp) (e : Nat) {g : Hp} (s : Sm scr (hset h 149 0 0 0) g) (e3 : h 194 0 0 = (e : Int)) (e4 : ∀ j, j < 400 → h 193 0 j = h 148 0 j ∧ 0 ≤ h 148 0 j ∧ h 148 0 j ≤ 255) : g 194 0 0 = (e : Int) ∧ (∀ j, j < 400 → g 193 0 j = h 148 0 j) ∧ g 187 0 = h 187 0 := by
  refine ⟨?_, fun j hj => ?_, ?_⟩
  · rw [s 194 0 0 (by unfold scr csc rsc stTag; omega), hs_t (by omega)]; exact e3
  · rw [s 193 0 j (by unfold scr csc rsc stTag; omega), hs_t (by omega)]; exact (e4 j hj).1
  · rw [Sm_187 s scr_187]; exact funext (fun j => hs_t (by omega))
theorem ag_whose (lc lr H N : Nat) (nr : Bool) (h : Hp) (I : INV h H N) : AGt t0 (fun h => cl (lc + 80) 122 [aA 11 0, aI (boI nr)] h) (fun h => cl (lr + 80) 278 [aA 12 0, aI (boI nr)] h) h := by
  obtain ⟨e, e1, e2, e3, e4⟩ := I.2.1
  have hk := GN_key I.1.2.1.2.1
  have hN := I.1.2.1.2.1.2.1
  have m4 := I.1.2.1.2.1.1
  have uu := useUp_c (lc + 78) h
  rw [e2] at uu
  have ez : boI true = 1 := rfl
  have ef : boI false = 0 := rfl
  have h40 : hset h 149 0 0 0 140 0 0 = (N : Int) := by rw [hs_t (by omega)]; exact I.1.1.2.1.1
  have r2 : RS (hset h 149 0 0 0) 0 (h 187 0) H N := RS_e (fun t i ht => hs_t (by unfold stTag at ht; omega)) I.1.1
  have t8 : ∀ j, j < 400 → hset h 149 0 0 0 148 0 j = h 148 0 j := fun j _ => hs_t (by omega)
  by_cases ok : rowsB (h 148 0) N e
  · have nrw := isNoteRows_c (lc + 78) e N (h 148 0) (hset h 149 0 0 0) e1 t8 (Decidable.isTrue ok)
    rw [if_pos ok] at nrw
    have wc := weighG_c (lc + 76) H N e (h 187 0) (h 148 0) (hset h 149 0 0 0) r2 hk t8 (fun j hj => (e4 j hj).2.1) ok
    obtain ⟨x1, x2, -, -⟩ := wgH_x (g := hset h 149 0 0 0) (M := h 187 0) (t := h 148 0) (e := e) hN 640
    refine AGt_u I (v := if nr = true then nwF (fqB (h 187 0) (h 148 0) e) 640 else ((cnt (fqB (h 187 0) (h 148 0) e) 640 : Nat) : Int)) ⟨wgH (hset h 149 0 0 0) (h 187 0) (h 148 0) e N 640, ?_, Sm_wg hN⟩ (fun g s => ⟨hset (htH (hset g 194 0 0 0) (fqB (h 187 0) (h 148 0) e) 640) 186 0 0 0, ?_, hs_eq _ _ _ _ _, Sm_t Sm_ht (rsc_186 _ 0)⟩)
    · show cl (lc + 80) _ _ _ = _
      rw [in_122]
      cases nr with
      | true =>
        rw [if_pos rfl]
        simp (disch := omega) only [x_6_0, x_35_0, x_79_1_8_d0, x_79_1_8_d1, x_79_1_8_d2, x_79_1_8_d3, x_79_1_8_d4, x_7_2_I, x_7_2_A, x_7_2_U, x_4_2, x_33, x_79_3_8_d0, x_79_3_8_d1, x_79_3_8_d2, x_79_3_8_d3, x_79_3_8_d4, x_69, x_84, x_79_3_0_d0, x_79_3_0_d1, x_79_3_0_d2, x_79_3_0_d3, x_79_3_0_d4, x_4_1, x_68, x_60, x_61, x_82, cb_ri, cb_rl, cb_rv, cb_th, cb_ite, ps_s, ps_n, u_122_0, u_122_37, u_122_63, u_122_70, uu, h40, nrw, wc, x1, x2, ez, Int.reduceEq, Int.reduceLT, Int.reduceLE, reduceIte, Int.reduceAdd, Int.reduceSub, Int.reduceMul, Int.reduceNeg, Int.reduceToNat, Bool.false_eq_true, eq_self, if_pos, if_neg]
      | false =>
        rw [if_neg (by decide)]
        simp (disch := omega) only [x_6_0, x_35_0, x_79_1_8_d0, x_79_1_8_d1, x_79_1_8_d2, x_79_1_8_d3, x_79_1_8_d4, x_7_2_I, x_7_2_A, x_7_2_U, x_4_2, x_33, x_79_3_8_d0, x_79_3_8_d1, x_79_3_8_d2, x_79_3_8_d3, x_79_3_8_d4, x_69, x_84, x_79_3_0_d0, x_79_3_0_d1, x_79_3_0_d2, x_79_3_0_d3, x_79_3_0_d4, x_4_1, x_68, x_60, x_61, x_82, cb_ri, cb_rl, cb_rv, cb_th, cb_ite, ps_s, ps_n, u_122_0, u_122_37, u_122_63, u_122_70, uu, h40, nrw, wc, x1, x2, ef, Int.reduceEq, Int.reduceLT, Int.reduceLE, reduceIte, Int.reduceAdd, Int.reduceSub, Int.reduceMul, Int.reduceNeg, Int.reduceToNat, Bool.false_eq_true, eq_self, if_pos, if_neg]
    · show cl (lr + 80) _ _ _ = _
      obtain ⟨y1, y2, y3⟩ := rows_u h e s e3 e4
      have hm := heard_m (lr + 76) N e (h 187 0) (h 148 0) g y1 e1 y3 m4 hN hk y2 (fun j hj => (e4 j hj).2.1) ok
      rw [in_278]
      generalize hy : htH (hset g 194 0 0 0) (fqB (h 187 0) (h 148 0) e) 640 = y at *
      have nc : ¬ ((cnt (fqB (h 187 0) (h 148 0) e) 640 : Nat) : Int) = -1 := by omega
      cases nr with
      | false =>
        rw [if_neg (by decide)]
        simp (disch := omega) only [x_6_0, x_79_1_12_d0, x_79_1_12_d1, x_79_1_12_d2, x_79_1_12_d3, x_79_1_12_d4, x_7_2_I, x_7_2_A, x_7_2_U, x_4_2, x_1, x_63, x_60, x_61, x_36, x_33, x_72, x_4_1, x_69, x_73, x_82, x_7_3_I, x_7_3_A, x_7_3_U, x_7_4_I, x_7_4_A, x_7_4_U, x_4_4, x_65, x_14, x_15, x_12, x_11, x_7_5_I, x_7_5_A, x_7_5_U, x_34, x_40_212, x_68, x_4_3, x_62, x_4_5, x_10_4_I, x_10_4_A, x_10_4_U, cb_ri, cb_rl, cb_rv, cb_th, cb_ite, ps_s, ps_n, u_278_0, u_278_15, u_278_16, u_278_30, u_278_41, u_278_42, u_278_43, u_278_95, u_278_98, u_278_104, hm, nc, hs_eq, ef, Int.reduceEq, Int.reduceLT, Int.reduceLE, reduceIte, Int.reduceAdd, Int.reduceSub, Int.reduceMul, Int.reduceNeg, Int.reduceToNat, Bool.false_eq_true, eq_self, if_pos, if_neg]
      | true =>
        rw [if_pos rfl]
        simp (disch := omega) only [x_6_0, x_79_1_12_d0, x_79_1_12_d1, x_79_1_12_d2, x_79_1_12_d3, x_79_1_12_d4, x_7_2_I, x_7_2_A, x_7_2_U, x_4_2, x_1, x_63, x_60, x_61, x_36, x_33, x_72, x_4_1, x_69, x_73, x_82, x_7_3_I, x_7_3_A, x_7_3_U, x_7_4_I, x_7_4_A, x_7_4_U, x_4_4, x_65, x_14, x_15, x_12, x_11, x_7_5_I, x_7_5_A, x_7_5_U, x_34, x_40_212, x_68, x_4_3, x_62, x_4_5, x_10_4_I, x_10_4_A, x_10_4_U, cb_ri, cb_rl, cb_rv, cb_th, cb_ite, ps_s, ps_n, u_278_0, u_278_15, u_278_16, u_278_30, u_278_41, u_278_42, u_278_43, u_278_95, u_278_98, u_278_104, hm, nc, hs_eq, ez, Int.reduceEq, Int.reduceLT, Int.reduceLE, reduceIte, Int.reduceAdd, Int.reduceSub, Int.reduceMul, Int.reduceNeg, Int.reduceToNat, Bool.false_eq_true, eq_self, if_pos, if_neg]
        refine loop_g (F := fun q (v : AV) => run (lr + 79) 278 48 [aA 12 0, aI 1, aI ((cnt (fqB (h 187 0) (h 148 0) e) 640 : Nat) : Int), aI (nwF (fqB (h 187 0) (h 148 0) e) q), aI (q : Int), v] [] (hset y 186 0 0 0)) (N := 640) ?_ ?_ none
        · intro q v hq
          refine ⟨aI (wqF q), ?_⟩
          have i2 := idiv_p (x := (q : Int)) (y := 80) (by omega) (by omega) (by omega)
          have i3 := idiv_p (x := (q : Int)) (y := 10) (by omega) (by omega) (by omega)
          have i4 := irem_q (x := (q : Int) / 10) 8 (by omega)
          have ew : (q : Int) / 10 % 8 - (q : Int) / 80 + 1 = wqF q := by unfold wqF; omega
          have ey : hset y 186 0 0 0 212 0 q = boI (fqB (h 187 0) (h 148 0) e q) := by rw [hs_t (by omega), ← hy]; exact htH_i _ _ hq
          have wb : -20 ≤ wqF q ∧ wqF q ≤ 20 := by unfold wqF; omega
          show run _ _ _ _ _ _ = run _ _ _ _ _ _
          simp only [nwF]
          generalize nwF (fqB (h 187 0) (h 148 0) e) q = x
          rw [hd_278_48]
          cases hb : fqB (h 187 0) (h 148 0) e q with
          | true =>
            rw [hb, ez] at ey
            rw [if_pos rfl]
            by_cases c1 : x = -1
            · rw [if_pos c1]
              simp (disch := omega) only [x_6_0, x_79_1_12_d0, x_79_1_12_d1, x_79_1_12_d2, x_79_1_12_d3, x_79_1_12_d4, x_7_2_I, x_7_2_A, x_7_2_U, x_4_2, x_1, x_63, x_60, x_61, x_36, x_33, x_72, x_4_1, x_69, x_73, x_82, x_7_3_I, x_7_3_A, x_7_3_U, x_7_4_I, x_7_4_A, x_7_4_U, x_4_4, x_65, x_14, x_15, x_12, x_11, x_7_5_I, x_7_5_A, x_7_5_U, x_34, x_40_212, x_68, x_4_3, x_62, x_4_5, x_10_4_I, x_10_4_A, x_10_4_U, cb_ri, cb_rl, cb_rv, cb_th, cb_ite, ps_s, ps_n, u_278_0, u_278_15, u_278_16, u_278_30, u_278_41, u_278_42, u_278_43, u_278_95, u_278_98, u_278_104, i2, i3, i4, ew, tn, ey, c1, w32_id, ci, Int.reduceEq, Int.reduceLT, Int.reduceLE, reduceIte, Int.reduceAdd, Int.reduceSub, Int.reduceMul, Int.reduceNeg, Int.reduceToNat, Bool.false_eq_true, eq_self, if_pos, if_neg]
            · rw [if_neg c1]
              by_cases c2 : wqF q < x
              · rw [Int.min_eq_right (by omega)]
                simp (disch := omega) only [x_6_0, x_79_1_12_d0, x_79_1_12_d1, x_79_1_12_d2, x_79_1_12_d3, x_79_1_12_d4, x_7_2_I, x_7_2_A, x_7_2_U, x_4_2, x_1, x_63, x_60, x_61, x_36, x_33, x_72, x_4_1, x_69, x_73, x_82, x_7_3_I, x_7_3_A, x_7_3_U, x_7_4_I, x_7_4_A, x_7_4_U, x_4_4, x_65, x_14, x_15, x_12, x_11, x_7_5_I, x_7_5_A, x_7_5_U, x_34, x_40_212, x_68, x_4_3, x_62, x_4_5, x_10_4_I, x_10_4_A, x_10_4_U, cb_ri, cb_rl, cb_rv, cb_th, cb_ite, ps_s, ps_n, u_278_0, u_278_15, u_278_16, u_278_30, u_278_41, u_278_42, u_278_43, u_278_95, u_278_98, u_278_104, i2, i3, i4, ew, tn, ey, c1, c2, w32_id, ci, Int.reduceEq, Int.reduceLT, Int.reduceLE, reduceIte, Int.reduceAdd, Int.reduceSub, Int.reduceMul, Int.reduceNeg, Int.reduceToNat, Bool.false_eq_true, eq_self, if_pos, if_neg]
              · rw [Int.min_eq_left (by omega)]
                simp (disch := omega) only [x_6_0, x_79_1_12_d0, x_79_1_12_d1, x_79_1_12_d2, x_79_1_12_d3, x_79_1_12_d4, x_7_2_I, x_7_2_A, x_7_2_U, x_4_2, x_1, x_63, x_60, x_61, x_36, x_33, x_72, x_4_1, x_69, x_73, x_82, x_7_3_I, x_7_3_A, x_7_3_U, x_7_4_I, x_7_4_A, x_7_4_U, x_4_4, x_65, x_14, x_15, x_12, x_11, x_7_5_I, x_7_5_A, x_7_5_U, x_34, x_40_212, x_68, x_4_3, x_62, x_4_5, x_10_4_I, x_10_4_A, x_10_4_U, cb_ri, cb_rl, cb_rv, cb_th, cb_ite, ps_s, ps_n, u_278_0, u_278_15, u_278_16, u_278_30, u_278_41, u_278_42, u_278_43, u_278_95, u_278_98, u_278_104, i2, i3, i4, ew, tn, ey, c1, c2, w32_id, ci, Int.reduceEq, Int.reduceLT, Int.reduceLE, reduceIte, Int.reduceAdd, Int.reduceSub, Int.reduceMul, Int.reduceNeg, Int.reduceToNat, Bool.false_eq_true, eq_self, if_pos, if_neg]
          | false =>
            rw [hb, ef] at ey
            rw [if_neg (by decide)]
            simp (disch := omega) only [x_6_0, x_79_1_12_d0, x_79_1_12_d1, x_79_1_12_d2, x_79_1_12_d3, x_79_1_12_d4, x_7_2_I, x_7_2_A, x_7_2_U, x_4_2, x_1, x_63, x_60, x_61, x_36, x_33, x_72, x_4_1, x_69, x_73, x_82, x_7_3_I, x_7_3_A, x_7_3_U, x_7_4_I, x_7_4_A, x_7_4_U, x_4_4, x_65, x_14, x_15, x_12, x_11, x_7_5_I, x_7_5_A, x_7_5_U, x_34, x_40_212, x_68, x_4_3, x_62, x_4_5, x_10_4_I, x_10_4_A, x_10_4_U, cb_ri, cb_rl, cb_rv, cb_th, cb_ite, ps_s, ps_n, u_278_0, u_278_15, u_278_16, u_278_30, u_278_41, u_278_42, u_278_43, u_278_95, u_278_98, u_278_104, i2, i3, i4, ew, tn, ey, w32_id, ci, Int.reduceEq, Int.reduceLT, Int.reduceLE, reduceIte, Int.reduceAdd, Int.reduceSub, Int.reduceMul, Int.reduceNeg, Int.reduceToNat, Bool.false_eq_true, eq_self, if_pos, if_neg]
        · intro v
          show run _ _ _ _ _ _ = _
          rw [hd_278_48]
          simp (disch := omega) only [x_6_0, x_79_1_12_d0, x_79_1_12_d1, x_79_1_12_d2, x_79_1_12_d3, x_79_1_12_d4, x_7_2_I, x_7_2_A, x_7_2_U, x_4_2, x_1, x_63, x_60, x_61, x_36, x_33, x_72, x_4_1, x_69, x_73, x_82, x_7_3_I, x_7_3_A, x_7_3_U, x_7_4_I, x_7_4_A, x_7_4_U, x_4_4, x_65, x_14, x_15, x_12, x_11, x_7_5_I, x_7_5_A, x_7_5_U, x_34, x_40_212, x_68, x_4_3, x_62, x_4_5, x_10_4_I, x_10_4_A, x_10_4_U, cb_ri, cb_rl, cb_rv, cb_th, cb_ite, ps_s, ps_n, u_278_0, u_278_15, u_278_16, u_278_30, u_278_41, u_278_42, u_278_43, u_278_95, u_278_98, u_278_104, Int.reduceEq, Int.reduceLT, Int.reduceLE, reduceIte, Int.reduceAdd, Int.reduceSub, Int.reduceMul, Int.reduceNeg, Int.reduceToNat, Bool.false_eq_true, eq_self, if_pos, if_neg]
  · have nrw := isNoteRows_c (lc + 78) e N (h 148 0) (hset h 149 0 0 0) e1 t8 (Decidable.isFalse ok)
    rw [if_neg ok] at nrw
    refine AGt_ue I 0 (by decide) ⟨hset h 149 0 0 0, ?_, Sm_r _ _⟩ (fun g s => ⟨0, hset (hset g 194 0 0 0) 186 0 0 1, ?_, hs_eq _ _ _ _ _, rsc_186 _ 1⟩)
    · show cl (lc + 80) _ _ _ = _
      rw [in_122]
      simp (disch := omega) only [x_6_0, x_35_0, x_79_1_8_d0, x_79_1_8_d1, x_79_1_8_d2, x_79_1_8_d3, x_79_1_8_d4, x_7_2_I, x_7_2_A, x_7_2_U, x_4_2, x_33, x_79_3_8_d0, x_79_3_8_d1, x_79_3_8_d2, x_79_3_8_d3, x_79_3_8_d4, x_69, x_84, x_79_3_0_d0, x_79_3_0_d1, x_79_3_0_d2, x_79_3_0_d3, x_79_3_0_d4, x_4_1, x_68, x_60, x_61, x_82, cb_ri, cb_rl, cb_rv, cb_th, cb_ite, ps_s, ps_n, u_122_0, u_122_37, u_122_63, u_122_70, uu, h40, nrw, Int.reduceEq, Int.reduceLT, Int.reduceLE, reduceIte, Int.reduceAdd, Int.reduceSub, Int.reduceMul, Int.reduceNeg, Int.reduceToNat, Bool.false_eq_true, eq_self, if_pos, if_neg]
    · show cl (lr + 80) _ _ _ = _
      obtain ⟨y1, y2, y3⟩ := rows_u h e s e3 e4
      have hm := heard_n (lr + 76) N e (h 187 0) (h 148 0) g y1 e1 y3 m4 y2 ok
      rw [in_278]
      simp (disch := omega) only [x_6_0, x_79_1_12_d0, x_79_1_12_d1, x_79_1_12_d2, x_79_1_12_d3, x_79_1_12_d4, x_7_2_I, x_7_2_A, x_7_2_U, x_4_2, x_1, x_63, x_60, x_61, x_36, x_33, x_72, x_4_1, x_69, x_73, x_82, x_7_3_I, x_7_3_A, x_7_3_U, x_7_4_I, x_7_4_A, x_7_4_U, x_4_4, x_65, x_14, x_15, x_12, x_11, x_7_5_I, x_7_5_A, x_7_5_U, x_34, x_40_212, x_68, x_4_3, x_62, x_4_5, x_10_4_I, x_10_4_A, x_10_4_U, cb_ri, cb_rl, cb_rv, cb_th, cb_ite, ps_s, ps_n, u_278_0, u_278_15, u_278_16, u_278_30, u_278_41, u_278_42, u_278_43, u_278_95, u_278_98, u_278_104, hm, hs_eq, Int.reduceEq, Int.reduceLT, Int.reduceLE, reduceIte, Int.reduceAdd, Int.reduceSub, Int.reduceMul, Int.reduceNeg, Int.reduceToNat, Bool.false_eq_true, eq_self, if_pos, if_neg]
def akF (x : Nat → Int) (s : Int) : Nat → Int × Int
  | 0 => (-1, s)
  | n + 1 => if x n < (akF x s n).2 then ((n : Int), x n) else akF x s n
theorem akF_e {x : Nat → Int} {s1 s2 : Int} (h1 : ∀ n, x n < s1) (h2 : ∀ n, x n < s2) : ∀ n, (akF x s1 n).1 = (akF x s2 n).1 ∧ (n = 0 ∨ (akF x s1 n).2 = (akF x s2 n).2) := by
  intro n
  induction n with
  | zero => exact ⟨rfl, Or.inl rfl⟩
  | succ n ih =>
    simp only [akF]
    by_cases c : n = 0
    · subst c
      have a1 : x 0 < (akF x s1 0).2 := h1 0
      have a2 : x 0 < (akF x s2 0).2 := h2 0
      rw [if_pos a1, if_pos a2]
      exact ⟨rfl, Or.inr rfl⟩
    · obtain ⟨i1, i2⟩ := ih
      have i2 : (akF x s1 n).2 = (akF x s2 n).2 := i2.resolve_left c
      rw [i2]
      split
      · exact ⟨rfl, Or.inr rfl⟩
      · exact ⟨i1, Or.inr i2⟩
theorem ag_ask (lc lr H N : Nat) (h : Hp) (I : INV h H N) : AGt t0 (fun h => cl (lc + 80) 123 [aA 11 0] h) (fun h => cl (lr + 80) 279 [aA 12 0] h) h := by
  obtain ⟨e, e1, e2, e3, e4⟩ := I.2.1
  have hk := GN_key I.1.2.1.2.1
  have hN := I.1.2.1.2.1.2.1
  have m4 := I.1.2.1.2.1.1
  have uu := useUp_c (lc + 78) h
  rw [e2] at uu
  have ez : boI true = 1 := rfl
  have ef : boI false = 0 := rfl
  have h40 : hset h 149 0 0 0 140 0 0 = (N : Int) := by rw [hs_t (by omega)]; exact I.1.1.2.1.1
  have r2 : RS (hset h 149 0 0 0) 0 (h 187 0) H N := RS_e (fun t i ht => hs_t (by unfold stTag at ht; omega)) I.1.1
  have t8 : ∀ j, j < 400 → hset h 149 0 0 0 148 0 j = h 148 0 j := fun j _ => hs_t (by omega)
  by_cases ok : rowsB (h 148 0) N e
  · have nrw := isNoteRows_c (lc + 78) e N (h 148 0) (hset h 149 0 0 0) e1 t8 (Decidable.isTrue ok)
    rw [if_pos ok] at nrw
    have wc := weighG_c (lc + 76) H N e (h 187 0) (h 148 0) (hset h 149 0 0 0) r2 hk t8 (fun j hj => (e4 j hj).2.1) ok
    obtain ⟨x1, x2, x3, x4⟩ := wgH_x (g := hset h 149 0 0 0) (M := h 187 0) (t := h 148 0) (e := e) hN 640
    have cb := cnt_le (fqB (h 187 0) (h 148 0) e) 640
    have cn : ∀ n, cnt (fun p => fqB (h 187 0) (h 148 0) e p && hqB (h 187 0) p n) 640 ≤ cnt (fqB (h 187 0) (h 148 0) e) 640 := fun n => cnt_mono (fun i _ z => by rw [Bool.and_eq_true] at z; exact z.1)
    have y4 : wgH (hset h 149 0 0 0) (h 187 0) (h 148 0) e N 640 140 0 0 = (N : Int) := by rw [x4 140 0 0 (by omega)]; exact h40
    refine AGt_u I (v := if cnt (fqB (h 187 0) (h 148 0) e) 640 < 2 then -1 else (akF (fun n => max ((cnt (fun p => fqB (h 187 0) (h 148 0) e p && hqB (h 187 0) p n) 640 : Nat) : Int) (((cnt (fqB (h 187 0) (h 148 0) e) 640 : Nat) : Int) - ((cnt (fun p => fqB (h 187 0) (h 148 0) e p && hqB (h 187 0) p n) 640 : Nat) : Int))) 2000000000 N).1) ⟨wgH (hset h 149 0 0 0) (h 187 0) (h 148 0) e N 640, ?_, Sm_wg hN⟩ (fun g s => ⟨hset (htH (hset g 194 0 0 0) (fqB (h 187 0) (h 148 0) e) 640) 186 0 0 0, ?_, hs_eq _ _ _ _ _, Sm_t Sm_ht (rsc_186 _ 0)⟩)
    · show cl (lc + 80) _ _ _ = _
      have ke := akF_e (x := fun n => max ((cnt (fun p => fqB (h 187 0) (h 148 0) e p && hqB (h 187 0) p n) 640 : Nat) : Int) (((cnt (fqB (h 187 0) (h 148 0) e) 640 : Nat) : Int) - ((cnt (fun p => fqB (h 187 0) (h 148 0) e p && hqB (h 187 0) p n) 640 : Nat) : Int))) (s1 := ((cnt (fqB (h 187 0) (h 148 0) e) 640 : Nat) : Int) + 1) (s2 := 2000000000) (fun n => by have := cn n; show max _ _ < _; omega) (fun n => by have := cn n; show max _ _ < _; omega) N
      rw [← ke.1]
      generalize wgH (hset h 149 0 0 0) (h 187 0) (h 148 0) e N 640 = y at *
      have nt : cl (lc + 79) 4 [aA 0 0, aA 7 0] y = ri (if cnt (fqB (h 187 0) (h 148 0) e) 640 < 2 then -1 else (akF (fun n => max ((cnt (fun p => fqB (h 187 0) (h 148 0) e p && hqB (h 187 0) p n) 640 : Nat) : Int) (((cnt (fqB (h 187 0) (h 148 0) e) 640 : Nat) : Int) - ((cnt (fun p => fqB (h 187 0) (h 148 0) e p && hqB (h 187 0) p n) 640 : Nat) : Int))) (((cnt (fqB (h 187 0) (h 148 0) e) 640 : Nat) : Int) + 1) N).1) y := by
        rw [in_4]
        by_cases c : cnt (fqB (h 187 0) (h 148 0) e) 640 < 2
        · rw [if_pos c]
          simp (disch := omega) only [x_6_0, x_33, x_1, x_65, x_82, x_7_2_I, x_7_2_A, x_7_2_U, x_11, x_7_3_I, x_7_3_A, x_7_3_U, x_7_4_I, x_7_4_A, x_7_4_U, x_61, x_4_4, x_6_1, x_34, x_38_101, x_12, x_80_2_d0, x_80_2_d1, x_80_2_d2, x_80_2_d3, x_80_2_d4, x_7_5_I, x_7_5_A, x_7_5_U, x_4_5, x_4_3, x_10_4_I, x_10_4_A, x_10_4_U, x_60, x_4_2, cb_ri, cb_rl, cb_rv, cb_th, cb_ite, ps_s, ps_n, u_4_0, u_4_10, u_4_67, u_4_73, x1, Int.reduceEq, Int.reduceLT, Int.reduceLE, reduceIte, Int.reduceAdd, Int.reduceSub, Int.reduceMul, Int.reduceNeg, Int.reduceToNat, Bool.false_eq_true, eq_self, if_pos, if_neg]
        · rw [if_neg c]
          simp (disch := omega) only [x_6_0, x_33, x_1, x_65, x_82, x_7_2_I, x_7_2_A, x_7_2_U, x_11, x_7_3_I, x_7_3_A, x_7_3_U, x_7_4_I, x_7_4_A, x_7_4_U, x_61, x_4_4, x_6_1, x_34, x_38_101, x_12, x_80_2_d0, x_80_2_d1, x_80_2_d2, x_80_2_d3, x_80_2_d4, x_7_5_I, x_7_5_A, x_7_5_U, x_4_5, x_4_3, x_10_4_I, x_10_4_A, x_10_4_U, x_60, x_4_2, cb_ri, cb_rl, cb_rv, cb_th, cb_ite, ps_s, ps_n, u_4_0, u_4_10, u_4_67, u_4_73, x1, w32_id, Int.reduceEq, Int.reduceLT, Int.reduceLE, reduceIte, Int.reduceAdd, Int.reduceSub, Int.reduceMul, Int.reduceNeg, Int.reduceToNat, Bool.false_eq_true, eq_self, if_pos, if_neg]
          generalize cnt (fqB (h 187 0) (h 148 0) e) 640 = ct at *
          refine loop_g (F := fun n (v : AV) => run (lc + 78) 4 22 [aA 0 0, aA 7 0, aI (akF (fun n => max ((cnt (fun p => fqB (h 187 0) (h 148 0) e p && hqB (h 187 0) p n) 640 : Nat) : Int) ((ct : Int) - ((cnt (fun p => fqB (h 187 0) (h 148 0) e p && hqB (h 187 0) p n) 640 : Nat) : Int))) ((ct : Int) + 1) n).1, aI (akF (fun n => max ((cnt (fun p => fqB (h 187 0) (h 148 0) e p && hqB (h 187 0) p n) 640 : Nat) : Int) ((ct : Int) - ((cnt (fun p => fqB (h 187 0) (h 148 0) e p && hqB (h 187 0) p n) 640 : Nat) : Int))) ((ct : Int) + 1) n).2, aI (n : Int), v] [] y) (N := N) ?_ ?_ none
          · intro n v hn
            have hv := x3 n hn
            have hc := cn n
            refine ⟨aI (max ((cnt (fun p => fqB (h 187 0) (h 148 0) e p && hqB (h 187 0) p n) 640 : Nat) : Int) ((ct : Int) - ((cnt (fun p => fqB (h 187 0) (h 148 0) e p && hqB (h 187 0) p n) 640 : Nat) : Int))), ?_⟩
            show run _ _ _ _ _ _ = run _ _ _ _ _ _
            simp only [akF]
            generalize akF (fun n => max ((cnt (fun p => fqB (h 187 0) (h 148 0) e p && hqB (h 187 0) p n) 640 : Nat) : Int) ((ct : Int) - ((cnt (fun p => fqB (h 187 0) (h 148 0) e p && hqB (h 187 0) p n) 640 : Nat) : Int))) ((ct : Int) + 1) n = a
            generalize cnt (fun p => fqB (h 187 0) (h 148 0) e p && hqB (h 187 0) p n) 640 = cc at *
            have mx := max_c (lc + 77) (cc : Int) ((ct : Int) - (cc : Int)) y
            rw [hd_4_22]
            generalize max (cc : Int) ((ct : Int) - (cc : Int)) = mm at *
            by_cases d : mm < a.2
            · rw [if_pos d]
              simp (disch := omega) only [x_6_0, x_33, x_1, x_65, x_82, x_7_2_I, x_7_2_A, x_7_2_U, x_11, x_7_3_I, x_7_3_A, x_7_3_U, x_7_4_I, x_7_4_A, x_7_4_U, x_61, x_4_4, x_6_1, x_34, x_38_101, x_12, x_80_2_d0, x_80_2_d1, x_80_2_d2, x_80_2_d3, x_80_2_d4, x_7_5_I, x_7_5_A, x_7_5_U, x_4_5, x_4_3, x_10_4_I, x_10_4_A, x_10_4_U, x_60, x_4_2, cb_ri, cb_rl, cb_rv, cb_th, cb_ite, ps_s, ps_n, u_4_0, u_4_10, u_4_67, u_4_73, y4, x1, tn, hv, mx, d, w32_id, ci, Int.reduceEq, Int.reduceLT, Int.reduceLE, reduceIte, Int.reduceAdd, Int.reduceSub, Int.reduceMul, Int.reduceNeg, Int.reduceToNat, Bool.false_eq_true, eq_self, if_pos, if_neg]
            · rw [if_neg d]
              simp (disch := omega) only [x_6_0, x_33, x_1, x_65, x_82, x_7_2_I, x_7_2_A, x_7_2_U, x_11, x_7_3_I, x_7_3_A, x_7_3_U, x_7_4_I, x_7_4_A, x_7_4_U, x_61, x_4_4, x_6_1, x_34, x_38_101, x_12, x_80_2_d0, x_80_2_d1, x_80_2_d2, x_80_2_d3, x_80_2_d4, x_7_5_I, x_7_5_A, x_7_5_U, x_4_5, x_4_3, x_10_4_I, x_10_4_A, x_10_4_U, x_60, x_4_2, cb_ri, cb_rl, cb_rv, cb_th, cb_ite, ps_s, ps_n, u_4_0, u_4_10, u_4_67, u_4_73, y4, x1, tn, hv, mx, d, w32_id, ci, Int.reduceEq, Int.reduceLT, Int.reduceLE, reduceIte, Int.reduceAdd, Int.reduceSub, Int.reduceMul, Int.reduceNeg, Int.reduceToNat, Bool.false_eq_true, eq_self, if_pos, if_neg]
          · intro v
            show run _ _ _ _ _ _ = _
            rw [hd_4_22]
            simp (disch := omega) only [x_6_0, x_33, x_1, x_65, x_82, x_7_2_I, x_7_2_A, x_7_2_U, x_11, x_7_3_I, x_7_3_A, x_7_3_U, x_7_4_I, x_7_4_A, x_7_4_U, x_61, x_4_4, x_6_1, x_34, x_38_101, x_12, x_80_2_d0, x_80_2_d1, x_80_2_d2, x_80_2_d3, x_80_2_d4, x_7_5_I, x_7_5_A, x_7_5_U, x_4_5, x_4_3, x_10_4_I, x_10_4_A, x_10_4_U, x_60, x_4_2, cb_ri, cb_rl, cb_rv, cb_th, cb_ite, ps_s, ps_n, u_4_0, u_4_10, u_4_67, u_4_73, y4, Int.reduceEq, Int.reduceLT, Int.reduceLE, reduceIte, Int.reduceAdd, Int.reduceSub, Int.reduceMul, Int.reduceNeg, Int.reduceToNat, Bool.false_eq_true, eq_self, if_pos, if_neg]
      rw [in_123]
      simp (disch := omega) only [x_6_0, x_35_0, x_79_1_8_d0, x_79_1_8_d1, x_79_1_8_d2, x_79_1_8_d3, x_79_1_8_d4, x_7_1_I, x_7_1_A, x_7_1_U, x_4_1, x_33, x_79_3_8_d0, x_79_3_8_d1, x_79_3_8_d2, x_79_3_8_d3, x_79_3_8_d4, x_69, x_84, x_79_3_0_d0, x_79_3_0_d1, x_79_3_0_d2, x_79_3_0_d3, x_79_3_0_d4, x_79_2_0_d0, x_79_2_0_d1, x_79_2_0_d2, x_79_2_0_d3, x_79_2_0_d4, x_82, cb_ri, cb_rl, cb_rv, cb_th, cb_ite, ps_s, ps_n, u_123_0, u_123_37, uu, h40, nrw, wc, nt, Int.reduceEq, Int.reduceLT, Int.reduceLE, reduceIte, Int.reduceAdd, Int.reduceSub, Int.reduceMul, Int.reduceNeg, Int.reduceToNat, Bool.false_eq_true, eq_self, if_pos, if_neg]
    · show cl (lr + 80) _ _ _ = _
      obtain ⟨y1, y2, y3⟩ := rows_u h e s e3 e4
      have hm := heard_m (lr + 76) N e (h 187 0) (h 148 0) g y1 e1 y3 m4 hN hk y2 (fun j hj => (e4 j hj).2.1) ok
      have z7 : hset (htH (hset g 194 0 0 0) (fqB (h 187 0) (h 148 0) e) 640) 186 0 0 0 187 0 = h 187 0 := by rw [← y3]; exact funext (fun j => by rw [hs_t (by omega), htH_o _ _ _ (by omega), hs_t (by omega)])
      have z2 : ∀ q, q < 640 → hset (htH (hset g 194 0 0 0) (fqB (h 187 0) (h 148 0) e) 640) 186 0 0 0 212 0 q = boI (fqB (h 187 0) (h 148 0) e q) := fun q hq => by rw [hs_t (by omega)]; exact htH_i _ _ hq
      have nc : ¬ ((cnt (fqB (h 187 0) (h 148 0) e) 640 : Nat) : Int) = -1 := by omega
      rw [in_279]
      simp (disch := omega) only [x_6_0, x_79_1_12_d0, x_79_1_12_d1, x_79_1_12_d2, x_79_1_12_d3, x_79_1_12_d4, x_7_1_I, x_7_1_A, x_7_1_U, x_4_1, x_1, x_63, x_60, x_61, x_36, x_33, x_73, x_82, x_7_2_I, x_7_2_A, x_7_2_U, x_7_3_I, x_7_3_A, x_7_3_U, x_7_4_I, x_7_4_A, x_7_4_U, x_4_4, x_34, x_38_187, x_65, x_67, x_7_5_I, x_7_5_A, x_7_5_U, x_7_6_I, x_7_6_A, x_7_6_U, x_4_6, x_4_5, x_40_212, x_68, x_79_3_12_d0, x_79_3_12_d1, x_79_3_12_d2, x_79_3_12_d3, x_79_3_12_d4, x_11, x_10_6_I, x_10_6_A, x_10_6_U, x_12, x_80_2_d0, x_80_2_d1, x_80_2_d2, x_80_2_d3, x_80_2_d4, x_4_3, x_64, x_10_4_I, x_10_4_A, x_10_4_U, x_4_2, cb_ri, cb_rl, cb_rv, cb_th, cb_ite, ps_s, ps_n, u_279_0, u_279_15, u_279_16, u_279_28, u_279_94, u_279_95, u_279_104, u_279_120, u_279_133, u_279_139, hm, nc, hs_eq, Int.reduceEq, Int.reduceLT, Int.reduceLE, reduceIte, Int.reduceAdd, Int.reduceSub, Int.reduceMul, Int.reduceNeg, Int.reduceToNat, Bool.false_eq_true, eq_self, if_pos, if_neg]
      generalize hset (htH (hset g 194 0 0 0) (fqB (h 187 0) (h 148 0) e) 640) 186 0 0 0 = y at *
      have z4 : y 187 0 4 = (N : Int) := by rw [z7]; exact m4
      by_cases c : cnt (fqB (h 187 0) (h 148 0) e) 640 < 2
      · rw [if_pos c, hd_279_37]
        by_cases c0 : 0 < N
        · simp (disch := omega) only [x_6_0, x_79_1_12_d0, x_79_1_12_d1, x_79_1_12_d2, x_79_1_12_d3, x_79_1_12_d4, x_7_1_I, x_7_1_A, x_7_1_U, x_4_1, x_1, x_63, x_60, x_61, x_36, x_33, x_73, x_82, x_7_2_I, x_7_2_A, x_7_2_U, x_7_3_I, x_7_3_A, x_7_3_U, x_7_4_I, x_7_4_A, x_7_4_U, x_4_4, x_34, x_38_187, x_65, x_67, x_7_5_I, x_7_5_A, x_7_5_U, x_7_6_I, x_7_6_A, x_7_6_U, x_4_6, x_4_5, x_40_212, x_68, x_79_3_12_d0, x_79_3_12_d1, x_79_3_12_d2, x_79_3_12_d3, x_79_3_12_d4, x_11, x_10_6_I, x_10_6_A, x_10_6_U, x_12, x_80_2_d0, x_80_2_d1, x_80_2_d2, x_80_2_d3, x_80_2_d4, x_4_3, x_64, x_10_4_I, x_10_4_A, x_10_4_U, x_4_2, cb_ri, cb_rl, cb_rv, cb_th, cb_ite, ps_s, ps_n, u_279_0, u_279_15, u_279_16, u_279_28, u_279_94, u_279_95, u_279_104, u_279_120, u_279_133, u_279_139, z4, Int.reduceEq, Int.reduceLT, Int.reduceLE, reduceIte, Int.reduceAdd, Int.reduceSub, Int.reduceMul, Int.reduceNeg, Int.reduceToNat, Bool.false_eq_true, eq_self, if_pos, if_neg]
        · simp (disch := omega) only [x_6_0, x_79_1_12_d0, x_79_1_12_d1, x_79_1_12_d2, x_79_1_12_d3, x_79_1_12_d4, x_7_1_I, x_7_1_A, x_7_1_U, x_4_1, x_1, x_63, x_60, x_61, x_36, x_33, x_73, x_82, x_7_2_I, x_7_2_A, x_7_2_U, x_7_3_I, x_7_3_A, x_7_3_U, x_7_4_I, x_7_4_A, x_7_4_U, x_4_4, x_34, x_38_187, x_65, x_67, x_7_5_I, x_7_5_A, x_7_5_U, x_7_6_I, x_7_6_A, x_7_6_U, x_4_6, x_4_5, x_40_212, x_68, x_79_3_12_d0, x_79_3_12_d1, x_79_3_12_d2, x_79_3_12_d3, x_79_3_12_d4, x_11, x_10_6_I, x_10_6_A, x_10_6_U, x_12, x_80_2_d0, x_80_2_d1, x_80_2_d2, x_80_2_d3, x_80_2_d4, x_4_3, x_64, x_10_4_I, x_10_4_A, x_10_4_U, x_4_2, cb_ri, cb_rl, cb_rv, cb_th, cb_ite, ps_s, ps_n, u_279_0, u_279_15, u_279_16, u_279_28, u_279_94, u_279_95, u_279_104, u_279_120, u_279_133, u_279_139, z4, Int.reduceEq, Int.reduceLT, Int.reduceLE, reduceIte, Int.reduceAdd, Int.reduceSub, Int.reduceMul, Int.reduceNeg, Int.reduceToNat, Bool.false_eq_true, eq_self, if_pos, if_neg]
      · rw [if_neg c]
        generalize cnt (fqB (h 187 0) (h 148 0) e) 640 = ct at *
        refine loop_g (F := fun n (v : AV × AV) => run (lr + 79) 279 37 [aA 12 0, aI (ct : Int), aI (akF (fun n => max ((cnt (fun p => fqB (h 187 0) (h 148 0) e p && hqB (h 187 0) p n) 640 : Nat) : Int) ((ct : Int) - ((cnt (fun p => fqB (h 187 0) (h 148 0) e p && hqB (h 187 0) p n) 640 : Nat) : Int))) 2000000000 n).1, aI (akF (fun n => max ((cnt (fun p => fqB (h 187 0) (h 148 0) e p && hqB (h 187 0) p n) 640 : Nat) : Int) ((ct : Int) - ((cnt (fun p => fqB (h 187 0) (h 148 0) e p && hqB (h 187 0) p n) 640 : Nat) : Int))) 2000000000 n).2, aI (n : Int), v.1, v.2] [] y) (N := N) ?_ ?_ (none, none)
        · intro n v hn
          have hc := cn n
          refine ⟨(aI ((cnt (fun p => fqB (h 187 0) (h 148 0) e p && hqB (h 187 0) p n) 640 : Nat) : Int), aI ((640 : Nat) : Int)), ?_⟩
          show run _ _ _ _ _ _ = run _ _ _ _ _ _
          simp only [akF]
          generalize akF (fun n => max ((cnt (fun p => fqB (h 187 0) (h 148 0) e p && hqB (h 187 0) p n) 640 : Nat) : Int) ((ct : Int) - ((cnt (fun p => fqB (h 187 0) (h 148 0) e p && hqB (h 187 0) p n) 640 : Nat) : Int))) 2000000000 n = a
          have main := loop_up (F := fun q => run (lr + 79) 279 59 [aA 12 0, aI (ct : Int), aI a.1, aI a.2, aI (n : Int), aI ((cnt (fun p => fqB (h 187 0) (h 148 0) e p && hqB (h 187 0) p n) q : Nat) : Int), aI (q : Int)] [] y) (N := 640) (r := run (lr + 79) 279 104 [aA 12 0, aI (ct : Int), aI a.1, aI a.2, aI (n : Int), aI ((cnt (fun p => fqB (h 187 0) (h 148 0) e p && hqB (h 187 0) p n) 640 : Nat) : Int), aI ((640 : Nat) : Int)] [] y) ?_ ?_ 0 (by omega)
          · rw [hd_279_37]
            simp (disch := omega) only [x_6_0, x_79_1_12_d0, x_79_1_12_d1, x_79_1_12_d2, x_79_1_12_d3, x_79_1_12_d4, x_7_1_I, x_7_1_A, x_7_1_U, x_4_1, x_1, x_63, x_60, x_61, x_36, x_33, x_73, x_82, x_7_2_I, x_7_2_A, x_7_2_U, x_7_3_I, x_7_3_A, x_7_3_U, x_7_4_I, x_7_4_A, x_7_4_U, x_4_4, x_34, x_38_187, x_65, x_67, x_7_5_I, x_7_5_A, x_7_5_U, x_7_6_I, x_7_6_A, x_7_6_U, x_4_6, x_4_5, x_40_212, x_68, x_79_3_12_d0, x_79_3_12_d1, x_79_3_12_d2, x_79_3_12_d3, x_79_3_12_d4, x_11, x_10_6_I, x_10_6_A, x_10_6_U, x_12, x_80_2_d0, x_80_2_d1, x_80_2_d2, x_80_2_d3, x_80_2_d4, x_4_3, x_64, x_10_4_I, x_10_4_A, x_10_4_U, x_4_2, cb_ri, cb_rl, cb_rv, cb_th, cb_ite, ps_s, ps_n, u_279_0, u_279_15, u_279_16, u_279_28, u_279_94, u_279_95, u_279_120, u_279_133, u_279_139, z4, Int.reduceEq, Int.reduceLT, Int.reduceLE, reduceIte, Int.reduceAdd, Int.reduceSub, Int.reduceMul, Int.reduceNeg, Int.reduceToNat, Bool.false_eq_true, eq_self, if_pos, if_neg]
            refine Eq.trans main ?_
            generalize cnt (fun p => fqB (h 187 0) (h 148 0) e p && hqB (h 187 0) p n) 640 = cc at *
            have mx := greater_c (lr + 78) (cc : Int) ((ct : Int) - (cc : Int)) y
            generalize max (cc : Int) ((ct : Int) - (cc : Int)) = mm at *
            by_cases d : mm < a.2
            · rw [if_pos d]
              simp (disch := omega) only [x_6_0, x_79_1_12_d0, x_79_1_12_d1, x_79_1_12_d2, x_79_1_12_d3, x_79_1_12_d4, x_7_1_I, x_7_1_A, x_7_1_U, x_4_1, x_1, x_63, x_60, x_61, x_36, x_33, x_73, x_82, x_7_2_I, x_7_2_A, x_7_2_U, x_7_3_I, x_7_3_A, x_7_3_U, x_7_4_I, x_7_4_A, x_7_4_U, x_4_4, x_34, x_38_187, x_65, x_67, x_7_5_I, x_7_5_A, x_7_5_U, x_7_6_I, x_7_6_A, x_7_6_U, x_4_6, x_4_5, x_40_212, x_68, x_79_3_12_d0, x_79_3_12_d1, x_79_3_12_d2, x_79_3_12_d3, x_79_3_12_d4, x_11, x_10_6_I, x_10_6_A, x_10_6_U, x_12, x_80_2_d0, x_80_2_d1, x_80_2_d2, x_80_2_d3, x_80_2_d4, x_4_3, x_64, x_10_4_I, x_10_4_A, x_10_4_U, x_4_2, cb_ri, cb_rl, cb_rv, cb_th, cb_ite, ps_s, ps_n, u_279_0, u_279_15, u_279_16, u_279_28, u_279_94, u_279_95, u_279_104, u_279_120, u_279_133, u_279_139, mx, d, w32_id, ci, Int.reduceEq, Int.reduceLT, Int.reduceLE, reduceIte, Int.reduceAdd, Int.reduceSub, Int.reduceMul, Int.reduceNeg, Int.reduceToNat, Bool.false_eq_true, eq_self, if_pos, if_neg]
            · rw [if_neg d]
              simp (disch := omega) only [x_6_0, x_79_1_12_d0, x_79_1_12_d1, x_79_1_12_d2, x_79_1_12_d3, x_79_1_12_d4, x_7_1_I, x_7_1_A, x_7_1_U, x_4_1, x_1, x_63, x_60, x_61, x_36, x_33, x_73, x_82, x_7_2_I, x_7_2_A, x_7_2_U, x_7_3_I, x_7_3_A, x_7_3_U, x_7_4_I, x_7_4_A, x_7_4_U, x_4_4, x_34, x_38_187, x_65, x_67, x_7_5_I, x_7_5_A, x_7_5_U, x_7_6_I, x_7_6_A, x_7_6_U, x_4_6, x_4_5, x_40_212, x_68, x_79_3_12_d0, x_79_3_12_d1, x_79_3_12_d2, x_79_3_12_d3, x_79_3_12_d4, x_11, x_10_6_I, x_10_6_A, x_10_6_U, x_12, x_80_2_d0, x_80_2_d1, x_80_2_d2, x_80_2_d3, x_80_2_d4, x_4_3, x_64, x_10_4_I, x_10_4_A, x_10_4_U, x_4_2, cb_ri, cb_rl, cb_rv, cb_th, cb_ite, ps_s, ps_n, u_279_0, u_279_15, u_279_16, u_279_28, u_279_94, u_279_95, u_279_104, u_279_120, u_279_133, u_279_139, mx, d, w32_id, ci, Int.reduceEq, Int.reduceLT, Int.reduceLE, reduceIte, Int.reduceAdd, Int.reduceSub, Int.reduceMul, Int.reduceNeg, Int.reduceToNat, Bool.false_eq_true, eq_self, if_pos, if_neg]
          · intro q hq
            have zq := z2 q hq
            have hb' := hasBy_m (lr + 77) N q n y hN (by rw [z7]; exact hk n hn) hn hq
            rw [z7] at hb'
            have cl' := cnt_le (fun p => fqB (h 187 0) (h 148 0) e p && hqB (h 187 0) p n) q
            show run _ _ _ _ _ _ = run _ _ _ [_, _, _, _, _, aI ((cnt (fun p => fqB (h 187 0) (h 148 0) e p && hqB (h 187 0) p n) q + (if (fqB (h 187 0) (h 148 0) e q && hqB (h 187 0) q n) = true then 1 else 0) : Nat) : Int), _] _ _
            have hdef : hqB (h 187 0) q n = hsB (h 187 0) (q / 80) (q / 10 % 8) (q % 10) n := rfl
            rw [hdef, hd_279_59]
            cases hb : fqB (h 187 0) (h 148 0) e q with
            | false =>
              rw [hb, ef] at zq
              rw [Bool.false_and, if_neg (by decide)]
              simp (disch := omega) only [x_6_0, x_79_1_12_d0, x_79_1_12_d1, x_79_1_12_d2, x_79_1_12_d3, x_79_1_12_d4, x_7_1_I, x_7_1_A, x_7_1_U, x_4_1, x_1, x_63, x_60, x_61, x_36, x_33, x_73, x_82, x_7_2_I, x_7_2_A, x_7_2_U, x_7_3_I, x_7_3_A, x_7_3_U, x_7_4_I, x_7_4_A, x_7_4_U, x_4_4, x_34, x_38_187, x_65, x_67, x_7_5_I, x_7_5_A, x_7_5_U, x_7_6_I, x_7_6_A, x_7_6_U, x_4_6, x_4_5, x_40_212, x_68, x_79_3_12_d0, x_79_3_12_d1, x_79_3_12_d2, x_79_3_12_d3, x_79_3_12_d4, x_11, x_10_6_I, x_10_6_A, x_10_6_U, x_12, x_80_2_d0, x_80_2_d1, x_80_2_d2, x_80_2_d3, x_80_2_d4, x_4_3, x_64, x_10_4_I, x_10_4_A, x_10_4_U, x_4_2, cb_ri, cb_rl, cb_rv, cb_th, cb_ite, ps_s, ps_n, u_279_0, u_279_15, u_279_16, u_279_28, u_279_94, u_279_95, u_279_104, u_279_120, u_279_133, u_279_139, tn, zq, w32_id, ci, Int.reduceEq, Int.reduceLT, Int.reduceLE, reduceIte, Int.reduceAdd, Int.reduceSub, Int.reduceMul, Int.reduceNeg, Int.reduceToNat, Bool.false_eq_true, eq_self, if_pos, if_neg, Nat.add_zero, Int.add_zero]
            | true =>
              rw [hb, ez] at zq
              cases hc2 : hsB (h 187 0) (q / 80) (q / 10 % 8) (q % 10) n with
              | true =>
                rw [hc2, ez] at hb'
                rw [if_pos (by decide)]
                simp (disch := omega) only [x_6_0, x_79_1_12_d0, x_79_1_12_d1, x_79_1_12_d2, x_79_1_12_d3, x_79_1_12_d4, x_7_1_I, x_7_1_A, x_7_1_U, x_4_1, x_1, x_63, x_60, x_61, x_36, x_33, x_73, x_82, x_7_2_I, x_7_2_A, x_7_2_U, x_7_3_I, x_7_3_A, x_7_3_U, x_7_4_I, x_7_4_A, x_7_4_U, x_4_4, x_34, x_38_187, x_65, x_67, x_7_5_I, x_7_5_A, x_7_5_U, x_7_6_I, x_7_6_A, x_7_6_U, x_4_6, x_4_5, x_40_212, x_68, x_79_3_12_d0, x_79_3_12_d1, x_79_3_12_d2, x_79_3_12_d3, x_79_3_12_d4, x_11, x_10_6_I, x_10_6_A, x_10_6_U, x_12, x_80_2_d0, x_80_2_d1, x_80_2_d2, x_80_2_d3, x_80_2_d4, x_4_3, x_64, x_10_4_I, x_10_4_A, x_10_4_U, x_4_2, cb_ri, cb_rl, cb_rv, cb_th, cb_ite, ps_s, ps_n, u_279_0, u_279_15, u_279_16, u_279_28, u_279_94, u_279_95, u_279_104, u_279_120, u_279_133, u_279_139, tn, zq, hb', w32_id, ci, Int.reduceEq, Int.reduceLT, Int.reduceLE, reduceIte, Int.reduceAdd, Int.reduceSub, Int.reduceMul, Int.reduceNeg, Int.reduceToNat, Bool.false_eq_true, eq_self, if_pos, if_neg]
              | false =>
                rw [hc2, ef] at hb'
                rw [if_neg (by decide)]
                simp (disch := omega) only [x_6_0, x_79_1_12_d0, x_79_1_12_d1, x_79_1_12_d2, x_79_1_12_d3, x_79_1_12_d4, x_7_1_I, x_7_1_A, x_7_1_U, x_4_1, x_1, x_63, x_60, x_61, x_36, x_33, x_73, x_82, x_7_2_I, x_7_2_A, x_7_2_U, x_7_3_I, x_7_3_A, x_7_3_U, x_7_4_I, x_7_4_A, x_7_4_U, x_4_4, x_34, x_38_187, x_65, x_67, x_7_5_I, x_7_5_A, x_7_5_U, x_7_6_I, x_7_6_A, x_7_6_U, x_4_6, x_4_5, x_40_212, x_68, x_79_3_12_d0, x_79_3_12_d1, x_79_3_12_d2, x_79_3_12_d3, x_79_3_12_d4, x_11, x_10_6_I, x_10_6_A, x_10_6_U, x_12, x_80_2_d0, x_80_2_d1, x_80_2_d2, x_80_2_d3, x_80_2_d4, x_4_3, x_64, x_10_4_I, x_10_4_A, x_10_4_U, x_4_2, cb_ri, cb_rl, cb_rv, cb_th, cb_ite, ps_s, ps_n, u_279_0, u_279_15, u_279_16, u_279_28, u_279_94, u_279_95, u_279_104, u_279_120, u_279_133, u_279_139, tn, zq, hb', w32_id, ci, Int.reduceEq, Int.reduceLT, Int.reduceLE, reduceIte, Int.reduceAdd, Int.reduceSub, Int.reduceMul, Int.reduceNeg, Int.reduceToNat, Bool.false_eq_true, eq_self, if_pos, if_neg, Nat.add_zero, Int.add_zero]
          · show run _ _ _ _ _ _ = _
            rw [hd_279_59]
            simp (disch := omega) only [x_6_0, x_79_1_12_d0, x_79_1_12_d1, x_79_1_12_d2, x_79_1_12_d3, x_79_1_12_d4, x_7_1_I, x_7_1_A, x_7_1_U, x_4_1, x_1, x_63, x_60, x_61, x_36, x_33, x_73, x_82, x_7_2_I, x_7_2_A, x_7_2_U, x_7_3_I, x_7_3_A, x_7_3_U, x_7_4_I, x_7_4_A, x_7_4_U, x_4_4, x_34, x_38_187, x_65, x_67, x_7_5_I, x_7_5_A, x_7_5_U, x_7_6_I, x_7_6_A, x_7_6_U, x_4_6, x_4_5, x_40_212, x_68, x_79_3_12_d0, x_79_3_12_d1, x_79_3_12_d2, x_79_3_12_d3, x_79_3_12_d4, x_11, x_10_6_I, x_10_6_A, x_10_6_U, x_12, x_80_2_d0, x_80_2_d1, x_80_2_d2, x_80_2_d3, x_80_2_d4, x_4_3, x_64, x_10_4_I, x_10_4_A, x_10_4_U, x_4_2, cb_ri, cb_rl, cb_rv, cb_th, cb_ite, ps_s, ps_n, u_279_0, u_279_15, u_279_16, u_279_28, u_279_94, u_279_95, u_279_120, u_279_133, u_279_139, Int.reduceEq, Int.reduceLT, Int.reduceLE, reduceIte, Int.reduceAdd, Int.reduceSub, Int.reduceMul, Int.reduceNeg, Int.reduceToNat, Bool.false_eq_true, eq_self, if_pos, if_neg]
        · intro v
          show run _ _ _ _ _ _ = _
          rw [hd_279_37]
          simp (disch := omega) only [x_6_0, x_79_1_12_d0, x_79_1_12_d1, x_79_1_12_d2, x_79_1_12_d3, x_79_1_12_d4, x_7_1_I, x_7_1_A, x_7_1_U, x_4_1, x_1, x_63, x_60, x_61, x_36, x_33, x_73, x_82, x_7_2_I, x_7_2_A, x_7_2_U, x_7_3_I, x_7_3_A, x_7_3_U, x_7_4_I, x_7_4_A, x_7_4_U, x_4_4, x_34, x_38_187, x_65, x_67, x_7_5_I, x_7_5_A, x_7_5_U, x_7_6_I, x_7_6_A, x_7_6_U, x_4_6, x_4_5, x_40_212, x_68, x_79_3_12_d0, x_79_3_12_d1, x_79_3_12_d2, x_79_3_12_d3, x_79_3_12_d4, x_11, x_10_6_I, x_10_6_A, x_10_6_U, x_12, x_80_2_d0, x_80_2_d1, x_80_2_d2, x_80_2_d3, x_80_2_d4, x_4_3, x_64, x_10_4_I, x_10_4_A, x_10_4_U, x_4_2, cb_ri, cb_rl, cb_rv, cb_th, cb_ite, ps_s, ps_n, u_279_0, u_279_15, u_279_16, u_279_28, u_279_94, u_279_95, u_279_104, u_279_120, u_279_133, u_279_139, z4, Int.reduceEq, Int.reduceLT, Int.reduceLE, reduceIte, Int.reduceAdd, Int.reduceSub, Int.reduceMul, Int.reduceNeg, Int.reduceToNat, Bool.false_eq_true, eq_self, if_pos, if_neg]
  · have nrw := isNoteRows_c (lc + 78) e N (h 148 0) (hset h 149 0 0 0) e1 t8 (Decidable.isFalse ok)
    rw [if_neg ok] at nrw
    refine AGt_ue I 0 (by decide) ⟨hset h 149 0 0 0, ?_, Sm_r _ _⟩ (fun g s => ⟨0, hset (hset g 194 0 0 0) 186 0 0 1, ?_, hs_eq _ _ _ _ _, rsc_186 _ 1⟩)
    · show cl (lc + 80) _ _ _ = _
      rw [in_123]
      simp (disch := omega) only [x_6_0, x_35_0, x_79_1_8_d0, x_79_1_8_d1, x_79_1_8_d2, x_79_1_8_d3, x_79_1_8_d4, x_7_1_I, x_7_1_A, x_7_1_U, x_4_1, x_33, x_79_3_8_d0, x_79_3_8_d1, x_79_3_8_d2, x_79_3_8_d3, x_79_3_8_d4, x_69, x_84, x_79_3_0_d0, x_79_3_0_d1, x_79_3_0_d2, x_79_3_0_d3, x_79_3_0_d4, x_79_2_0_d0, x_79_2_0_d1, x_79_2_0_d2, x_79_2_0_d3, x_79_2_0_d4, x_82, cb_ri, cb_rl, cb_rv, cb_th, cb_ite, ps_s, ps_n, u_123_0, u_123_37, uu, h40, nrw, Int.reduceEq, Int.reduceLT, Int.reduceLE, reduceIte, Int.reduceAdd, Int.reduceSub, Int.reduceMul, Int.reduceNeg, Int.reduceToNat, Bool.false_eq_true, eq_self, if_pos, if_neg]
    · show cl (lr + 80) _ _ _ = _
      obtain ⟨y1, y2, y3⟩ := rows_u h e s e3 e4
      have hm := heard_n (lr + 76) N e (h 187 0) (h 148 0) g y1 e1 y3 m4 y2 ok
      rw [in_279]
      simp (disch := omega) only [x_6_0, x_79_1_12_d0, x_79_1_12_d1, x_79_1_12_d2, x_79_1_12_d3, x_79_1_12_d4, x_7_1_I, x_7_1_A, x_7_1_U, x_4_1, x_1, x_63, x_60, x_61, x_36, x_33, x_73, x_82, x_7_2_I, x_7_2_A, x_7_2_U, x_7_3_I, x_7_3_A, x_7_3_U, x_7_4_I, x_7_4_A, x_7_4_U, x_4_4, x_34, x_38_187, x_65, x_67, x_7_5_I, x_7_5_A, x_7_5_U, x_7_6_I, x_7_6_A, x_7_6_U, x_4_6, x_4_5, x_40_212, x_68, x_79_3_12_d0, x_79_3_12_d1, x_79_3_12_d2, x_79_3_12_d3, x_79_3_12_d4, x_11, x_10_6_I, x_10_6_A, x_10_6_U, x_12, x_80_2_d0, x_80_2_d1, x_80_2_d2, x_80_2_d3, x_80_2_d4, x_4_3, x_64, x_10_4_I, x_10_4_A, x_10_4_U, x_4_2, cb_ri, cb_rl, cb_rv, cb_th, cb_ite, ps_s, ps_n, u_279_0, u_279_15, u_279_16, u_279_28, u_279_94, u_279_95, u_279_104, u_279_120, u_279_133, u_279_139, hm, hs_eq, Int.reduceEq, Int.reduceLT, Int.reduceLE, reduceIte, Int.reduceAdd, Int.reduceSub, Int.reduceMul, Int.reduceNeg, Int.reduceToNat, Bool.false_eq_true, eq_self, if_pos, if_neg]
