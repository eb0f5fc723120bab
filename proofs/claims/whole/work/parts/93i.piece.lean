/-! A NEW PIECE. -/
def pmFr (tt k : Nat) : Prop := k = 0 ∧ (tt = 186 ∨ tt = 187 ∨ tt = 190 ∨ (194 ≤ tt ∧ tt ≤ 199))
theorem piece_m (lv e : Nat) (t : Nat → Int) (g : Hp) (S : PcS) (he : e ≤ 400) (g4 : g 194 0 0 = (e : Int)) (g3 : ∀ i, i < 400 → g 193 0 i = t i) (hm : g 187 0 = S.1) (G : GP S) : match pcOf t e S with
    | .inl f => ∃ h2, cl (lv + 11) 202 [aA 12 0] g = ri 0 h2 ∧ h2 186 0 0 = 1 ∧ h2 198 0 0 = (f : Int) ∧ h2 194 0 0 = 0 ∧ h2 187 0 = S.1 ∧ ∀ tt k j, ¬ pmFr tt k → h2 tt k j = g tt k j
    | .inr S' => GP S' ∧ (∀ j, j = 0 ∨ j = 1 ∨ j = 2 ∨ (8 ≤ j ∧ j < 14) ∨ 106 ≤ j → S'.1 j = S.1 j) ∧ (S.1 0 = 12 → ∃ h2, cl (lv + 11) 202 [aA 12 0] g = ri 0 h2 ∧ h2 186 0 0 = 2 ∧ h2 198 0 0 = -1 ∧ h2 194 0 0 = 0 ∧ h2 187 0 = S.1 ∧ ∀ tt k j, ¬ pmFr tt k → h2 tt k j = g tt k j) ∧ (¬ S.1 0 = 12 → ∃ h2, cl (lv + 11) 202 [aA 12 0] g = ri (S.1 0 + 1) h2 ∧ h2 186 0 0 = 0 ∧ h2 198 0 0 = -1 ∧ h2 194 0 0 = 0 ∧ h2 192 0 0 = 0 ∧ h2 187 0 = upM S'.1 0 (S.1 0 + 1) ∧ ∀ tt k j, ¬ (pmFr tt k ∨ (k = 0 ∧ tt = 192)) → h2 tt k j = g tt k j) := by
  obtain ⟨ga, a1, a2, a3⟩ := putsAside_m (lv + 9) g
  have b1 := begins_m (lv + 9) (e : Int) ga (by rw [a3 _ _ _ (by omega)]; exact g4)
  obtain ⟨v8, v5, v6, v4, v7, v9⟩ := beg_v ga (e : Int)
  have oB : ∀ tt k j, ¬ (k = 0 ∧ (tt = 190 ∨ (194 ≤ tt ∧ tt ≤ 199))) → begH ga (e : Int) tt k j = g tt k j := fun tt k j hn => by rw [beg_o (by omega), a3 _ _ _ (by omega)]
  have T : TX (begH ga (e : Int)) t e := ⟨he, v6, Or.inl ⟨v5, fun i hi => by rw [oB _ _ _ (by omega)]; exact g3 i hi⟩⟩
  have pr := pread_m lv S (begH ga (e : Int)) T v5 v7 v8 (by rw [← hm]; funext j; exact oB _ _ _ (by omega)) G
  have c0 := G.2.2.1
  cases x : pcOf t e S with
  | inl f =>
    rw [x] at pr
    obtain ⟨v, h', p1, p2, p3, p4⟩ := pr
    obtain ⟨h2, q1, q2, q3⟩ := comesBack_m (lv + 9) S.1 (hset h' 186 0 0 1) (fun j hj => by rw [hs_t (by omega), p4 _ _ _ (by omega), beg_o (by omega), a2 j hj, hm]) (fun j hj => by rw [hs_t (by omega), p3 j hj, oB _ _ _ (by omega), hm])
    refine ⟨h2, ?_, by rw [q3 _ _ _ (by omega), hs_eq], by rw [q3 _ _ _ (by omega), hs_t (by omega)]; exact p2, by rw [q3 _ _ _ (by omega), hs_t (by omega), p4 _ _ _ (by omega)]; exact v4, q2, fun tt k j hn => ?_⟩
    · rw [in_202]
      simp (disch := omega) only [x_6_0, x_79_1_12_d0, x_79_1_12_d1, x_79_1_12_d2, x_79_1_12_d3, x_79_1_12_d4, x_1, x_79_2_12_d0, x_79_2_12_d1, x_79_2_12_d2, x_79_2_12_d3, x_79_2_12_d4, x_7_1_I, x_7_1_A, x_7_1_U, x_33, x_62, x_60, x_34, x_38_187, x_63, x_61, x_36, x_73, x_82, x_48, x_11, x_39_187, cb_ri, cb_rl, cb_rv, cb_th, cb_ite, ps_s, ps_n, u_202_0, u_202_27, u_202_42, u_202_43, u_202_59, a1, b1, p1, p2, hs_eq, q1, Int.reduceEq, Int.reduceLT, Int.reduceLE, reduceIte, Int.reduceAdd, Int.reduceSub, Int.reduceMul, Int.reduceNeg, Int.reduceToNat, Bool.false_eq_true, eq_self, if_pos, if_neg]
    · unfold pmFr at hn
      rw [q3 _ _ _ (by omega), hs_o (by omega), p4 _ _ _ (by omega), oB _ _ _ (by omega)]
  | inr S' =>
    rw [x] at pr
    obtain ⟨v, h', p1, p2, p3, p4, p5, p6⟩ := pr
    have m0 : h' 187 0 0 = S.1 0 := by rw [p3]; exact p5 0 (by omega)
    refine ⟨p4, p5, fun c => ?_, fun c => ?_⟩
    · obtain ⟨h2, q1, q2, q3⟩ := comesBack_m (lv + 9) S.1 (hset h' 186 0 0 2) (fun j hj => by rw [hs_t (by omega), p6 _ _ _ (by omega), beg_o (by omega), a2 j hj, hm]) (fun j hj => by rw [hs_t (by omega), p3]; exact p5 j (by omega))
      refine ⟨h2, ?_, by rw [q3 _ _ _ (by omega), hs_eq], by rw [q3 _ _ _ (by omega), hs_t (by omega)]; exact p2, by rw [q3 _ _ _ (by omega), hs_t (by omega), p6 _ _ _ (by omega)]; exact v4, q2, fun tt k j hn => ?_⟩
      · rw [c] at m0
        rw [in_202]
        simp (disch := omega) only [x_6_0, x_79_1_12_d0, x_79_1_12_d1, x_79_1_12_d2, x_79_1_12_d3, x_79_1_12_d4, x_1, x_79_2_12_d0, x_79_2_12_d1, x_79_2_12_d2, x_79_2_12_d3, x_79_2_12_d4, x_7_1_I, x_7_1_A, x_7_1_U, x_33, x_62, x_60, x_34, x_38_187, x_63, x_61, x_36, x_73, x_82, x_48, x_11, x_39_187, cb_ri, cb_rl, cb_rv, cb_th, cb_ite, ps_s, ps_n, u_202_0, u_202_27, u_202_42, u_202_43, u_202_59, a1, b1, p1, p2, m0, hs_eq, q1, Int.reduceEq, Int.reduceLT, Int.reduceLE, reduceIte, Int.reduceAdd, Int.reduceSub, Int.reduceMul, Int.reduceNeg, Int.reduceToNat, Bool.false_eq_true, eq_self, if_pos, if_neg]
      · unfold pmFr at hn
        rw [q3 _ _ _ (by omega), hs_o (by omega), p6 _ _ _ (by omega), oB _ _ _ (by omega)]
    · have m1 : hset h' 186 0 0 0 187 0 0 = S.1 0 := by rw [hs_t (by omega)]; exact m0
      have m2 : hset (hset (hset h' 186 0 0 0) 187 0 0 (S.1 0 + 1)) 192 0 0 0 187 0 0 = S.1 0 + 1 := by rw [hs_t (by omega), hs_eq]
      refine ⟨hset (hset (hset h' 186 0 0 0) 187 0 0 (S.1 0 + 1)) 192 0 0 0, ?_, ?_, ?_, ?_, hs_eq _ _ _ _ _, ?_, fun tt k j hn => ?_⟩
      · rw [in_202]
        simp (disch := omega) only [x_6_0, x_79_1_12_d0, x_79_1_12_d1, x_79_1_12_d2, x_79_1_12_d3, x_79_1_12_d4, x_1, x_79_2_12_d0, x_79_2_12_d1, x_79_2_12_d2, x_79_2_12_d3, x_79_2_12_d4, x_7_1_I, x_7_1_A, x_7_1_U, x_33, x_62, x_60, x_34, x_38_187, x_63, x_61, x_36, x_73, x_82, x_48, x_11, x_39_187, cb_ri, cb_rl, cb_rv, cb_th, cb_ite, ps_s, ps_n, u_202_0, u_202_27, u_202_42, u_202_43, u_202_59, a1, b1, p1, p2, m0, c, hs_eq, tn, m1, m2, w32_id, Int.reduceEq, Int.reduceLT, Int.reduceLE, reduceIte, Int.reduceAdd, Int.reduceSub, Int.reduceMul, Int.reduceNeg, Int.reduceToNat, Bool.false_eq_true, eq_self, if_pos, if_neg]
      · rw [hs_t (by omega), hs_t (by omega), hs_eq]
      · rw [hs_t (by omega), hs_t (by omega), hs_t (by omega)]; exact p2
      · rw [hs_t (by omega), hs_t (by omega), hs_t (by omega), p6 _ _ _ (by omega)]; exact v4
      · rw [← p3]
        funext j
        rw [hs_t (by omega)]
        by_cases cj : j = 0
        · rw [cj, hs_eq, up_eq]
        · rw [hs_i cj, hs_t (by omega), up_ne cj]
      · unfold pmFr at hn
        rw [hs_o (by omega), hs_o (by omega), hs_o (by omega), p6 _ _ _ (by omega), oB _ _ _ (by omega)]
