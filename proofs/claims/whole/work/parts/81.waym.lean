/-! THE REFERENCE: the way of a beat. -/
def woFr (tt k : Nat) : Prop := crFr tt k ∨ (k = 0 ∧ (tt = 210 ∨ tt = 211))
def WyM (h : Hp) (w : WS) : Prop := (∀ n, n < 14 → h 210 0 n = w.2.1 n) ∧ ∀ i, i < 7 → h 211 0 i = w.2.2.1 i
theorem wayOf_m (lv a H N : Nat) (h : Hp) (ab : Nat → Nat → Bool) (G : GM (h 187 0) H N) (ha : h 206 0 0 = -1) (C : CT h N H ab) (h14 : a < 16384) :
    ∃ h', cl (lv + 6) 223 [aA 12 0, aI (a : Int)] h = rv h' ∧ WyM h' (wkL ab (farM (h 187 0) H (-1)) H (chL (fun n => a.testBit n) N) wk0) ∧ ∀ tt k j, ¬ woFr tt k → h' tt k j = h tt k j := by
  have hH := G.1.2.1
  have hN := G.2.1.2.1
  have hK : hmK H (h 206 0 0) = H := by unfold hmK; rw [if_pos ha]
  obtain ⟨h1, a1, a2, a3⟩ := chordOf_m (lv) a H N h ab G (Or.inl ha) (by rw [hK]; exact C) h14
  rw [hK, ha] at a3
  generalize hcs : chL (fun n => a.testBit n) N = cs at a2 a3
  have hlen : cs.length ≤ N := by rw [← hcs, chL_len]; exact cnt_le _ _
  have hmem : ∀ k, k < cs.length → cs.getD k 0 < N := fun k hk => by have := getD_mem hk; rw [← hcs] at this; rw [← hcs]; exact (chL_mem.mp this).1
  have hfar : ∀ n ∈ cs, ∀ x, x < H → 0 ≤ farM (h 187 0) H (-1) n x ∧ farM (h 187 0) H (-1) n x ≤ 63 := fun n hn x hx => by rw [← hcs] at hn; exact farM_b G (chL_mem.mp hn).1 (Or.inl rfl) (by unfold hmK; rw [if_pos rfl]; exact hx)
  have L51 : ∀ q : Hp, (∀ tt k j, ¬ (k = 0 ∧ (tt = 210 ∨ tt = 211)) → q tt k j = h1 tt k j) → (∀ n, n < 14 → q 210 0 n = -1) → (∀ i, i < 7 → q 211 0 i = -1) → ∃ h', run (lv + 5) 223 51 [aA 12 0, aI (a : Int), aI 0, aI 0, none, none] [] q = rv h' ∧ WyM h' (wkL ab (farM (h 187 0) H (-1)) H cs wk0) ∧ ∀ tt k j, ¬ (k = 0 ∧ (tt = 210 ∨ tt = 211)) → h' tt k j = h1 tt k j := by
    intro q q0 q1 q2
    refine loop_p (S := (WS × AV × AV) × Hp) (F := fun k (q : (WS × AV × AV) × Hp) => run (lv + 5) 223 51 [aA 12 0, aI (a : Int), aI (q.1.1.1 : Int), aI (k : Int), q.1.2.1, q.1.2.2] [] q.2)
      (I := fun k q => wkL ab (farM (h 187 0) H (-1)) H (cs.drop k) q.1.1 = wkL ab (farM (h 187 0) H (-1)) H cs wk0 ∧ q.1.1.1 < 64 ∧ (∀ n, n < 14 → q.2 210 0 n = q.1.1.2.1 n) ∧ (∀ i, i < 7 → q.2 211 0 i = q.1.1.2.2.1 i) ∧ ∀ tt k j, ¬ (k = 0 ∧ (tt = 210 ∨ tt = 211)) → q.2 tt k j = h1 tt k j)
      (Q := fun r => ∃ h', r = rv h' ∧ WyM h' (wkL ab (farM (h 187 0) H (-1)) H cs wk0) ∧ ∀ tt k j, ¬ (k = 0 ∧ (tt = 210 ∨ tt = 211)) → h' tt k j = h1 tt k j) (N := cs.length) ?_ ?_ ((wk0, none, none), q) ⟨by rw [List.drop_zero], by simp [wk0], q1, q2, q0⟩
    · rintro k ⟨⟨⟨u, ho, no, lf, ds⟩, v4, v5⟩, q⟩ hk ⟨i1, hu, i3, i4, i5⟩
      simp only at i1 hu i3 i4 i5 ⊢
      have qh : ∀ tt k j, ¬ woFr tt k → q tt k j = h tt k j := fun tt k j hf => by
        rw [i5 tt k j (fun z => hf (Or.inr z))]; exact a2.2.2 tt k j (fun z => hf (Or.inl z))
      have g7 : q 187 0 = h 187 0 := by funext j; exact qh _ _ _ (by unfold woFr crFr; omega)
      have g6 : q 206 0 0 = -1 := by rw [qh _ _ _ (by unfold woFr crFr; omega)]; exact ha
      have gC : CT q N H ab := fun n hn i hi => by rw [qh _ _ _ (by unfold woFr crFr; omega)]; exact C n hn i hi
      have m9 : q 209 0 0 = (cs.length : Int) := by rw [i5 _ _ _ (by omega)]; exact a2.1
      have chk : q 208 0 k = ((cs.getD k 0 : Nat) : Int) := by rw [i5 _ _ _ (by omega)]; exact a2.2.1 k hk
      have wr : ∀ k', k' ≤ cs.length → WR q ab (farM (h 187 0) H (-1)) H cs k' := fun k' hk' u hu => by rw [i5 _ _ _ (by omega)]; exact a3 k' hk' u hu
      have m3 : q 187 0 3 = (H : Int) := by rw [g7]; exact G.1.1
      have hm := handMany_m (lv + 4) H q m3 hH
      rw [g6, show hmK H (-1) = H from if_pos rfl] at hm
      have hn := hmem k hk
      have w0 := wr k (by omega) u (by omega)
      have e2 : (128 * (k : Int) + (u : Int)).toNat = 128 * k + u := by omega
      have dk := drop_c cs hk
      have sl : ∀ x, x < H → selB ab (farM (h 187 0) H (-1)) H (cs.getD k 0) (cs.drop (k + 1)) u x = ((!u.testBit x && ab (cs.getD k 0) x) && decide (100000 - farM (h 187 0) H (-1) (cs.getD k 0) x + dpv 100000 ab (farM (h 187 0) H (-1)) H (cs.drop (k + 1)) (u ||| 2 ^ x) = dpv 100000 ab (farM (h 187 0) H (-1)) H (cs.drop k) u)) := by
        intro x hx
        rw [dk]
        exact sel_eq (Or.inr rfl) ab _ H _ _ u (by rw [List.length_drop]; omega) (fun n hn => hfar n (by rw [← dk] at hn; exact List.mem_of_mem_drop hn)) x hx
      have seek : run (lv + 5) 223 70 [aA 12 0, aI (a : Int), aI (u : Int), aI (k : Int), aI (-1), aI ((H : Int) - 1)] [] q = run (lv + 5) 223 124 [aA 12 0, aI (a : Int), aI (u : Int), aI (k : Int), aI (selH ab (farM (h 187 0) H (-1)) H (cs.getD k 0) (cs.drop (k + 1)) u), aI (-1)] [] q := by
        have main := loop_up (F := fun j => run (lv + 5) 223 70 [aA 12 0, aI (a : Int), aI (u : Int), aI (k : Int), aI (ffst (selB ab (farM (h 187 0) H (-1)) H (cs.getD k 0) (cs.drop (k + 1)) u) (fun x => (x : Int)) (-1) j (H - j)), aI ((H : Int) - 1 - (j : Int))] [] q) (N := H) (r := run (lv + 5) 223 124 [aA 12 0, aI (a : Int), aI (u : Int), aI (k : Int), aI (selH ab (farM (h 187 0) H (-1)) H (cs.getD k 0) (cs.drop (k + 1)) u), aI (-1)] [] q) ?_ ?_ 0 (by omega)
        · simp only [Int.natCast_zero, Int.sub_zero] at main
          exact main
        · intro j hj
          obtain ⟨x, hx⟩ : ∃ x, H = x + 1 + j := ⟨H - 1 - j, by omega⟩
          have ex : (H : Int) - 1 - (j : Int) = (x : Int) := by omega
          have ex1 : (H : Int) - 1 - ((j + 1 : Nat) : Int) = (x : Int) + -1 := by omega
          have ex2 : H - j = x + 1 := by omega
          have ex3 : H - (j + 1) = x := by omega
          have my := may_m (lv + 3) x (cs.getD k 0) u N H ab q gC (by omega) (by omega) hn hN (by omega)
          have o2 := or_bit (s := u) (j := x) (by omega) (by omega)
          have hxw := wr (k + 1) (by omega) (u ||| 2 ^ x) o2.2
          have db := dpv_b (Or.inr rfl : (100000 : Int) = 1000 ∨ (100000 : Int) = 100000) ab (farM (h 187 0) H (-1)) H (cs.drop (k + 1)) (u ||| 2 ^ x) (by rw [List.length_drop]; omega) (fun n hn => hfar n (List.mem_of_mem_drop hn))
          have br := brings_m (lv + 2) k x (cs.getD k 0) u H N _ q (by rw [g7]; exact G) (Or.inl g6) (by rw [g6]; show x < hmK H (-1); rw [show hmK H (-1) = H from if_pos rfl]; omega) (by omega) hn chk (by omega) hxw (by omega)
          rw [g7, g6] at br
          have se := sl x (by omega)
          show run _ _ _ _ _ _ = run _ _ _ _ _ _
          rw [ex, ex1, ex2, ex3]
          simp only [ffst]
          rw [hd_223_70]
          by_cases c : (!u.testBit x && ab (cs.getD k 0) x) = true
          · rw [c] at my
            have my : _ = ri 1 q := my
            rw [c, Bool.true_and] at se
            by_cases d : 100000 - farM (h 187 0) H (-1) (cs.getD k 0) x + dpv 100000 ab (farM (h 187 0) H (-1)) H (cs.drop (k + 1)) (u ||| 2 ^ x) = dpv 100000 ab (farM (h 187 0) H (-1)) H (cs.drop k) u
            · rw [decide_eq_true d] at se
              rw [if_pos se]
              simp (disch := omega) only [x_6_0, x_4_1, x_79_2_12_d0, x_79_2_12_d1, x_79_2_12_d2, x_79_2_12_d3, x_79_2_12_d4, x_1, x_7_2_I, x_7_2_A, x_7_2_U, x_61, x_4_2, x_65, x_34, x_39_207, x_39_208, x_39_210, x_39_211, x_10_2_I, x_10_2_A, x_10_2_U, x_60, x_7_3_I, x_7_3_A, x_7_3_U, x_4_3, x_33, x_7_4_I, x_7_4_A, x_7_4_U, x_79_1_12_d0, x_79_1_12_d1, x_79_1_12_d2, x_79_1_12_d3, x_79_1_12_d4, x_12, x_7_5_I, x_7_5_A, x_7_5_U, x_4_5, x_70, x_38_207, x_38_208, x_38_210, x_38_211, x_79_4_12_d0, x_79_4_12_d1, x_79_4_12_d2, x_79_4_12_d3, x_79_4_12_d4, x_68, x_13, x_11, x_63, x_10_5_I, x_10_5_A, x_10_5_U, x_4_4, x_20, x_18, x_10_3_I, x_10_3_A, x_10_3_U, x_83, cb_ri, cb_rl, cb_rv, cb_th, cb_ite, ps_s, ps_n, u_223_0, u_223_26, u_223_47, u_223_118, u_223_124, u_223_133, u_223_166, u_223_172, tn, chk, my, br, e2, w0, d, Int.reduceEq, Int.reduceLT, Int.reduceLE, reduceIte, Int.reduceAdd, Int.reduceSub, Int.reduceMul, Int.reduceNeg, Int.reduceToNat, Bool.false_eq_true, eq_self, if_pos, if_neg, w32_id]
            · rw [decide_eq_false d] at se
              rw [if_neg (by rw [se]; exact Bool.false_ne_true)]
              simp (disch := omega) only [x_6_0, x_4_1, x_79_2_12_d0, x_79_2_12_d1, x_79_2_12_d2, x_79_2_12_d3, x_79_2_12_d4, x_1, x_7_2_I, x_7_2_A, x_7_2_U, x_61, x_4_2, x_65, x_34, x_39_207, x_39_208, x_39_210, x_39_211, x_10_2_I, x_10_2_A, x_10_2_U, x_60, x_7_3_I, x_7_3_A, x_7_3_U, x_4_3, x_33, x_7_4_I, x_7_4_A, x_7_4_U, x_79_1_12_d0, x_79_1_12_d1, x_79_1_12_d2, x_79_1_12_d3, x_79_1_12_d4, x_12, x_7_5_I, x_7_5_A, x_7_5_U, x_4_5, x_70, x_38_207, x_38_208, x_38_210, x_38_211, x_79_4_12_d0, x_79_4_12_d1, x_79_4_12_d2, x_79_4_12_d3, x_79_4_12_d4, x_68, x_13, x_11, x_63, x_10_5_I, x_10_5_A, x_10_5_U, x_4_4, x_20, x_18, x_10_3_I, x_10_3_A, x_10_3_U, x_83, cb_ri, cb_rl, cb_rv, cb_th, cb_ite, ps_s, ps_n, u_223_0, u_223_26, u_223_47, u_223_118, u_223_124, u_223_133, u_223_166, u_223_172, tn, chk, my, br, e2, w0, d, Int.reduceEq, Int.reduceLT, Int.reduceLE, reduceIte, Int.reduceAdd, Int.reduceSub, Int.reduceMul, Int.reduceNeg, Int.reduceToNat, Bool.false_eq_true, eq_self, if_pos, if_neg, w32_id]
          · rw [Bool.eq_false_iff.mpr c] at my
            have my : _ = ri 0 q := my
            rw [Bool.eq_false_iff.mpr c, Bool.false_and] at se
            rw [if_neg (by rw [se]; exact Bool.false_ne_true)]
            simp (disch := omega) only [x_6_0, x_4_1, x_79_2_12_d0, x_79_2_12_d1, x_79_2_12_d2, x_79_2_12_d3, x_79_2_12_d4, x_1, x_7_2_I, x_7_2_A, x_7_2_U, x_61, x_4_2, x_65, x_34, x_39_207, x_39_208, x_39_210, x_39_211, x_10_2_I, x_10_2_A, x_10_2_U, x_60, x_7_3_I, x_7_3_A, x_7_3_U, x_4_3, x_33, x_7_4_I, x_7_4_A, x_7_4_U, x_79_1_12_d0, x_79_1_12_d1, x_79_1_12_d2, x_79_1_12_d3, x_79_1_12_d4, x_12, x_7_5_I, x_7_5_A, x_7_5_U, x_4_5, x_70, x_38_207, x_38_208, x_38_210, x_38_211, x_79_4_12_d0, x_79_4_12_d1, x_79_4_12_d2, x_79_4_12_d3, x_79_4_12_d4, x_68, x_13, x_11, x_63, x_10_5_I, x_10_5_A, x_10_5_U, x_4_4, x_20, x_18, x_10_3_I, x_10_3_A, x_10_3_U, x_83, cb_ri, cb_rl, cb_rv, cb_th, cb_ite, ps_s, ps_n, u_223_0, u_223_26, u_223_47, u_223_118, u_223_124, u_223_133, u_223_166, u_223_172, tn, chk, my, Int.reduceEq, Int.reduceLT, Int.reduceLE, reduceIte, Int.reduceAdd, Int.reduceSub, Int.reduceMul, Int.reduceNeg, Int.reduceToNat, Bool.false_eq_true, eq_self, if_pos, if_neg, w32_id]
        · show run _ _ _ _ _ _ = _
          rw [Nat.sub_self, show (H : Int) - 1 - (H : Int) = -1 by omega, hd_223_70]
          simp (disch := omega) only [x_6_0, x_4_1, x_79_2_12_d0, x_79_2_12_d1, x_79_2_12_d2, x_79_2_12_d3, x_79_2_12_d4, x_1, x_7_2_I, x_7_2_A, x_7_2_U, x_61, x_4_2, x_65, x_34, x_39_207, x_39_208, x_39_210, x_39_211, x_10_2_I, x_10_2_A, x_10_2_U, x_60, x_7_3_I, x_7_3_A, x_7_3_U, x_4_3, x_33, x_7_4_I, x_7_4_A, x_7_4_U, x_79_1_12_d0, x_79_1_12_d1, x_79_1_12_d2, x_79_1_12_d3, x_79_1_12_d4, x_12, x_7_5_I, x_7_5_A, x_7_5_U, x_4_5, x_70, x_38_207, x_38_208, x_38_210, x_38_211, x_79_4_12_d0, x_79_4_12_d1, x_79_4_12_d2, x_79_4_12_d3, x_79_4_12_d4, x_68, x_13, x_11, x_63, x_10_5_I, x_10_5_A, x_10_5_U, x_4_4, x_20, x_18, x_10_3_I, x_10_3_A, x_10_3_U, x_83, cb_ri, cb_rl, cb_rv, cb_th, cb_ite, ps_s, ps_n, u_223_0, u_223_26, u_223_47, u_223_118, u_223_133, u_223_166, u_223_172, Int.reduceEq, Int.reduceLT, Int.reduceLE, reduceIte, Int.reduceAdd, Int.reduceSub, Int.reduceMul, Int.reduceNeg, Int.reduceToNat, Bool.false_eq_true, eq_self, if_pos, if_neg]
          rfl
      rw [dk] at i1
      have i1 : wkL ab (farM (h 187 0) H (-1)) H (cs.drop (k + 1)) (wk1 ab (farM (h 187 0) H (-1)) H (cs.getD k 0) (cs.drop (k + 1)) (u, ho, no, lf, ds)) = wkL ab (farM (h 187 0) H (-1)) H cs wk0 := i1
      rcases sel_v ab (farM (h 187 0) H (-1)) H (cs.getD k 0) (cs.drop (k + 1)) u with e | ⟨x, x1, x2, x3, e⟩
      · have ew : wk1 ab (farM (h 187 0) H (-1)) H (cs.getD k 0) (cs.drop (k + 1)) (u, ho, no, lf, ds) = (u, ho, no, lf ||| 2 ^ cs.getD k 0, ds) := by unfold wk1; rw [if_pos e]
        rw [ew] at i1
        rw [e] at seek
        refine ⟨(((u, ho, no, lf ||| 2 ^ cs.getD k 0, ds), aI (-1), aI (-1)), q), ?_, i1, hu, i3, i4, i5⟩
        try simp only
        rw [hd_223_51]
        simp (disch := omega) only [x_6_0, x_4_1, x_79_2_12_d0, x_79_2_12_d1, x_79_2_12_d2, x_79_2_12_d3, x_79_2_12_d4, x_1, x_7_2_I, x_7_2_A, x_7_2_U, x_61, x_4_2, x_65, x_34, x_39_207, x_39_208, x_39_210, x_39_211, x_10_2_I, x_10_2_A, x_10_2_U, x_60, x_7_3_I, x_7_3_A, x_7_3_U, x_4_3, x_33, x_7_4_I, x_7_4_A, x_7_4_U, x_79_1_12_d0, x_79_1_12_d1, x_79_1_12_d2, x_79_1_12_d3, x_79_1_12_d4, x_12, x_7_5_I, x_7_5_A, x_7_5_U, x_4_5, x_70, x_38_207, x_38_208, x_38_210, x_38_211, x_79_4_12_d0, x_79_4_12_d1, x_79_4_12_d2, x_79_4_12_d3, x_79_4_12_d4, x_68, x_13, x_11, x_63, x_10_5_I, x_10_5_A, x_10_5_U, x_4_4, x_20, x_18, x_10_3_I, x_10_3_A, x_10_3_U, x_83, cb_ri, cb_rl, cb_rv, cb_th, cb_ite, ps_s, ps_n, u_223_0, u_223_26, u_223_47, u_223_118, u_223_133, u_223_166, u_223_172, m9, hm, Int.reduceEq, Int.reduceLT, Int.reduceLE, reduceIte, Int.reduceAdd, Int.reduceSub, Int.reduceMul, Int.reduceNeg, Int.reduceToNat, Bool.false_eq_true, eq_self, if_pos, if_neg, w32_id]
        rw [seek]
        simp (disch := omega) only [x_6_0, x_4_1, x_79_2_12_d0, x_79_2_12_d1, x_79_2_12_d2, x_79_2_12_d3, x_79_2_12_d4, x_1, x_7_2_I, x_7_2_A, x_7_2_U, x_61, x_4_2, x_65, x_34, x_39_207, x_39_208, x_39_210, x_39_211, x_10_2_I, x_10_2_A, x_10_2_U, x_60, x_7_3_I, x_7_3_A, x_7_3_U, x_4_3, x_33, x_7_4_I, x_7_4_A, x_7_4_U, x_79_1_12_d0, x_79_1_12_d1, x_79_1_12_d2, x_79_1_12_d3, x_79_1_12_d4, x_12, x_7_5_I, x_7_5_A, x_7_5_U, x_4_5, x_70, x_38_207, x_38_208, x_38_210, x_38_211, x_79_4_12_d0, x_79_4_12_d1, x_79_4_12_d2, x_79_4_12_d3, x_79_4_12_d4, x_68, x_13, x_11, x_63, x_10_5_I, x_10_5_A, x_10_5_U, x_4_4, x_20, x_18, x_10_3_I, x_10_3_A, x_10_3_U, x_83, cb_ri, cb_rl, cb_rv, cb_th, cb_ite, ps_s, ps_n, u_223_0, u_223_26, u_223_47, u_223_118, u_223_124, u_223_133, u_223_166, u_223_172, Int.reduceEq, Int.reduceLT, Int.reduceLE, reduceIte, Int.reduceAdd, Int.reduceSub, Int.reduceMul, Int.reduceNeg, Int.reduceToNat, Bool.false_eq_true, eq_self, if_pos, if_neg, ci, w32_id]
      · have ew : wk1 ab (farM (h 187 0) H (-1)) H (cs.getD k 0) (cs.drop (k + 1)) (u, ho, no, lf, ds) = (u ||| 2 ^ x, upM ho (cs.getD k 0) (x : Int), upM no x ((cs.getD k 0 : Nat) : Int), lf, ds + farM (h 187 0) H (-1) (cs.getD k 0) x) := by
          unfold wk1
          simp only
          rw [e, if_neg (by omega), tn]
        rw [ew] at i1
        rw [e] at seek
        have p2 : 2 ^ x < 2 ^ 6 := Nat.pow_lt_pow_right (by omega) (by omega)
        have ob : ior (u : Int) (ishl 1 (x : Int)) = ((u ||| 2 ^ x : Nat) : Int) := by rw [ishl_1 _ (by omega), ior_n (by omega) (by omega)]
        have nx : ¬ (x : Int) = -1 := by omega
        refine ⟨(((u ||| 2 ^ x, upM ho (cs.getD k 0) (x : Int), upM no x ((cs.getD k 0 : Nat) : Int), lf, ds + farM (h 187 0) H (-1) (cs.getD k 0) x), aI (x : Int), aI (-1)), hset (hset q 210 0 (cs.getD k 0) (x : Int)) 211 0 x ((cs.getD k 0 : Nat) : Int)), ?_, i1, Nat.or_lt_two_pow (n := 6) hu p2, fun n hn => ?_, fun i hi => ?_, fun tt kk j hf2 => ?_⟩
        · try simp only
          rw [hd_223_51]
          simp (disch := omega) only [x_6_0, x_4_1, x_79_2_12_d0, x_79_2_12_d1, x_79_2_12_d2, x_79_2_12_d3, x_79_2_12_d4, x_1, x_7_2_I, x_7_2_A, x_7_2_U, x_61, x_4_2, x_65, x_34, x_39_207, x_39_208, x_39_210, x_39_211, x_10_2_I, x_10_2_A, x_10_2_U, x_60, x_7_3_I, x_7_3_A, x_7_3_U, x_4_3, x_33, x_7_4_I, x_7_4_A, x_7_4_U, x_79_1_12_d0, x_79_1_12_d1, x_79_1_12_d2, x_79_1_12_d3, x_79_1_12_d4, x_12, x_7_5_I, x_7_5_A, x_7_5_U, x_4_5, x_70, x_38_207, x_38_208, x_38_210, x_38_211, x_79_4_12_d0, x_79_4_12_d1, x_79_4_12_d2, x_79_4_12_d3, x_79_4_12_d4, x_68, x_13, x_11, x_63, x_10_5_I, x_10_5_A, x_10_5_U, x_4_4, x_20, x_18, x_10_3_I, x_10_3_A, x_10_3_U, x_83, cb_ri, cb_rl, cb_rv, cb_th, cb_ite, ps_s, ps_n, u_223_0, u_223_26, u_223_47, u_223_118, u_223_133, u_223_166, u_223_172, m9, hm, Int.reduceEq, Int.reduceLT, Int.reduceLE, reduceIte, Int.reduceAdd, Int.reduceSub, Int.reduceMul, Int.reduceNeg, Int.reduceToNat, Bool.false_eq_true, eq_self, if_pos, if_neg, w32_id]
          rw [seek]
          simp (disch := omega) only [x_6_0, x_4_1, x_79_2_12_d0, x_79_2_12_d1, x_79_2_12_d2, x_79_2_12_d3, x_79_2_12_d4, x_1, x_7_2_I, x_7_2_A, x_7_2_U, x_61, x_4_2, x_65, x_34, x_39_207, x_39_208, x_39_210, x_39_211, x_10_2_I, x_10_2_A, x_10_2_U, x_60, x_7_3_I, x_7_3_A, x_7_3_U, x_4_3, x_33, x_7_4_I, x_7_4_A, x_7_4_U, x_79_1_12_d0, x_79_1_12_d1, x_79_1_12_d2, x_79_1_12_d3, x_79_1_12_d4, x_12, x_7_5_I, x_7_5_A, x_7_5_U, x_4_5, x_70, x_38_207, x_38_208, x_38_210, x_38_211, x_79_4_12_d0, x_79_4_12_d1, x_79_4_12_d2, x_79_4_12_d3, x_79_4_12_d4, x_68, x_13, x_11, x_63, x_10_5_I, x_10_5_A, x_10_5_U, x_4_4, x_20, x_18, x_10_3_I, x_10_3_A, x_10_3_U, x_83, cb_ri, cb_rl, cb_rv, cb_th, cb_ite, ps_s, ps_n, u_223_0, u_223_26, u_223_47, u_223_118, u_223_124, u_223_133, u_223_166, u_223_172, nx, tn, chk, hs_t, ob, Int.reduceEq, Int.reduceLT, Int.reduceLE, reduceIte, Int.reduceAdd, Int.reduceSub, Int.reduceMul, Int.reduceNeg, Int.reduceToNat, Bool.false_eq_true, eq_self, if_pos, if_neg, ci, w32_id]
        · try simp only
          rw [hs_t (by omega)]
          by_cases en : n = cs.getD k 0
          · rw [en, hs_eq, up_eq]
          · rw [hs_i en, up_ne en]; exact i3 n hn
        · try simp only
          by_cases ei : i = x
          · rw [ei, hs_eq, up_eq]
          · rw [hs_i ei, hs_t (by omega), up_ne ei]; exact i4 i hi
        · try simp only
          rw [hs_o (by omega), hs_o (by omega)]
          exact i5 tt kk j hf2
    · rintro ⟨⟨⟨u, ho, no, lf, ds⟩, v4, v5⟩, q⟩ ⟨i1, hu, i3, i4, i5⟩
      simp only at i1 hu i3 i4 i5 ⊢
      rw [List.drop_length] at i1
      have i1 : (u, ho, no, lf, ds) = wkL ab (farM (h 187 0) H (-1)) H cs wk0 := i1
      rw [← i1]
      have m9 : q 209 0 0 = (cs.length : Int) := by rw [i5 _ _ _ (by omega)]; exact a2.1
      refine ⟨q, ?_, ⟨i3, i4⟩, i5⟩
      rw [hd_223_51]
      simp (disch := omega) only [x_6_0, x_4_1, x_79_2_12_d0, x_79_2_12_d1, x_79_2_12_d2, x_79_2_12_d3, x_79_2_12_d4, x_1, x_7_2_I, x_7_2_A, x_7_2_U, x_61, x_4_2, x_65, x_34, x_39_207, x_39_208, x_39_210, x_39_211, x_10_2_I, x_10_2_A, x_10_2_U, x_60, x_7_3_I, x_7_3_A, x_7_3_U, x_4_3, x_33, x_7_4_I, x_7_4_A, x_7_4_U, x_79_1_12_d0, x_79_1_12_d1, x_79_1_12_d2, x_79_1_12_d3, x_79_1_12_d4, x_12, x_7_5_I, x_7_5_A, x_7_5_U, x_4_5, x_70, x_38_207, x_38_208, x_38_210, x_38_211, x_79_4_12_d0, x_79_4_12_d1, x_79_4_12_d2, x_79_4_12_d3, x_79_4_12_d4, x_68, x_13, x_11, x_63, x_10_5_I, x_10_5_A, x_10_5_U, x_4_4, x_20, x_18, x_10_3_I, x_10_3_A, x_10_3_U, x_83, cb_ri, cb_rl, cb_rv, cb_th, cb_ite, ps_s, ps_n, u_223_0, u_223_26, u_223_47, u_223_118, u_223_124, u_223_133, u_223_166, u_223_172, m9, Int.reduceEq, Int.reduceLT, Int.reduceLE, reduceIte, Int.reduceAdd, Int.reduceSub, Int.reduceMul, Int.reduceNeg, Int.reduceToNat, Bool.false_eq_true, eq_self, if_pos, if_neg]
  have L28 : ∀ q : Hp, (∀ tt k j, ¬ (k = 0 ∧ (tt = 210 ∨ tt = 211)) → q tt k j = h1 tt k j) → (∀ i, i < 7 → q 211 0 i = -1) → ∃ h', run (lv + 5) 223 28 [aA 12 0, aI (a : Int), aI 0, none, none, none] [] q = rv h' ∧ WyM h' (wkL ab (farM (h 187 0) H (-1)) H cs wk0) ∧ ∀ tt k j, ¬ (k = 0 ∧ (tt = 210 ∨ tt = 211)) → h' tt k j = h1 tt k j := by
    intro q q0 q2
    refine loop_p (S := Hp) (F := fun i (g : Hp) => run (lv + 5) 223 28 [aA 12 0, aI (a : Int), aI (i : Int), none, none, none] [] g)
      (I := fun i g => (∀ tt k j, ¬ (k = 0 ∧ (tt = 210 ∨ tt = 211)) → g tt k j = h1 tt k j) ∧ (∀ i', i' < 7 → g 211 0 i' = -1) ∧ ∀ n, n < i → g 210 0 n = -1)
      (Q := fun r => ∃ h', r = rv h' ∧ WyM h' (wkL ab (farM (h 187 0) H (-1)) H cs wk0) ∧ ∀ tt k j, ¬ (k = 0 ∧ (tt = 210 ∨ tt = 211)) → h' tt k j = h1 tt k j) (N := 14) ?_ ?_ q ⟨q0, q2, fun n hn => by omega⟩
    · rintro i g hi ⟨k1, k2, k3⟩
      refine ⟨hset g 210 0 i (-1), ?_, fun tt kk j hf => by rw [hs_o (by omega)]; exact k1 tt kk j hf, fun i' hi' => by rw [hs_t (by omega)]; exact k2 i' hi', fun n hn => ?_⟩
      · try simp only
        rw [hd_223_28]
        simp (disch := omega) only [x_6_0, x_4_1, x_79_2_12_d0, x_79_2_12_d1, x_79_2_12_d2, x_79_2_12_d3, x_79_2_12_d4, x_1, x_7_2_I, x_7_2_A, x_7_2_U, x_61, x_4_2, x_65, x_34, x_39_207, x_39_208, x_39_210, x_39_211, x_10_2_I, x_10_2_A, x_10_2_U, x_60, x_7_3_I, x_7_3_A, x_7_3_U, x_4_3, x_33, x_7_4_I, x_7_4_A, x_7_4_U, x_79_1_12_d0, x_79_1_12_d1, x_79_1_12_d2, x_79_1_12_d3, x_79_1_12_d4, x_12, x_7_5_I, x_7_5_A, x_7_5_U, x_4_5, x_70, x_38_207, x_38_208, x_38_210, x_38_211, x_79_4_12_d0, x_79_4_12_d1, x_79_4_12_d2, x_79_4_12_d3, x_79_4_12_d4, x_68, x_13, x_11, x_63, x_10_5_I, x_10_5_A, x_10_5_U, x_4_4, x_20, x_18, x_10_3_I, x_10_3_A, x_10_3_U, x_83, cb_ri, cb_rl, cb_rv, cb_th, cb_ite, ps_s, ps_n, u_223_0, u_223_26, u_223_47, u_223_118, u_223_124, u_223_133, u_223_166, u_223_172, tn, Int.reduceEq, Int.reduceLT, Int.reduceLE, reduceIte, Int.reduceAdd, Int.reduceSub, Int.reduceMul, Int.reduceNeg, Int.reduceToNat, Bool.false_eq_true, eq_self, if_pos, if_neg, ci, w32_id]
      · by_cases e : n = i
        · rw [e, hs_eq]
        · rw [hs_i e]; exact k3 n (by omega)
    · rintro g ⟨k1, k2, k3⟩
      obtain ⟨h', e1, e2⟩ := L51 g k1 k3 k2
      refine ⟨h', ?_, e2⟩
      try simp only
      rw [← e1, hd_223_28]
      simp (disch := omega) only [x_6_0, x_4_1, x_79_2_12_d0, x_79_2_12_d1, x_79_2_12_d2, x_79_2_12_d3, x_79_2_12_d4, x_1, x_7_2_I, x_7_2_A, x_7_2_U, x_61, x_4_2, x_65, x_34, x_39_207, x_39_208, x_39_210, x_39_211, x_10_2_I, x_10_2_A, x_10_2_U, x_60, x_7_3_I, x_7_3_A, x_7_3_U, x_4_3, x_33, x_7_4_I, x_7_4_A, x_7_4_U, x_79_1_12_d0, x_79_1_12_d1, x_79_1_12_d2, x_79_1_12_d3, x_79_1_12_d4, x_12, x_7_5_I, x_7_5_A, x_7_5_U, x_4_5, x_70, x_38_207, x_38_208, x_38_210, x_38_211, x_79_4_12_d0, x_79_4_12_d1, x_79_4_12_d2, x_79_4_12_d3, x_79_4_12_d4, x_68, x_13, x_11, x_63, x_10_5_I, x_10_5_A, x_10_5_U, x_4_4, x_20, x_18, x_10_3_I, x_10_3_A, x_10_3_U, x_83, cb_ri, cb_rl, cb_rv, cb_th, cb_ite, ps_s, ps_n, u_223_0, u_223_26, u_223_47, u_223_118, u_223_124, u_223_133, u_223_166, u_223_172, Int.reduceEq, Int.reduceLT, Int.reduceLE, reduceIte, Int.reduceAdd, Int.reduceSub, Int.reduceMul, Int.reduceNeg, Int.reduceToNat, Bool.false_eq_true, eq_self, if_pos, if_neg]
  have L7 := loop_p (S := Hp) (F := fun i (g : Hp) => run (lv + 5) 223 7 [aA 12 0, aI (a : Int), aI (i : Int), none, none, none] [] g)
    (I := fun i g => (∀ tt k j, ¬ (k = 0 ∧ (tt = 210 ∨ tt = 211)) → g tt k j = h1 tt k j) ∧ ∀ i', i' < i → g 211 0 i' = -1)
    (Q := fun r => ∃ h', r = rv h' ∧ WyM h' (wkL ab (farM (h 187 0) H (-1)) H cs wk0) ∧ ∀ tt k j, ¬ (k = 0 ∧ (tt = 210 ∨ tt = 211)) → h' tt k j = h1 tt k j) (N := 7) ?_ ?_ h1 ⟨fun _ _ _ _ => rfl, fun i' hi' => by omega⟩
  · obtain ⟨h', e1, e2, e3⟩ := L7
    refine ⟨h', ?_, e2, fun tt k j hf => by rw [e3 tt k j (fun z => hf (Or.inr z))]; exact a2.2.2 tt k j (fun z => hf (Or.inl z))⟩
    rw [← e1, in_223]
    simp (disch := omega) only [x_6_0, x_4_1, x_79_2_12_d0, x_79_2_12_d1, x_79_2_12_d2, x_79_2_12_d3, x_79_2_12_d4, x_1, x_7_2_I, x_7_2_A, x_7_2_U, x_61, x_4_2, x_65, x_34, x_39_207, x_39_208, x_39_210, x_39_211, x_10_2_I, x_10_2_A, x_10_2_U, x_60, x_7_3_I, x_7_3_A, x_7_3_U, x_4_3, x_33, x_7_4_I, x_7_4_A, x_7_4_U, x_79_1_12_d0, x_79_1_12_d1, x_79_1_12_d2, x_79_1_12_d3, x_79_1_12_d4, x_12, x_7_5_I, x_7_5_A, x_7_5_U, x_4_5, x_70, x_38_207, x_38_208, x_38_210, x_38_211, x_79_4_12_d0, x_79_4_12_d1, x_79_4_12_d2, x_79_4_12_d3, x_79_4_12_d4, x_68, x_13, x_11, x_63, x_10_5_I, x_10_5_A, x_10_5_U, x_4_4, x_20, x_18, x_10_3_I, x_10_3_A, x_10_3_U, x_83, cb_ri, cb_rl, cb_rv, cb_th, cb_ite, ps_s, ps_n, u_223_0, u_223_26, u_223_47, u_223_118, u_223_124, u_223_133, u_223_166, u_223_172, a1]
    rfl
  · rintro i g hi ⟨k1, k2⟩
    refine ⟨hset g 211 0 i (-1), ?_, fun tt kk j hf => by rw [hs_o (by omega)]; exact k1 tt kk j hf, fun n hn => ?_⟩
    · try simp only
      rw [hd_223_7]
      simp (disch := omega) only [x_6_0, x_4_1, x_79_2_12_d0, x_79_2_12_d1, x_79_2_12_d2, x_79_2_12_d3, x_79_2_12_d4, x_1, x_7_2_I, x_7_2_A, x_7_2_U, x_61, x_4_2, x_65, x_34, x_39_207, x_39_208, x_39_210, x_39_211, x_10_2_I, x_10_2_A, x_10_2_U, x_60, x_7_3_I, x_7_3_A, x_7_3_U, x_4_3, x_33, x_7_4_I, x_7_4_A, x_7_4_U, x_79_1_12_d0, x_79_1_12_d1, x_79_1_12_d2, x_79_1_12_d3, x_79_1_12_d4, x_12, x_7_5_I, x_7_5_A, x_7_5_U, x_4_5, x_70, x_38_207, x_38_208, x_38_210, x_38_211, x_79_4_12_d0, x_79_4_12_d1, x_79_4_12_d2, x_79_4_12_d3, x_79_4_12_d4, x_68, x_13, x_11, x_63, x_10_5_I, x_10_5_A, x_10_5_U, x_4_4, x_20, x_18, x_10_3_I, x_10_3_A, x_10_3_U, x_83, cb_ri, cb_rl, cb_rv, cb_th, cb_ite, ps_s, ps_n, u_223_0, u_223_26, u_223_47, u_223_118, u_223_124, u_223_133, u_223_166, u_223_172, tn, Int.reduceEq, Int.reduceLT, Int.reduceLE, reduceIte, Int.reduceAdd, Int.reduceSub, Int.reduceMul, Int.reduceNeg, Int.reduceToNat, Bool.false_eq_true, eq_self, if_pos, if_neg, ci, w32_id]
    · by_cases e : n = i
      · rw [e, hs_eq]
      · rw [hs_i e]; exact k2 n (by omega)
  · rintro g ⟨k1, k2⟩
    obtain ⟨h', e1, e2⟩ := L28 g k1 k2
    refine ⟨h', ?_, e2⟩
    try simp only
    rw [← e1, hd_223_7]
    simp (disch := omega) only [x_6_0, x_4_1, x_79_2_12_d0, x_79_2_12_d1, x_79_2_12_d2, x_79_2_12_d3, x_79_2_12_d4, x_1, x_7_2_I, x_7_2_A, x_7_2_U, x_61, x_4_2, x_65, x_34, x_39_207, x_39_208, x_39_210, x_39_211, x_10_2_I, x_10_2_A, x_10_2_U, x_60, x_7_3_I, x_7_3_A, x_7_3_U, x_4_3, x_33, x_7_4_I, x_7_4_A, x_7_4_U, x_79_1_12_d0, x_79_1_12_d1, x_79_1_12_d2, x_79_1_12_d3, x_79_1_12_d4, x_12, x_7_5_I, x_7_5_A, x_7_5_U, x_4_5, x_70, x_38_207, x_38_208, x_38_210, x_38_211, x_79_4_12_d0, x_79_4_12_d1, x_79_4_12_d2, x_79_4_12_d3, x_79_4_12_d4, x_68, x_13, x_11, x_63, x_10_5_I, x_10_5_A, x_10_5_U, x_4_4, x_20, x_18, x_10_3_I, x_10_3_A, x_10_3_U, x_83, cb_ri, cb_rl, cb_rv, cb_th, cb_ite, ps_s, ps_n, u_223_0, u_223_26, u_223_47, u_223_118, u_223_124, u_223_133, u_223_166, u_223_172, Int.reduceEq, Int.reduceLT, Int.reduceLE, reduceIte, Int.reduceAdd, Int.reduceSub, Int.reduceMul, Int.reduceNeg, Int.reduceToNat, Bool.false_eq_true, eq_self, if_pos, if_neg]
theorem cansM_ab {M : Nat → Int} {L : List LN} {H : Nat} {n i : Nat} (hi : i < H) : cansM M L H (-1) n i = abM M L n i := by unfold cansM abM canG; rw [if_pos hi]
def wiFr (tt k : Nat) : Prop := loFr tt k ∨ woFr tt k
theorem looksA_m (lv H N : Nat) (h : Hp) (L : List LN) (hL : LM (h 187 0) L) (G : GM (h 187 0) H N) (hW : ∀ x ∈ L, LnG x) (hl : L.length ≤ 12) (ha : h 206 0 0 = -1) :
    ∃ h', cl (lv + 36) 218 [aA 12 0] h = rv h' ∧ CT h' N H (abM (h 187 0) L) ∧ ∀ tt k j, ¬ loFr tt k → h' tt k j = h tt k j := by
  obtain ⟨h1, a1, a2, a3⟩ := looks_m lv H N h L hL G hW hl (Or.inl ha)
  rw [ha] at a2
  rw [show hmK H (-1) = H from if_pos rfl] at a2
  exact ⟨h1, a1, fun n hn i hi => by rw [a2 n hn i hi, cansM_ab hi], a3⟩
theorem wayIn_m (lv H N : Nat) (b : Int) (h : Hp) (L : List LN) (hL : LM (h 187 0) L) (G : GM (h 187 0) H N) (hW : ∀ x ∈ L, LnG x) (hl : L.length ≤ 12) (ha : h 206 0 0 = -1) :
    ∃ h', cl (lv + 37) 224 [aA 12 0, aI b] h = rv h' ∧ WyM h' (wayW (h 187 0) L H N b) ∧ CT h' N H (abM (h 187 0) L) ∧ ∀ tt k j, ¬ wiFr tt k → h' tt k j = h tt k j := by
  have hN := G.2.1.2.1
  obtain ⟨h1, a1, a2, a3⟩ := looksA_m lv H N h L hL G hW hl ha
  have q7 : h1 187 0 = h 187 0 := by funext j; exact a3 _ _ _ (by unfold loFr mbFr maFr; omega)
  have q6 : h1 206 0 0 = -1 := by rw [a3 _ _ _ (by unfold loFr mbFr maFr; omega)]; exact ha
  have no := notesOf_c (lv + 33) N b h1 (by rw [q7]; exact G.2.1.1) hN
  rw [q7] at no
  obtain ⟨h2, b1, b2, b3⟩ := wayOf_m (lv + 30) (bsN (atB (h 187 0) b) N) H N h1 (abM (h 187 0) L) (by rw [q7]; exact G) q6 a2 (bsN_mono _ hN)
  rw [q7, chL_bs] at b2
  refine ⟨h2, ?_, b2, fun n hn i hi => by rw [b3 _ _ _ (by unfold woFr crFr; omega)]; exact a2 n hn i hi, fun tt k j hf => by rw [b3 _ _ _ (fun z => hf (Or.inr z)), a3 _ _ _ (fun z => hf (Or.inl z))]⟩
  rw [in_224]
  simp (disch := omega) only [x_6_0, x_79_1_12_d0, x_79_1_12_d1, x_79_1_12_d2, x_79_1_12_d3, x_79_1_12_d4, x_4_1, x_79_2_12_d0, x_79_2_12_d1, x_79_2_12_d2, x_79_2_12_d3, x_79_2_12_d4, x_83, cb_ri, cb_rl, cb_rv, cb_th, cb_ite, ps_s, ps_n, u_224_0, a1, no, b1]
