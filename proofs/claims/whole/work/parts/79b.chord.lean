/-! THE REFERENCE: a chord weighed. -/
theorem drop_c (cs : List Nat) {k : Nat} (h : k < cs.length) : cs.drop k = cs.getD k 0 :: cs.drop (k + 1) := by
  rw [List.drop_eq_getElem_cons h, List.getD_eq_getElem?_getD, List.getElem?_eq_getElem h]; rfl
theorem getD_mem {cs : List Nat} {k : Nat} (h : k < cs.length) : cs.getD k 0 ∈ cs := by
  rw [List.getD_eq_getElem?_getD, List.getElem?_eq_getElem h]; exact List.getElem_mem h
theorem dpv_b {w : Int} (hw : w = 1000 ∨ w = 100000) (can : Nat → Nat → Bool) (far : Nat → Nat → Int) (H : Nat) (cs : List Nat) (u : Nat) (hl : cs.length ≤ 14) (hf : ∀ n ∈ cs, ∀ x, x < H → 0 ≤ far n x ∧ far n x ≤ 63) : 0 ≤ dpv w can far H cs u ∧ dpv w can far H cs u ≤ 1400000 := by
  have b := dpp_b can far H cs u hf
  rw [dpv_dpp hw can far H cs u hl hf]
  unfold pdv
  rcases hw with rfl | rfl <;> omega
def crFr (tt k : Nat) : Prop := k = 0 ∧ 207 ≤ tt ∧ tt ≤ 209
def CI (h q : Hp) (cs : List Nat) : Prop := q 209 0 0 = (cs.length : Int) ∧ (∀ k, k < cs.length → q 208 0 k = ((cs.getD k 0 : Nat) : Int)) ∧ ∀ tt k j, ¬ crFr tt k → q tt k j = h tt k j
theorem CI_w {h q : Hp} {cs : List Nat} (c : CI h q cs) (j : Nat) (v : Int) : CI h (hset q 207 0 j v) cs :=
  ⟨by rw [hs_t (by omega)]; exact c.1, fun k hk => by rw [hs_t (by omega)]; exact c.2.1 k hk, fun tt k i hf => by rw [hs_o (by unfold crFr at hf; omega)]; exact c.2.2 tt k i hf⟩
/-- row k of the table is right -/
def WR (q : Hp) (can : Nat → Nat → Bool) (far : Nat → Nat → Int) (K : Nat) (cs : List Nat) (k : Nat) : Prop := ∀ u, u < 128 → q 207 0 (128 * k + u) = dpv 100000 can far K (cs.drop k) u
theorem WR_o {q : Hp} {can : Nat → Nat → Bool} {far : Nat → Nat → Int} {K : Nat} {cs : List Nat} {k j : Nat} {v : Int} (hj : ∀ u, u < 128 → j ≠ 128 * k + u) (w : WR q can far K cs k) : WR (hset q 207 0 j v) can far K cs k := fun u hu => by rw [hs_i (fun e => hj u hu e.symm)]; exact w u hu
theorem chordOf_m (lv a H N : Nat) (h : Hp) (can : Nat → Nat → Bool) (G : GM (h 187 0) H N) (ha : adOk (h 206 0 0)) (C : CT h N (hmK H (h 206 0 0)) can) (h14 : a < 16384) :
    ∃ h', cl (lv + 5) 219 [aA 12 0, aI (a : Int)] h = rv h' ∧ CI h h' (chL (fun n => a.testBit n) N) ∧ ∀ k, k ≤ (chL (fun n => a.testBit n) N).length → WR h' can (farM (h 187 0) H (h 206 0 0)) (hmK H (h 206 0 0)) (chL (fun n => a.testBit n) N) k := by
  have hH := G.1.2.1
  have hN := G.2.1.2.1
  have hK := hmK_le (ad := h 206 0 0) hH
  generalize hcs : chL (fun n => a.testBit n) N = cs
  have hlen : cs.length ≤ N := by rw [← hcs, chL_len]; exact cnt_le _ _
  have hmem : ∀ k, k < cs.length → cs.getD k 0 < N := fun k hk => by have := getD_mem hk; rw [← hcs] at this; rw [← hcs]; exact (chL_mem.mp this).1
  have hfar : ∀ n ∈ cs, ∀ x, x < hmK H (h 206 0 0) → 0 ≤ farM (h 187 0) H (h 206 0 0) n x ∧ farM (h 187 0) H (h 206 0 0) n x ≤ 63 := fun n hn x hx => by rw [← hcs] at hn; exact farM_b G (chL_mem.mp hn).1 ha hx
  have hfd : ∀ k, ∀ n ∈ cs.drop k, ∀ x, x < hmK H (h 206 0 0) → 0 ≤ farM (h 187 0) H (h 206 0 0) n x ∧ farM (h 187 0) H (h 206 0 0) n x ≤ 63 := fun k n hn => hfar n (List.mem_of_mem_drop hn)
  have hld : ∀ k, (cs.drop k).length ≤ 14 := fun k => by rw [List.length_drop]; omega
  have facts : ∀ q : Hp, CI h q cs → q 187 0 = h 187 0 ∧ q 206 0 0 = h 206 0 0 ∧ CT q N (hmK H (h 206 0 0)) can := fun q c => ⟨by funext j; exact c.2.2 _ _ _ (by unfold crFr; omega), c.2.2 _ _ _ (by unfold crFr; omega), fun n hn i hi => by rw [c.2.2 _ _ _ (by unfold crFr; omega)]; exact C n hn i hi⟩
  -- the rows, from the last one on
  have L92 : ∀ (q : Hp) (v3 v4 v5 : AV), CI h q cs → WR q can (farM (h 187 0) H (h 206 0 0)) (hmK H (h 206 0 0)) cs cs.length → ∃ h', run (lv + 4) 219 92 [aA 12 0, aI (a : Int), aI ((cs.length : Int) - 1), v3, v4, v5] [] q = rv h' ∧ CI h h' cs ∧ ∀ k, k ≤ cs.length → WR h' can (farM (h 187 0) H (h 206 0 0)) (hmK H (h 206 0 0)) cs k := by
    intro q v3 v4 v5 hq hw
    have main := loop_p (S := (AV × AV × AV) × Hp) (F := fun j (q : (AV × AV × AV) × Hp) => run (lv + 4) 219 92 [aA 12 0, aI (a : Int), aI ((cs.length : Int) - 1 - (j : Int)), q.1.1, q.1.2.1, q.1.2.2] [] q.2)
      (I := fun j q => CI h q.2 cs ∧ ∀ k, cs.length ≤ k + j → k ≤ cs.length → WR q.2 can (farM (h 187 0) H (h 206 0 0)) (hmK H (h 206 0 0)) cs k)
      (Q := fun r => ∃ h', r = rv h' ∧ CI h h' cs ∧ ∀ k, k ≤ cs.length → WR h' can (farM (h 187 0) H (h 206 0 0)) (hmK H (h 206 0 0)) cs k) (N := cs.length) ?_ ?_ ((v3, v4, v5), q) ⟨hq, fun k h1 h2 => (show cs.length = k by omega) ▸ hw⟩
    · simp only [Int.natCast_zero, Int.sub_zero] at main
      exact main
    · rintro j ⟨⟨v3, v4, v5⟩, q⟩ hj ⟨i1, i2⟩
      simp only at i1 i2 ⊢
      obtain ⟨k, hk⟩ : ∃ k, cs.length = k + 1 + j := ⟨cs.length - 1 - j, by omega⟩
      have ek : (cs.length : Int) - 1 - (j : Int) = (k : Int) := by omega
      have ek1 : (cs.length : Int) - 1 - ((j + 1 : Nat) : Int) = (k : Int) + -1 := by omega
      have hkl : k < cs.length := by omega
      have dk := drop_c cs hkl
      have hn := hmem k hkl
      -- a row
      have row : ∃ (w4 w5 : AV) (h2 : Hp), run (lv + 4) 219 98 [aA 12 0, aI (a : Int), aI (k : Int), aI 0, v4, v5] [] q = run (lv + 4) 219 92 [aA 12 0, aI (a : Int), aI ((k : Int) + -1), aI 128, w4, w5] [] h2 ∧ CI h h2 cs ∧ ∀ k', cs.length ≤ k' + (j + 1) → k' ≤ cs.length → WR h2 can (farM (h 187 0) H (h 206 0 0)) (hmK H (h 206 0 0)) cs k' := by
        refine loop_p (S := (AV × AV) × Hp) (F := fun u (g : (AV × AV) × Hp) => run (lv + 4) 219 98 [aA 12 0, aI (a : Int), aI (k : Int), aI (u : Int), g.1.1, g.1.2] [] g.2)
          (I := fun u g => CI h g.2 cs ∧ (∀ k', cs.length ≤ k' + j → k' ≤ cs.length → WR g.2 can (farM (h 187 0) H (h 206 0 0)) (hmK H (h 206 0 0)) cs k') ∧ ∀ u', u' < u → g.2 207 0 (128 * k + u') = dpv 100000 can (farM (h 187 0) H (h 206 0 0)) (hmK H (h 206 0 0)) (cs.drop k) u')
          (Q := fun r => ∃ (w4 w5 : AV) (h2 : Hp), r = run (lv + 4) 219 92 [aA 12 0, aI (a : Int), aI ((k : Int) + -1), aI 128, w4, w5] [] h2 ∧ CI h h2 cs ∧ ∀ k', cs.length ≤ k' + (j + 1) → k' ≤ cs.length → WR h2 can (farM (h 187 0) H (h 206 0 0)) (hmK H (h 206 0 0)) cs k') (N := 128) ?_ ?_ ((v4, v5), q) ⟨i1, i2, fun u' hu' => by omega⟩
        · rintro u ⟨⟨v4, v5⟩, g⟩ hu ⟨k1, k2, k3⟩
          simp only at k1 k2 k3 ⊢
          obtain ⟨g7, g6, gC⟩ := facts g k1
          have m3 : g 187 0 3 = (H : Int) := by rw [g7]; exact G.1.1
          have hm := handMany_m (lv + 3) H g m3 hH
          rw [g6] at hm
          have chk := k1.2.1 k hkl
          have e1 : (128 * ((k : Int) + 1) + (u : Int)).toNat = 128 * (k + 1) + u := by omega
          have e2 : (128 * (k : Int) + (u : Int)).toNat = 128 * k + u := by omega
          have wn := k2 (k + 1) (by omega) (by omega)
          have hp := wn u hu
          have db := fun u => dpv_b (Or.inr rfl : (100000 : Int) = 1000 ∨ (100000 : Int) = 100000) can (farM (h 187 0) H (h 206 0 0)) (hmK H (h 206 0 0)) (cs.drop (k + 1)) u (hld _) (hfd _)
          -- the hands
          have hands := loop_up (F := fun i => run (lv + 4) 219 124 [aA 12 0, aI (a : Int), aI (k : Int), aI (u : Int), aI (mxH (fun x => !u.testBit x && can (cs.getD k 0) x) (fun x => 100000 - farM (h 187 0) H (h 206 0 0) (cs.getD k 0) x + dpv 100000 can (farM (h 187 0) H (h 206 0 0)) (hmK H (h 206 0 0)) (cs.drop (k + 1)) (u ||| 2 ^ x)) (dpv 100000 can (farM (h 187 0) H (h 206 0 0)) (hmK H (h 206 0 0)) (cs.drop (k + 1)) u) i), aI (i : Int)] [] g) (N := hmK H (h 206 0 0)) (r := run (lv + 4) 219 98 [aA 12 0, aI (a : Int), aI (k : Int), aI ((u + 1 : Nat) : Int), aI (dpv 100000 can (farM (h 187 0) H (h 206 0 0)) (hmK H (h 206 0 0)) (cs.drop k) u), aI ((hmK H (h 206 0 0) : Nat) : Int)] [] (hset g 207 0 (128 * k + u) (dpv 100000 can (farM (h 187 0) H (h 206 0 0)) (hmK H (h 206 0 0)) (cs.drop k) u))) ?_ ?_ 0 (by omega)
          · refine ⟨((aI (dpv 100000 can (farM (h 187 0) H (h 206 0 0)) (hmK H (h 206 0 0)) (cs.drop k) u), aI ((hmK H (h 206 0 0) : Nat) : Int)), hset g 207 0 (128 * k + u) (dpv 100000 can (farM (h 187 0) H (h 206 0 0)) (hmK H (h 206 0 0)) (cs.drop k) u)), ?_, CI_w k1 _ _, fun k' h1 h2 => WR_o (fun u' hu' => by omega) (k2 k' h1 h2), fun u' hu' => ?_⟩
            · try simp only
              rw [← hands, hd_219_98]
              simp (disch := omega) only [x_6_0, x_1, x_36, x_7_2_I, x_7_2_A, x_7_2_U, x_61, x_4_2, x_34, x_38_187, x_38_207, x_38_208, x_65, x_4_1, x_80_2_d0, x_80_2_d1, x_80_2_d2, x_80_2_d3, x_80_2_d4, x_69, x_60, x_33, x_39_187, x_39_207, x_39_208, x_47_I, x_47_A, x_11, x_10_2_I, x_10_2_A, x_10_2_U, x_13, x_12, x_70, x_7_3_I, x_7_3_A, x_7_3_U, x_4_3, x_7_4_I, x_7_4_A, x_7_4_U, x_7_5_I, x_7_5_A, x_7_5_U, x_4_5, x_79_1_12_d0, x_79_1_12_d1, x_79_1_12_d2, x_79_1_12_d3, x_79_1_12_d4, x_79_4_12_d0, x_79_4_12_d1, x_79_4_12_d2, x_79_4_12_d3, x_79_4_12_d4, x_68, x_4_4, x_10_5_I, x_10_5_A, x_10_5_U, x_10_3_I, x_10_3_A, x_10_3_U, x_83, cb_ri, cb_rl, cb_rv, cb_th, cb_ite, ps_s, ps_n, u_219_0, u_219_28, u_219_48, u_219_54, u_219_85, u_219_164, u_219_170, u_219_190, u_219_196, e1, hp, w32_id, Int.reduceEq, Int.reduceLT, Int.reduceLE, reduceIte, Int.reduceAdd, Int.reduceSub, Int.reduceMul, Int.reduceNeg, Int.reduceToNat, Bool.false_eq_true, eq_self, if_pos, if_neg]
              rfl
            · try simp only
              by_cases e : u' = u
              · rw [e, hs_eq]
              · rw [hs_i (by omega)]; exact k3 u' (by omega)
          · intro i hi
            try simp only
            have my := may_m (lv + 2) i (cs.getD k 0) u N (hmK H (h 206 0 0)) can g gC hi hK hn hN hu
            obtain ⟨-, ob2⟩ := or_bit hu (show i < 7 by omega)
            have hx := wn (u ||| 2 ^ i) ob2
            have dx := db (u ||| 2 ^ i)
            have br := brings_m (lv + 1) k i (cs.getD k 0) u H N _ g (by rw [g7]; exact G) (by rw [g6]; exact ha) (by rw [g6]; exact hi) (by omega) hn chk hu hx (by omega)
            rw [g7, g6] at br
            have fb := hfar (cs.getD k 0) (getD_mem hkl) i hi
            show run _ _ _ _ _ _ = run _ _ _ _ _ _
            simp only [mxH]
            rw [hd_219_124]
            by_cases c : (!u.testBit i && can (cs.getD k 0) i) = true
            · rw [c] at my
              have my : _ = ri 1 g := my
              rw [if_pos c]
              simp (disch := omega) only [x_6_0, x_1, x_36, x_7_2_I, x_7_2_A, x_7_2_U, x_61, x_4_2, x_34, x_38_187, x_38_207, x_38_208, x_65, x_4_1, x_80_2_d0, x_80_2_d1, x_80_2_d2, x_80_2_d3, x_80_2_d4, x_69, x_60, x_33, x_39_187, x_39_207, x_39_208, x_47_I, x_47_A, x_11, x_10_2_I, x_10_2_A, x_10_2_U, x_13, x_12, x_70, x_7_3_I, x_7_3_A, x_7_3_U, x_4_3, x_7_4_I, x_7_4_A, x_7_4_U, x_7_5_I, x_7_5_A, x_7_5_U, x_4_5, x_79_1_12_d0, x_79_1_12_d1, x_79_1_12_d2, x_79_1_12_d3, x_79_1_12_d4, x_79_4_12_d0, x_79_4_12_d1, x_79_4_12_d2, x_79_4_12_d3, x_79_4_12_d4, x_68, x_4_4, x_10_5_I, x_10_5_A, x_10_5_U, x_10_3_I, x_10_3_A, x_10_3_U, x_83, cb_ri, cb_rl, cb_rv, cb_th, cb_ite, ps_s, ps_n, u_219_0, u_219_28, u_219_48, u_219_54, u_219_85, u_219_164, u_219_170, u_219_190, u_219_196, hm, tn, chk, my, br, greater_c, Int.reduceEq, Int.reduceLT, Int.reduceLE, reduceIte, Int.reduceAdd, Int.reduceSub, Int.reduceMul, Int.reduceNeg, Int.reduceToNat, Bool.false_eq_true, eq_self, if_pos, if_neg, ci, w32_id]
            · rw [Bool.eq_false_iff.mpr c] at my
              have my : _ = ri 0 g := my
              rw [if_neg c]
              simp (disch := omega) only [x_6_0, x_1, x_36, x_7_2_I, x_7_2_A, x_7_2_U, x_61, x_4_2, x_34, x_38_187, x_38_207, x_38_208, x_65, x_4_1, x_80_2_d0, x_80_2_d1, x_80_2_d2, x_80_2_d3, x_80_2_d4, x_69, x_60, x_33, x_39_187, x_39_207, x_39_208, x_47_I, x_47_A, x_11, x_10_2_I, x_10_2_A, x_10_2_U, x_13, x_12, x_70, x_7_3_I, x_7_3_A, x_7_3_U, x_4_3, x_7_4_I, x_7_4_A, x_7_4_U, x_7_5_I, x_7_5_A, x_7_5_U, x_4_5, x_79_1_12_d0, x_79_1_12_d1, x_79_1_12_d2, x_79_1_12_d3, x_79_1_12_d4, x_79_4_12_d0, x_79_4_12_d1, x_79_4_12_d2, x_79_4_12_d3, x_79_4_12_d4, x_68, x_4_4, x_10_5_I, x_10_5_A, x_10_5_U, x_10_3_I, x_10_3_A, x_10_3_U, x_83, cb_ri, cb_rl, cb_rv, cb_th, cb_ite, ps_s, ps_n, u_219_0, u_219_28, u_219_48, u_219_54, u_219_85, u_219_164, u_219_170, u_219_190, u_219_196, hm, tn, chk, my, Int.reduceEq, Int.reduceLT, Int.reduceLE, reduceIte, Int.reduceAdd, Int.reduceSub, Int.reduceMul, Int.reduceNeg, Int.reduceToNat, Bool.false_eq_true, eq_self, if_pos, if_neg, ci, w32_id]
          · try simp only
            rw [hd_219_124]
            have ed : dpv 100000 can (farM (h 187 0) H (h 206 0 0)) (hmK H (h 206 0 0)) (cs.drop k) u = mxH (fun x => !u.testBit x && can (cs.getD k 0) x) (fun x => 100000 - farM (h 187 0) H (h 206 0 0) (cs.getD k 0) x + dpv 100000 can (farM (h 187 0) H (h 206 0 0)) (hmK H (h 206 0 0)) (cs.drop (k + 1)) (u ||| 2 ^ x)) (dpv 100000 can (farM (h 187 0) H (h 206 0 0)) (hmK H (h 206 0 0)) (cs.drop (k + 1)) u) (hmK H (h 206 0 0)) := by rw [dk]; rfl
            rw [ed]
            simp (disch := omega) only [x_6_0, x_1, x_36, x_7_2_I, x_7_2_A, x_7_2_U, x_61, x_4_2, x_34, x_38_187, x_38_207, x_38_208, x_65, x_4_1, x_80_2_d0, x_80_2_d1, x_80_2_d2, x_80_2_d3, x_80_2_d4, x_69, x_60, x_33, x_39_187, x_39_207, x_39_208, x_47_I, x_47_A, x_11, x_10_2_I, x_10_2_A, x_10_2_U, x_13, x_12, x_70, x_7_3_I, x_7_3_A, x_7_3_U, x_4_3, x_7_4_I, x_7_4_A, x_7_4_U, x_7_5_I, x_7_5_A, x_7_5_U, x_4_5, x_79_1_12_d0, x_79_1_12_d1, x_79_1_12_d2, x_79_1_12_d3, x_79_1_12_d4, x_79_4_12_d0, x_79_4_12_d1, x_79_4_12_d2, x_79_4_12_d3, x_79_4_12_d4, x_68, x_4_4, x_10_5_I, x_10_5_A, x_10_5_U, x_10_3_I, x_10_3_A, x_10_3_U, x_83, cb_ri, cb_rl, cb_rv, cb_th, cb_ite, ps_s, ps_n, u_219_0, u_219_28, u_219_48, u_219_54, u_219_85, u_219_164, u_219_170, u_219_190, u_219_196, hm, e2, Int.reduceEq, Int.reduceLT, Int.reduceLE, reduceIte, Int.reduceAdd, Int.reduceSub, Int.reduceMul, Int.reduceNeg, Int.reduceToNat, Bool.false_eq_true, eq_self, if_pos, if_neg, ci, w32_id]
        · rintro ⟨⟨v4, v5⟩, g⟩ ⟨k1, k2, k3⟩
          simp only at k1 k2 k3 ⊢
          refine ⟨v4, v5, g, ?_, k1, fun k' h1 h2 => ?_⟩
          · rw [hd_219_98]
            simp (disch := omega) only [x_6_0, x_1, x_36, x_7_2_I, x_7_2_A, x_7_2_U, x_61, x_4_2, x_34, x_38_187, x_38_207, x_38_208, x_65, x_4_1, x_80_2_d0, x_80_2_d1, x_80_2_d2, x_80_2_d3, x_80_2_d4, x_69, x_60, x_33, x_39_187, x_39_207, x_39_208, x_47_I, x_47_A, x_11, x_10_2_I, x_10_2_A, x_10_2_U, x_13, x_12, x_70, x_7_3_I, x_7_3_A, x_7_3_U, x_4_3, x_7_4_I, x_7_4_A, x_7_4_U, x_7_5_I, x_7_5_A, x_7_5_U, x_4_5, x_79_1_12_d0, x_79_1_12_d1, x_79_1_12_d2, x_79_1_12_d3, x_79_1_12_d4, x_79_4_12_d0, x_79_4_12_d1, x_79_4_12_d2, x_79_4_12_d3, x_79_4_12_d4, x_68, x_4_4, x_10_5_I, x_10_5_A, x_10_5_U, x_10_3_I, x_10_3_A, x_10_3_U, x_83, cb_ri, cb_rl, cb_rv, cb_th, cb_ite, ps_s, ps_n, u_219_0, u_219_28, u_219_48, u_219_54, u_219_85, u_219_164, u_219_170, u_219_190, u_219_196, Int.reduceEq, Int.reduceLT, Int.reduceLE, reduceIte, Int.reduceAdd, Int.reduceSub, Int.reduceMul, Int.reduceNeg, Int.reduceToNat, Bool.false_eq_true, eq_self, if_pos, if_neg, w32_id]
            rfl
          · by_cases e : k' = k
            · subst e; exact k3
            · exact k2 k' (by omega) h2
      obtain ⟨w4, w5, h2, e1, e2, e3⟩ := row
      refine ⟨((aI 128, w4, w5), h2), ?_, e2, e3⟩
      try simp only
      rw [ek, ek1, ← e1, hd_219_92]
      simp (disch := omega) only [x_6_0, x_1, x_36, x_7_2_I, x_7_2_A, x_7_2_U, x_61, x_4_2, x_34, x_38_187, x_38_207, x_38_208, x_65, x_4_1, x_80_2_d0, x_80_2_d1, x_80_2_d2, x_80_2_d3, x_80_2_d4, x_69, x_60, x_33, x_39_187, x_39_207, x_39_208, x_47_I, x_47_A, x_11, x_10_2_I, x_10_2_A, x_10_2_U, x_13, x_12, x_70, x_7_3_I, x_7_3_A, x_7_3_U, x_4_3, x_7_4_I, x_7_4_A, x_7_4_U, x_7_5_I, x_7_5_A, x_7_5_U, x_4_5, x_79_1_12_d0, x_79_1_12_d1, x_79_1_12_d2, x_79_1_12_d3, x_79_1_12_d4, x_79_4_12_d0, x_79_4_12_d1, x_79_4_12_d2, x_79_4_12_d3, x_79_4_12_d4, x_68, x_4_4, x_10_5_I, x_10_5_A, x_10_5_U, x_10_3_I, x_10_3_A, x_10_3_U, x_83, cb_ri, cb_rl, cb_rv, cb_th, cb_ite, ps_s, ps_n, u_219_0, u_219_28, u_219_48, u_219_54, u_219_85, u_219_164, u_219_170, u_219_190, u_219_196, Int.reduceEq, Int.reduceLT, Int.reduceLE, reduceIte, Int.reduceAdd, Int.reduceSub, Int.reduceMul, Int.reduceNeg, Int.reduceToNat, Bool.false_eq_true, eq_self, if_pos, if_neg]
    · rintro ⟨⟨v3, v4, v5⟩, q⟩ ⟨i1, i2⟩
      simp only at i1 i2 ⊢
      refine ⟨q, ?_, i1, fun k hk => i2 k (by omega) hk⟩
      rw [show (cs.length : Int) - 1 - (cs.length : Int) = -1 by omega, hd_219_92]
      simp (disch := omega) only [x_6_0, x_1, x_36, x_7_2_I, x_7_2_A, x_7_2_U, x_61, x_4_2, x_34, x_38_187, x_38_207, x_38_208, x_65, x_4_1, x_80_2_d0, x_80_2_d1, x_80_2_d2, x_80_2_d3, x_80_2_d4, x_69, x_60, x_33, x_39_187, x_39_207, x_39_208, x_47_I, x_47_A, x_11, x_10_2_I, x_10_2_A, x_10_2_U, x_13, x_12, x_70, x_7_3_I, x_7_3_A, x_7_3_U, x_4_3, x_7_4_I, x_7_4_A, x_7_4_U, x_7_5_I, x_7_5_A, x_7_5_U, x_4_5, x_79_1_12_d0, x_79_1_12_d1, x_79_1_12_d2, x_79_1_12_d3, x_79_1_12_d4, x_79_4_12_d0, x_79_4_12_d1, x_79_4_12_d2, x_79_4_12_d3, x_79_4_12_d4, x_68, x_4_4, x_10_5_I, x_10_5_A, x_10_5_U, x_10_3_I, x_10_3_A, x_10_3_U, x_83, cb_ri, cb_rl, cb_rv, cb_th, cb_ite, ps_s, ps_n, u_219_0, u_219_28, u_219_48, u_219_54, u_219_85, u_219_164, u_219_170, u_219_190, u_219_196, Int.reduceEq, Int.reduceLT, Int.reduceLE, reduceIte, Int.reduceAdd, Int.reduceSub, Int.reduceMul, Int.reduceNeg, Int.reduceToNat, Bool.false_eq_true, eq_self, if_pos, if_neg]
  -- the row behind the last one
  have L56 : ∀ (q : Hp) (v3 v4 v5 : AV), CI h q cs → ∃ h', run (lv + 4) 219 56 [aA 12 0, aI (a : Int), aI 0, v3, v4, v5] [] q = rv h' ∧ CI h h' cs ∧ ∀ k, k ≤ cs.length → WR h' can (farM (h 187 0) H (h 206 0 0)) (hmK H (h 206 0 0)) cs k := by
    intro q v3 v4 v5 hq
    refine loop_p (S := Hp) (F := fun j (q : Hp) => run (lv + 4) 219 56 [aA 12 0, aI (a : Int), aI (j : Int), v3, v4, v5] [] q)
      (I := fun j q => CI h q cs ∧ ∀ u, u < j → q 207 0 (128 * cs.length + u) = 0)
      (Q := fun r => ∃ h', r = rv h' ∧ CI h h' cs ∧ ∀ k, k ≤ cs.length → WR h' can (farM (h 187 0) H (h 206 0 0)) (hmK H (h 206 0 0)) cs k) (N := 128) ?_ ?_ q ⟨hq, fun u hu => by omega⟩
    · rintro j q hj ⟨i1, i2⟩
      refine ⟨hset q 207 0 (128 * cs.length + j) 0, ?_, CI_w i1 _ _, fun u hu => ?_⟩
      · have e1 : (128 * (cs.length : Int) + (j : Int)).toNat = 128 * cs.length + j := by omega
        have m9 := i1.1
        try simp only
        rw [hd_219_56]
        simp (disch := omega) only [x_6_0, x_1, x_36, x_7_2_I, x_7_2_A, x_7_2_U, x_61, x_4_2, x_34, x_38_187, x_38_207, x_38_208, x_65, x_4_1, x_80_2_d0, x_80_2_d1, x_80_2_d2, x_80_2_d3, x_80_2_d4, x_69, x_60, x_33, x_39_187, x_39_207, x_39_208, x_47_I, x_47_A, x_11, x_10_2_I, x_10_2_A, x_10_2_U, x_13, x_12, x_70, x_7_3_I, x_7_3_A, x_7_3_U, x_4_3, x_7_4_I, x_7_4_A, x_7_4_U, x_7_5_I, x_7_5_A, x_7_5_U, x_4_5, x_79_1_12_d0, x_79_1_12_d1, x_79_1_12_d2, x_79_1_12_d3, x_79_1_12_d4, x_79_4_12_d0, x_79_4_12_d1, x_79_4_12_d2, x_79_4_12_d3, x_79_4_12_d4, x_68, x_4_4, x_10_5_I, x_10_5_A, x_10_5_U, x_10_3_I, x_10_3_A, x_10_3_U, x_83, cb_ri, cb_rl, cb_rv, cb_th, cb_ite, ps_s, ps_n, u_219_0, u_219_28, u_219_48, u_219_54, u_219_85, u_219_164, u_219_170, u_219_190, u_219_196, m9, e1, Int.reduceEq, Int.reduceLT, Int.reduceLE, reduceIte, Int.reduceAdd, Int.reduceSub, Int.reduceMul, Int.reduceNeg, Int.reduceToNat, Bool.false_eq_true, eq_self, if_pos, if_neg, ci, w32_id]
      · by_cases e : u = j
        · rw [e, hs_eq]
        · rw [hs_i (by omega)]; exact i2 u (by omega)
    · rintro q ⟨i1, i2⟩
      have m9 := i1.1
      obtain ⟨h', e1, e2⟩ := L92 q v3 v4 v5 i1 (fun u hu => by rw [i2 u hu, List.drop_length]; rfl)
      refine ⟨h', ?_, e2⟩
      try simp only
      rw [← e1, hd_219_56]
      simp (disch := omega) only [x_6_0, x_1, x_36, x_7_2_I, x_7_2_A, x_7_2_U, x_61, x_4_2, x_34, x_38_187, x_38_207, x_38_208, x_65, x_4_1, x_80_2_d0, x_80_2_d1, x_80_2_d2, x_80_2_d3, x_80_2_d4, x_69, x_60, x_33, x_39_187, x_39_207, x_39_208, x_47_I, x_47_A, x_11, x_10_2_I, x_10_2_A, x_10_2_U, x_13, x_12, x_70, x_7_3_I, x_7_3_A, x_7_3_U, x_4_3, x_7_4_I, x_7_4_A, x_7_4_U, x_7_5_I, x_7_5_A, x_7_5_U, x_4_5, x_79_1_12_d0, x_79_1_12_d1, x_79_1_12_d2, x_79_1_12_d3, x_79_1_12_d4, x_79_4_12_d0, x_79_4_12_d1, x_79_4_12_d2, x_79_4_12_d3, x_79_4_12_d4, x_68, x_4_4, x_10_5_I, x_10_5_A, x_10_5_U, x_10_3_I, x_10_3_A, x_10_3_U, x_83, cb_ri, cb_rl, cb_rv, cb_th, cb_ite, ps_s, ps_n, u_219_0, u_219_28, u_219_48, u_219_54, u_219_85, u_219_164, u_219_170, u_219_190, u_219_196, m9, Int.reduceEq, Int.reduceLT, Int.reduceLE, reduceIte, Int.reduceAdd, Int.reduceSub, Int.reduceMul, Int.reduceNeg, Int.reduceToNat, Bool.false_eq_true, eq_self, if_pos, if_neg, w32_id]
  -- the notes
  have L7 := loop_p (S := Hp) (F := fun i (q : Hp) => run (lv + 4) 219 7 [aA 12 0, aI (a : Int), aI (i : Int), none, none, none] [] q)
    (I := fun i q => CI h q (chL (fun n => a.testBit n) i))
    (Q := fun r => ∃ h', r = rv h' ∧ CI h h' cs ∧ ∀ k, k ≤ cs.length → WR h' can (farM (h 187 0) H (h 206 0 0)) (hmK H (h 206 0 0)) cs k) (N := N) ?_ ?_ (hset h 209 0 0 0) ⟨by rw [hs_eq]; rfl, fun k hk => by rw [chL_len] at hk; exact absurd hk (by simp [cnt]), fun tt k j hf => by rw [hs_o (by unfold crFr at hf; omega)]⟩
  · obtain ⟨h', e1, e2⟩ := L7
    refine ⟨h', ?_, e2⟩
    rw [← e1, in_219]
    simp (disch := omega) only [x_6_0, x_1, x_36, x_7_2_I, x_7_2_A, x_7_2_U, x_61, x_4_2, x_34, x_38_187, x_38_207, x_38_208, x_65, x_4_1, x_80_2_d0, x_80_2_d1, x_80_2_d2, x_80_2_d3, x_80_2_d4, x_69, x_60, x_33, x_39_187, x_39_207, x_39_208, x_47_I, x_47_A, x_11, x_10_2_I, x_10_2_A, x_10_2_U, x_13, x_12, x_70, x_7_3_I, x_7_3_A, x_7_3_U, x_4_3, x_7_4_I, x_7_4_A, x_7_4_U, x_7_5_I, x_7_5_A, x_7_5_U, x_4_5, x_79_1_12_d0, x_79_1_12_d1, x_79_1_12_d2, x_79_1_12_d3, x_79_1_12_d4, x_79_4_12_d0, x_79_4_12_d1, x_79_4_12_d2, x_79_4_12_d3, x_79_4_12_d4, x_68, x_4_4, x_10_5_I, x_10_5_A, x_10_5_U, x_10_3_I, x_10_3_A, x_10_3_U, x_83, cb_ri, cb_rl, cb_rv, cb_th, cb_ite, ps_s, ps_n, u_219_0, u_219_28, u_219_48, u_219_54, u_219_85, u_219_164, u_219_170, u_219_190, u_219_196]
    rfl
  · rintro i q hi hq
    have n4 : q 187 0 4 = (N : Int) := by rw [hq.2.2 _ _ _ (by unfold crFr; omega)]; exact G.2.1.1
    have io := isOf_c (lv + 3) a i q (by omega) (by omega)
    have ll : (chL (fun n => a.testBit n) i).length ≤ i := by rw [chL_len]; exact cnt_le _ _
    have m9 := hq.1
    by_cases c : a.testBit i = true
    · rw [if_pos c] at io
      refine ⟨hset (hset q 208 0 (chL (fun n => a.testBit n) i).length (i : Int)) 209 0 0 ((chL (fun n => a.testBit n) i).length + 1 : Int), ?_, ?_, fun k hk => ?_, fun tt k j hf => ?_⟩
      · try simp only
        rw [hd_219_7]
        simp (disch := omega) only [x_6_0, x_1, x_36, x_7_2_I, x_7_2_A, x_7_2_U, x_61, x_4_2, x_34, x_38_187, x_38_207, x_38_208, x_65, x_4_1, x_80_2_d0, x_80_2_d1, x_80_2_d2, x_80_2_d3, x_80_2_d4, x_69, x_60, x_33, x_39_187, x_39_207, x_39_208, x_47_I, x_47_A, x_11, x_10_2_I, x_10_2_A, x_10_2_U, x_13, x_12, x_70, x_7_3_I, x_7_3_A, x_7_3_U, x_4_3, x_7_4_I, x_7_4_A, x_7_4_U, x_7_5_I, x_7_5_A, x_7_5_U, x_4_5, x_79_1_12_d0, x_79_1_12_d1, x_79_1_12_d2, x_79_1_12_d3, x_79_1_12_d4, x_79_4_12_d0, x_79_4_12_d1, x_79_4_12_d2, x_79_4_12_d3, x_79_4_12_d4, x_68, x_4_4, x_10_5_I, x_10_5_A, x_10_5_U, x_10_3_I, x_10_3_A, x_10_3_U, x_83, cb_ri, cb_rl, cb_rv, cb_th, cb_ite, ps_s, ps_n, u_219_0, u_219_28, u_219_48, u_219_54, u_219_85, u_219_164, u_219_170, u_219_190, u_219_196, n4, io, m9, tn, hs_t, Int.reduceEq, Int.reduceLT, Int.reduceLE, reduceIte, Int.reduceAdd, Int.reduceSub, Int.reduceMul, Int.reduceNeg, Int.reduceToNat, Bool.false_eq_true, eq_self, if_pos, if_neg, ci, w32_id]
      · rw [hs_eq, chL_s, if_pos c, List.length_append]; rfl
      · rw [chL_s, if_pos c] at hk ⊢
        rw [List.length_append] at hk
        have hk : k < (chL (fun n => a.testBit n) i).length + 1 := hk
        rw [hs_t (by omega), List.getD_eq_getElem?_getD]
        by_cases e : k = (chL (fun n => a.testBit n) i).length
        · rw [e, hs_eq, List.getElem?_append_right (Nat.le_refl _), Nat.sub_self]; rfl
        · rw [hs_i e, List.getElem?_append_left (by omega), hq.2.1 k (by omega), List.getD_eq_getElem?_getD]
      · rw [hs_o (by unfold crFr at hf; omega), hs_o (by unfold crFr at hf; omega)]; exact hq.2.2 tt k j hf
    · rw [if_neg c] at io
      refine ⟨q, ?_, ?_⟩
      · try simp only
        rw [hd_219_7]
        simp (disch := omega) only [x_6_0, x_1, x_36, x_7_2_I, x_7_2_A, x_7_2_U, x_61, x_4_2, x_34, x_38_187, x_38_207, x_38_208, x_65, x_4_1, x_80_2_d0, x_80_2_d1, x_80_2_d2, x_80_2_d3, x_80_2_d4, x_69, x_60, x_33, x_39_187, x_39_207, x_39_208, x_47_I, x_47_A, x_11, x_10_2_I, x_10_2_A, x_10_2_U, x_13, x_12, x_70, x_7_3_I, x_7_3_A, x_7_3_U, x_4_3, x_7_4_I, x_7_4_A, x_7_4_U, x_7_5_I, x_7_5_A, x_7_5_U, x_4_5, x_79_1_12_d0, x_79_1_12_d1, x_79_1_12_d2, x_79_1_12_d3, x_79_1_12_d4, x_79_4_12_d0, x_79_4_12_d1, x_79_4_12_d2, x_79_4_12_d3, x_79_4_12_d4, x_68, x_4_4, x_10_5_I, x_10_5_A, x_10_5_U, x_10_3_I, x_10_3_A, x_10_3_U, x_83, cb_ri, cb_rl, cb_rv, cb_th, cb_ite, ps_s, ps_n, u_219_0, u_219_28, u_219_48, u_219_54, u_219_85, u_219_164, u_219_170, u_219_190, u_219_196, n4, io, Int.reduceEq, Int.reduceLT, Int.reduceLE, reduceIte, Int.reduceAdd, Int.reduceSub, Int.reduceMul, Int.reduceNeg, Int.reduceToNat, Bool.false_eq_true, eq_self, if_pos, if_neg, ci, w32_id]
      · rw [chL_s, if_neg c, List.append_nil]; exact hq
  · intro q hq
    rw [hcs] at hq
    have n4 : q 187 0 4 = (N : Int) := by rw [hq.2.2 _ _ _ (by unfold crFr; omega)]; exact G.2.1.1
    obtain ⟨h', e1, e2⟩ := L56 q none none none hq
    refine ⟨h', ?_, e2⟩
    try simp only
    rw [← e1, hd_219_7]
    simp (disch := omega) only [x_6_0, x_1, x_36, x_7_2_I, x_7_2_A, x_7_2_U, x_61, x_4_2, x_34, x_38_187, x_38_207, x_38_208, x_65, x_4_1, x_80_2_d0, x_80_2_d1, x_80_2_d2, x_80_2_d3, x_80_2_d4, x_69, x_60, x_33, x_39_187, x_39_207, x_39_208, x_47_I, x_47_A, x_11, x_10_2_I, x_10_2_A, x_10_2_U, x_13, x_12, x_70, x_7_3_I, x_7_3_A, x_7_3_U, x_4_3, x_7_4_I, x_7_4_A, x_7_4_U, x_7_5_I, x_7_5_A, x_7_5_U, x_4_5, x_79_1_12_d0, x_79_1_12_d1, x_79_1_12_d2, x_79_1_12_d3, x_79_1_12_d4, x_79_4_12_d0, x_79_4_12_d1, x_79_4_12_d2, x_79_4_12_d3, x_79_4_12_d4, x_68, x_4_4, x_10_5_I, x_10_5_A, x_10_5_U, x_10_3_I, x_10_3_A, x_10_3_U, x_83, cb_ri, cb_rl, cb_rv, cb_th, cb_ite, ps_s, ps_n, u_219_0, u_219_28, u_219_48, u_219_54, u_219_85, u_219_164, u_219_170, u_219_190, u_219_196, n4, Int.reduceEq, Int.reduceLT, Int.reduceLE, reduceIte, Int.reduceAdd, Int.reduceSub, Int.reduceMul, Int.reduceNeg, Int.reduceToNat, Bool.false_eq_true, eq_self, if_pos, if_neg]
