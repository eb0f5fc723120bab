/-! the tune of a piece -/
theorem ag_tune (lc lr H N : Nat) (p : Int) (hi : Bool) (h : Hp) (I : INV h H N) : AGt t2 (fun h => cl (lc + 80) 116 [aA 11 0, aI p, aI (boI hi)] h) (fun h => cl (lr + 80) 267 [aA 12 0, aI p, aI (boI hi)] h) h := by
  have hk := GN_key I.1.2.1.2.1
  by_cases c : 0 ≤ p ∧ p < 12
  · refine AGt_q I (v := hgF (h 187 0) p hi N) ⟨h, ?_, Sm_r _ _⟩ (fun g s J => ⟨hset g 186 0 0 0, ?_, hs_eq _ _ _ _ _, rsc_186 g 0⟩)
    · show cl (lc + 80) _ _ _ = _
      have cb := checkBeat_c (lc + 78) p h
      rw [if_pos c] at cb
      have ka := keysAt_c (lc + 77) 0 N (h 187 0) p h I.1.1.2.1 hk
      rw [in_116]
      by_cases c0 : oKs (h 187 0) p N = 0
      · have z := jc_z c0
        have y := hgF_z (b := p) (hi := hi) hk c0
        simp (disch := omega) only [x_4_1, x_80_1_d0, x_80_1_d1, x_80_1_d2, x_80_1_d3, x_80_1_d4, x_6_0, x_35_0, x_79_2_7_d0, x_79_2_7_d1, x_79_2_7_d2, x_79_2_7_d3, x_79_2_7_d4, x_8_3_I, x_8_3_A, x_8_3_U, x_5_3, x_2, x_32, x_69, x_1, x_82, x_4_2, x_68, x_60, x_61, cb_ri, cb_rl, cb_rv, cb_th, cb_ite, ps_s, ps_n, u_116_0, u_116_21, u_116_32, u_116_36, cb, ka, z, y, Int.reduceEq, Int.reduceLT, Int.reduceLE, reduceIte, Int.reduceAdd, Int.reduceSub, Int.reduceMul, Int.reduceNeg, Int.reduceToNat, Bool.false_eq_true, eq_self, if_pos, if_neg]
      · have z := jc_n (oKs_lt (b := p) hk) (by omega)
        have tc := topK_c (lc + 76) N (h 187 0) p h hk (by omega)
        have lo := lowK_c (lc + 77) N (h 187 0) p h hk (by omega)
        cases hi with
        | true =>
          have e1 : boI true = 1 := rfl
          simp (disch := omega) only [x_4_1, x_80_1_d0, x_80_1_d1, x_80_1_d2, x_80_1_d3, x_80_1_d4, x_6_0, x_35_0, x_79_2_7_d0, x_79_2_7_d1, x_79_2_7_d2, x_79_2_7_d3, x_79_2_7_d4, x_8_3_I, x_8_3_A, x_8_3_U, x_5_3, x_2, x_32, x_69, x_1, x_82, x_4_2, x_68, x_60, x_61, cb_ri, cb_rl, cb_rv, cb_th, cb_ite, ps_s, ps_n, u_116_0, u_116_21, u_116_32, u_116_36, cb, ka, z, tc, e1, Int.reduceEq, Int.reduceLT, Int.reduceLE, reduceIte, Int.reduceAdd, Int.reduceSub, Int.reduceMul, Int.reduceNeg, Int.reduceToNat, Bool.false_eq_true, eq_self, if_pos, if_neg]
        | false =>
          have e1 : boI false = 0 := rfl
          simp (disch := omega) only [x_4_1, x_80_1_d0, x_80_1_d1, x_80_1_d2, x_80_1_d3, x_80_1_d4, x_6_0, x_35_0, x_79_2_7_d0, x_79_2_7_d1, x_79_2_7_d2, x_79_2_7_d3, x_79_2_7_d4, x_8_3_I, x_8_3_A, x_8_3_U, x_5_3, x_2, x_32, x_69, x_1, x_82, x_4_2, x_68, x_60, x_61, cb_ri, cb_rl, cb_rv, cb_th, cb_ite, ps_s, ps_n, u_116_0, u_116_21, u_116_32, u_116_36, cb, ka, z, lo, e1, Int.reduceEq, Int.reduceLT, Int.reduceLE, reduceIte, Int.reduceAdd, Int.reduceSub, Int.reduceMul, Int.reduceNeg, Int.reduceToNat, Bool.false_eq_true, eq_self, if_pos, if_neg]
    · show cl (lr + 80) _ _ _ = _
      have ib := isBeat_c (lr + 77) p g
      rw [if_pos c] at ib
      have e7 : hset g 186 0 0 0 187 0 = h 187 0 := by rw [h186_m, Sm_187 s scr_187]
      have hm := highest_m (lr + 75) N p hi (hset g 186 0 0 0) (by rw [e7]; exact I.1.2.1.2.1.1) I.1.2.1.2.1.2.1 (by rw [e7]; exact hk)
      rw [e7] at hm
      rw [in_267]
      simp (disch := omega) only [x_6_0, x_4_1, x_80_1_d0, x_80_1_d1, x_80_1_d2, x_80_1_d3, x_80_1_d4, x_69, x_1, x_60, x_61, x_36, x_33, x_73, x_4_2, x_79_3_12_d0, x_79_3_12_d1, x_79_3_12_d2, x_79_3_12_d3, x_79_3_12_d4, x_82, cb_ri, cb_rl, cb_rv, cb_th, cb_ite, ps_s, ps_n, u_267_0, u_267_12, u_267_13, u_267_27, u_267_33, ib, hs_eq, hm, Int.reduceEq, Int.reduceLT, Int.reduceLE, reduceIte, Int.reduceAdd, Int.reduceSub, Int.reduceMul, Int.reduceNeg, Int.reduceToNat, Bool.false_eq_true, eq_self, if_pos, if_neg]
  · refine AGt_e I 2 (by decide) ⟨h, ?_, Sm_r _ _⟩ (fun g s J => ⟨0, hset g 186 0 0 1, ?_, hs_eq _ _ _ _ _, rsc_186 g 1⟩)
    · show cl (lc + 80) _ _ _ = _
      have cb := checkBeat_c (lc + 78) p h
      rw [if_neg c] at cb
      rw [in_116]
      simp (disch := omega) only [x_4_1, x_80_1_d0, x_80_1_d1, x_80_1_d2, x_80_1_d3, x_80_1_d4, x_6_0, x_35_0, x_79_2_7_d0, x_79_2_7_d1, x_79_2_7_d2, x_79_2_7_d3, x_79_2_7_d4, x_8_3_I, x_8_3_A, x_8_3_U, x_5_3, x_2, x_32, x_69, x_1, x_82, x_4_2, x_68, x_60, x_61, cb_ri, cb_rl, cb_rv, cb_th, cb_ite, ps_s, ps_n, u_116_0, u_116_21, u_116_32, u_116_36, cb]
    · show cl (lr + 80) _ _ _ = _
      have ib := isBeat_c (lr + 77) p g
      rw [if_neg c] at ib
      rw [in_267]
      simp (disch := omega) only [x_6_0, x_4_1, x_80_1_d0, x_80_1_d1, x_80_1_d2, x_80_1_d3, x_80_1_d4, x_69, x_1, x_60, x_61, x_36, x_33, x_73, x_4_2, x_79_3_12_d0, x_79_3_12_d1, x_79_3_12_d2, x_79_3_12_d3, x_79_3_12_d4, x_82, cb_ri, cb_rl, cb_rv, cb_th, cb_ite, ps_s, ps_n, u_267_0, u_267_12, u_267_13, u_267_27, u_267_33, ib, hs_eq, Int.reduceEq, Int.reduceLT, Int.reduceLE, reduceIte, Int.reduceAdd, Int.reduceSub, Int.reduceMul, Int.reduceNeg, Int.reduceToNat, Bool.false_eq_true, eq_self, if_pos, if_neg]
def tqF (M : Nat → Int) (N : Nat) : Nat → Nat × (Nat → Int)
  | 0 => (0, fun _ => 0)
  | b + 1 => if oKs M (b : Int) N = 0 then tqF M N b else ((tqF M N b).1 + 1, fun j => if j = (tqF M N b).1 then hgF M (b : Int) true N else (tqF M N b).2 j)
theorem tqF_le (M : Nat → Int) (N : Nat) : ∀ b, (tqF M N b).1 ≤ b := by
  intro b
  induction b with
  | zero => exact Nat.le_refl _
  | succ b ih => simp only [tqF]; split; exact Nat.le_succ_of_le ih; exact Nat.succ_le_succ ih
theorem tqF_b {M : Nat → Int} {N : Nat} (hk : ∀ i, i < N → 0 ≤ M (50 + 4 * i + 1) ∧ M (50 + 4 * i + 1) ≤ 63) : ∀ b j, j < (tqF M N b).1 → 0 ≤ (tqF M N b).2 j ∧ (tqF M N b).2 j ≤ 63 := by
  intro b
  induction b with
  | zero => intro j hj; exact absurd hj (by show ¬ j < 0; omega)
  | succ b ih =>
    intro j hj
    simp only [tqF] at hj ⊢
    by_cases c : oKs M (b : Int) N = 0
    · rw [if_pos c] at hj ⊢; exact ih j hj
    · rw [if_neg c] at hj ⊢
      simp only [] at hj ⊢
      by_cases c2 : j = (tqF M N b).1
      · rw [if_pos c2]; exact hgF_nz hk (by omega)
      · rw [if_neg c2]; exact ih j (by omega)
def gtH (h : Hp) (M : Nat → Int) (N : Nat) : Nat → Hp
  | 0 => hset h 183 0 0 0
  | b + 1 => if oKs M (b : Int) N = 0 then gtH h M N b else hset (hset (gtH h M N b) 182 0 (tqF M N b).1 (hgF M (b : Int) true N)) 183 0 0 ((tqF M N b).1 + 1 : Nat)
def mtH (h : Hp) (M : Nat → Int) (N : Nat) : Nat → Hp
  | 0 => h
  | b + 1 => if oKs M (b : Int) N = 0 then mtH h M N b else hset (mtH h M N b) 213 0 (tqF M N b).1 (hgF M (b : Int) true N)
theorem gtH_x {h : Hp} {M : Nat → Int} {N : Nat} : ∀ b, gtH h M N b 183 0 0 = ((tqF M N b).1 : Int) ∧ (∀ j, j < (tqF M N b).1 → gtH h M N b 182 0 j = (tqF M N b).2 j) ∧ ∀ tt k j, tt ≠ 182 → tt ≠ 183 → gtH h M N b tt k j = h tt k j := by
  intro b
  induction b with
  | zero => exact ⟨hs_eq _ _ _ _ _, fun j hj => absurd hj (by show ¬ j < 0; omega), fun tt k j h1 h2 => hs_t h2⟩
  | succ b ih =>
    obtain ⟨i1, i2, i3⟩ := ih
    simp only [tqF, gtH]
    by_cases c : oKs M (b : Int) N = 0
    · simp only [if_pos c]; exact ⟨i1, i2, i3⟩
    · simp only [if_neg c]
      refine ⟨hs_eq _ _ _ _ _, fun j hj => ?_, fun tt k j h1 h2 => ?_⟩
      · rw [hs_t (by omega)]
        by_cases c2 : j = (tqF M N b).1
        · rw [if_pos c2, c2, hs_eq]
        · rw [if_neg c2, hs_i c2]; exact i2 j (by omega)
      · rw [hs_t h2, hs_t h1]; exact i3 tt k j h1 h2
theorem mtH_x {h : Hp} {M : Nat → Int} {N : Nat} : ∀ b, (∀ j, j < (tqF M N b).1 → mtH h M N b 213 0 j = (tqF M N b).2 j) ∧ ∀ tt k j, tt ≠ 213 → mtH h M N b tt k j = h tt k j := by
  intro b
  induction b with
  | zero => exact ⟨fun j hj => absurd hj (by show ¬ j < 0; omega), fun tt k j h1 => rfl⟩
  | succ b ih =>
    obtain ⟨i2, i3⟩ := ih
    simp only [tqF, mtH]
    by_cases c : oKs M (b : Int) N = 0
    · simp only [if_pos c]; exact ⟨i2, i3⟩
    · simp only [if_neg c]
      refine ⟨fun j hj => ?_, fun tt k j h1 => ?_⟩
      · by_cases c2 : j = (tqF M N b).1
        · rw [if_pos c2, c2, hs_eq]
        · rw [if_neg c2, hs_i c2]; exact i2 j (by omega)
      · rw [hs_t h1]; exact i3 tt k j h1
theorem gatherT_c (lv H N : Nat) (M : Nat → Int) (h : Hp) (R : RS h 0 M H N) (hk : ∀ i, i < N → 0 ≤ M (50 + 4 * i + 1) ∧ M (50 + 4 * i + 1) ≤ 63) : cl (lv + 4) 157 [aA 11 0] h = rv (gtH h M N 12) := by
  rw [in_157]
  simp (disch := omega) only [x_6_0, x_1, x_36, x_7_1_I, x_7_1_A, x_7_1_U, x_61, x_4_1, x_65, x_35_0, x_79_2_7_d0, x_79_2_7_d1, x_79_2_7_d2, x_79_2_7_d3, x_79_2_7_d4, x_8_2_I, x_8_2_A, x_8_2_U, x_5_2, x_2, x_32, x_68, x_34, x_33, x_80_1_d0, x_80_1_d1, x_80_1_d2, x_80_1_d3, x_80_1_d4, x_39_182, x_47_I, x_47_A, x_11, x_10_1_I, x_10_1_A, x_10_1_U, x_60, x_83, cb_ri, cb_rl, cb_rv, cb_th, cb_ite, ps_s, ps_n, u_157_0, u_157_51, u_157_57]
  refine loop_g (F := fun b (v : AV) => run (lv + 3) 157 7 [aA 11 0, aI (b : Int), v, none] [] (gtH h M N b)) (N := 12) ?_ ?_ none
  · intro b v hb
    refine ⟨aJ (kJ (oKs M (b : Int) N)), ?_⟩
    obtain ⟨x1, -, x3⟩ := gtH_x (h := h) (M := M) (N := N) b
    have R2 : RS (gtH h M N b) 0 M H N := RS_e (fun t i ht => x3 t 0 i (by unfold stTag at ht; omega) (by unfold stTag at ht; omega)) R
    have ka := keysAt_c (lv + 1) 0 N M (b : Int) (gtH h M N b) R2.2.1 hk
    have le := tqF_le M N b
    show run _ _ _ _ _ _ = run _ _ _ _ _ _
    simp only [gtH]
    rw [hd_157_7]
    by_cases c : oKs M (b : Int) N = 0
    · have z := jc_z c
      rw [if_pos c]
      simp (disch := omega) only [x_6_0, x_1, x_36, x_7_1_I, x_7_1_A, x_7_1_U, x_61, x_4_1, x_65, x_35_0, x_79_2_7_d0, x_79_2_7_d1, x_79_2_7_d2, x_79_2_7_d3, x_79_2_7_d4, x_8_2_I, x_8_2_A, x_8_2_U, x_5_2, x_2, x_32, x_68, x_34, x_33, x_80_1_d0, x_80_1_d1, x_80_1_d2, x_80_1_d3, x_80_1_d4, x_39_182, x_47_I, x_47_A, x_11, x_10_1_I, x_10_1_A, x_10_1_U, x_60, x_83, cb_ri, cb_rl, cb_rv, cb_th, cb_ite, ps_s, ps_n, u_157_0, u_157_51, u_157_57, ka, z, Int.reduceEq, Int.reduceLT, Int.reduceLE, reduceIte, Int.reduceAdd, Int.reduceSub, Int.reduceMul, Int.reduceNeg, Int.reduceToNat, Bool.false_eq_true, eq_self, if_pos, if_neg, ci, w32_id]
    · have z := jc_n (oKs_lt (b := (b : Int)) hk) (by omega)
      have tc := topK_c lv N M (b : Int) (gtH h M N b) hk (by omega)
      rw [if_neg c]
      generalize gtH h M N b = g at *
      generalize (tqF M N b).1 = w at *
      have e1 : ((w + 1 : Nat) : Int) = (w : Int) + 1 := by omega
      rw [e1]
      simp (disch := omega) only [x_6_0, x_1, x_36, x_7_1_I, x_7_1_A, x_7_1_U, x_61, x_4_1, x_65, x_35_0, x_79_2_7_d0, x_79_2_7_d1, x_79_2_7_d2, x_79_2_7_d3, x_79_2_7_d4, x_8_2_I, x_8_2_A, x_8_2_U, x_5_2, x_2, x_32, x_68, x_34, x_33, x_80_1_d0, x_80_1_d1, x_80_1_d2, x_80_1_d3, x_80_1_d4, x_39_182, x_47_I, x_47_A, x_11, x_10_1_I, x_10_1_A, x_10_1_U, x_60, x_83, cb_ri, cb_rl, cb_rv, cb_th, cb_ite, ps_s, ps_n, u_157_0, u_157_51, u_157_57, ka, z, tc, x1, tn, hs_t, Int.reduceEq, Int.reduceLT, Int.reduceLE, reduceIte, Int.reduceAdd, Int.reduceSub, Int.reduceMul, Int.reduceNeg, Int.reduceToNat, Bool.false_eq_true, eq_self, if_pos, if_neg, ci, w32_id]
  · intro v
    show run _ _ _ _ _ _ = _
    rw [hd_157_7]
    simp (disch := omega) only [x_6_0, x_1, x_36, x_7_1_I, x_7_1_A, x_7_1_U, x_61, x_4_1, x_65, x_35_0, x_79_2_7_d0, x_79_2_7_d1, x_79_2_7_d2, x_79_2_7_d3, x_79_2_7_d4, x_8_2_I, x_8_2_A, x_8_2_U, x_5_2, x_2, x_32, x_68, x_34, x_33, x_80_1_d0, x_80_1_d1, x_80_1_d2, x_80_1_d3, x_80_1_d4, x_39_182, x_47_I, x_47_A, x_11, x_10_1_I, x_10_1_A, x_10_1_U, x_60, x_83, cb_ri, cb_rl, cb_rv, cb_th, cb_ite, ps_s, ps_n, u_157_0, u_157_51, u_157_57, Int.reduceEq, Int.reduceLT, Int.reduceLE, reduceIte, Int.reduceAdd, Int.reduceSub, Int.reduceMul, Int.reduceNeg, Int.reduceToNat, Bool.false_eq_true, eq_self, if_pos, if_neg]
theorem bs_oKs {M : Nat → Int} {b : Int} : ∀ n, bsN (atB M b) n = 0 ↔ oKs M b n = 0 := by
  intro n
  induction n with
  | zero => exact Iff.rfl
  | succ n ih =>
    simp only [bsN, oKs]
    by_cases c : atB M b n = true
    · simp only [c, if_true]
      have := Nat.two_pow_pos n
      refine ⟨fun z => by omega, fun z => ?_⟩
      have t := tb_or (oKs M b n) (M (50 + 4 * n + 1)).toNat (M (50 + 4 * n + 1)).toNat
      rw [z, Nat.zero_testBit] at t
      simp at t
    · simp only [c, if_false, Nat.add_zero]
      exact ih
theorem tuneOf_m (lv N : Nat) (M : Nat → Int) (h : Hp) (h7 : h 187 0 = M) (h4 : M 4 = (N : Int)) (hN : N ≤ 14) (hk : ∀ i, i < N → 0 ≤ M (50 + 4 * i + 1) ∧ M (50 + 4 * i + 1) ≤ 63) : cl (lv + 5) 268 [aA 12 0] h = ri ((tqF M N 12).1 : Int) (mtH h M N 12) := by
  rw [in_268]
  simp (disch := omega) only [x_1, x_7_1_I, x_7_1_A, x_7_1_U, x_7_2_I, x_7_2_A, x_7_2_U, x_61, x_4_2, x_65, x_6_0, x_79_2_12_d0, x_79_2_12_d1, x_79_2_12_d2, x_79_2_12_d3, x_79_2_12_d4, x_69, x_60, x_34, x_4_1, x_79_3_12_d0, x_79_3_12_d1, x_79_3_12_d2, x_79_3_12_d3, x_79_3_12_d4, x_39_213, x_10_1_I, x_10_1_A, x_10_1_U, x_10_2_I, x_10_2_A, x_10_2_U, x_82, cb_ri, cb_rl, cb_rv, cb_th, cb_ite, ps_s, ps_n, u_268_0, u_268_21, u_268_36, u_268_42]
  refine loop_up (F := fun b => run (lv + 4) 268 4 [aA 12 0, aI ((tqF M N b).1 : Int), aI (b : Int)] [] (mtH h M N b)) (N := 12) ?_ ?_ 0 (by omega)
  · intro b hb
    obtain ⟨-, x3⟩ := mtH_x (h := h) (M := M) (N := N) b
    have e7 : mtH h M N b 187 0 = M := (funext (fun j => x3 187 0 j (by omega))).trans h7
    have na := notesOf_c (lv + 1) N (b : Int) (mtH h M N b) (by rw [e7]; exact h4) hN
    have hm : cl (lv + 4) 266 [aA 12 0, aI (b : Int), aI 1] (mtH h M N b) = _ := highest_m lv N (b : Int) true (mtH h M N b) (by rw [e7]; exact h4) hN (by rw [e7]; exact hk)
    rw [e7] at na hm
    have le := tqF_le M N b
    have bo := bs_oKs (M := M) (b := (b : Int)) N
    show run _ _ _ _ _ _ = run _ _ _ _ _ _
    simp only [mtH, tqF]
    rw [hd_268_4]
    by_cases c : oKs M (b : Int) N = 0
    · rw [if_pos c, if_pos c]
      rw [bo.mpr c] at na
      simp (disch := omega) only [x_1, x_7_1_I, x_7_1_A, x_7_1_U, x_7_2_I, x_7_2_A, x_7_2_U, x_61, x_4_2, x_65, x_6_0, x_79_2_12_d0, x_79_2_12_d1, x_79_2_12_d2, x_79_2_12_d3, x_79_2_12_d4, x_69, x_60, x_34, x_4_1, x_79_3_12_d0, x_79_3_12_d1, x_79_3_12_d2, x_79_3_12_d3, x_79_3_12_d4, x_39_213, x_10_1_I, x_10_1_A, x_10_1_U, x_10_2_I, x_10_2_A, x_10_2_U, x_82, cb_ri, cb_rl, cb_rv, cb_th, cb_ite, ps_s, ps_n, u_268_0, u_268_21, u_268_36, u_268_42, na, Int.reduceEq, Int.reduceLT, Int.reduceLE, reduceIte, Int.reduceAdd, Int.reduceSub, Int.reduceMul, Int.reduceNeg, Int.reduceToNat, Bool.false_eq_true, eq_self, if_pos, if_neg, ci, w32_id, Int.natCast_zero]
    · rw [if_neg c, if_neg c]
      have nz : ¬ ((bsN (atB M (b : Int)) N : Nat) : Int) = 0 := fun z => c (bo.mp (by omega))
      generalize mtH h M N b = g at *
      generalize tqF M N b = w at *
      have e1 : ((w.1 + 1 : Nat) : Int) = (w.1 : Int) + 1 := by omega
      simp (disch := omega) only [x_1, x_7_1_I, x_7_1_A, x_7_1_U, x_7_2_I, x_7_2_A, x_7_2_U, x_61, x_4_2, x_65, x_6_0, x_79_2_12_d0, x_79_2_12_d1, x_79_2_12_d2, x_79_2_12_d3, x_79_2_12_d4, x_69, x_60, x_34, x_4_1, x_79_3_12_d0, x_79_3_12_d1, x_79_3_12_d2, x_79_3_12_d3, x_79_3_12_d4, x_39_213, x_10_1_I, x_10_1_A, x_10_1_U, x_10_2_I, x_10_2_A, x_10_2_U, x_82, cb_ri, cb_rl, cb_rv, cb_th, cb_ite, ps_s, ps_n, u_268_0, u_268_21, u_268_36, u_268_42, na, hm, nz, tn, Int.reduceEq, Int.reduceLT, Int.reduceLE, reduceIte, Int.reduceAdd, Int.reduceSub, Int.reduceMul, Int.reduceNeg, Int.reduceToNat, Bool.false_eq_true, eq_self, if_pos, if_neg, ci, w32_id]
  · show run _ _ _ _ _ _ = _
    rw [hd_268_4]
    simp (disch := omega) only [x_1, x_7_1_I, x_7_1_A, x_7_1_U, x_7_2_I, x_7_2_A, x_7_2_U, x_61, x_4_2, x_65, x_6_0, x_79_2_12_d0, x_79_2_12_d1, x_79_2_12_d2, x_79_2_12_d3, x_79_2_12_d4, x_69, x_60, x_34, x_4_1, x_79_3_12_d0, x_79_3_12_d1, x_79_3_12_d2, x_79_3_12_d3, x_79_3_12_d4, x_39_213, x_10_1_I, x_10_1_A, x_10_1_U, x_10_2_I, x_10_2_A, x_10_2_U, x_82, cb_ri, cb_rl, cb_rv, cb_th, cb_ite, ps_s, ps_n, u_268_0, u_268_21, u_268_36, u_268_42, Int.reduceEq, Int.reduceLT, Int.reduceLE, reduceIte, Int.reduceAdd, Int.reduceSub, Int.reduceMul, Int.reduceNeg, Int.reduceToNat, Bool.false_eq_true, eq_self, if_pos, if_neg]
theorem Sm_gt {h : Hp} {M : Nat → Int} {N b : Nat} : Sm csc h (gtH h M N b) := fun tt k j hf => by
  induction b with
  | zero => exact hs_o (by unfold csc at hf; omega)
  | succ b ih =>
    simp only [gtH]
    split
    · exact ih
    · rw [hs_o (by unfold csc at hf; omega), hs_o (by unfold csc at hf; omega)]; exact ih
theorem Sm_mt {h : Hp} {M : Nat → Int} {N b : Nat} : Sm rsc h (mtH h M N b) := fun tt k j hf => by
  induction b with
  | zero => rfl
  | succ b ih =>
    simp only [mtH]
    split
    · exact ih
    · rw [hs_o (by unfold rsc at hf; omega)]; exact ih
def stpB (T : Nat → Int) (s : Int) (i : Nat) : Bool := decide (T (i + 1) - T i = s)
theorem ag_steps (lc lr H N : Nat) (s : Int) (h : Hp) (I : INV h H N) : AGp (fun h => cl (lc + 80) 117 [aA 11 0, aI s] h) (fun h => cl (lr + 80) 269 [aA 12 0, aI s] h) h := by
  have hk := GN_key I.1.2.1.2.1
  have tb := tqF_b hk 12
  have le := tqF_le (h 187 0) N 12
  refine AGp_q I (v := ((cnt (stpB (tqF (h 187 0) N 12).2 s) ((tqF (h 187 0) N 12).1 - 1) : Nat) : Int)) ⟨gtH h (h 187 0) N 12, ?_, Sm_gt⟩ (fun g sm J => ⟨mtH (hset g 186 0 0 0) (h 187 0) N 12, ?_, Sm_t (rsc_186 g 0) Sm_mt⟩)
  · show cl (lc + 80) _ _ _ = _
    have gc := gatherT_c (lc + 75) H N (h 187 0) h I.1.1 hk
    obtain ⟨x1, x2, -⟩ := gtH_x (h := h) (M := h 187 0) (N := N) 12
    rw [in_117]
    simp (disch := omega) only [x_6_0, x_79_1_11_d0, x_79_1_11_d1, x_79_1_11_d2, x_79_1_11_d3, x_79_1_11_d4, x_1, x_7_2_I, x_7_2_A, x_7_2_U, x_7_3_I, x_7_3_A, x_7_3_U, x_61, x_4_3, x_33, x_65, x_34, x_38_182, x_12, x_4_1, x_63, x_10_2_I, x_10_2_A, x_10_2_U, x_10_3_I, x_10_3_A, x_10_3_U, x_60, x_4_2, x_82, cb_ri, cb_rl, cb_rv, cb_th, cb_ite, ps_s, ps_n, u_117_0, u_117_38, u_117_44, gc, Int.reduceEq, Int.reduceLT, Int.reduceLE, reduceIte, Int.reduceAdd, Int.reduceSub, Int.reduceMul, Int.reduceNeg, Int.reduceToNat, Bool.false_eq_true, eq_self, if_pos, if_neg]
    generalize gtH h (h 187 0) N 12 = G at *
    generalize tqF (h 187 0) N 12 = w at *
    refine loop_up (F := fun i => run (lc + 79) 117 8 [aA 11 0, aI s, aI ((cnt (stpB w.2 s) i : Nat) : Int), aI ((i : Int) + 1)] [] G) (N := w.1 - 1) ?_ ?_ 0 (by omega)
    · intro i hi
      have y1 := x2 i (by omega)
      have y2 := x2 (i + 1) (by omega)
      have b1 := tb i (by omega)
      have b2 := tb (i + 1) (by omega)
      have cl' := cnt_le (stpB w.2 s) i
      have t2 : (((i + 1 : Nat) : Int) - 1).toNat = i := by omega
      show run _ _ _ _ _ _ = run _ _ _ [_, _, aI ((cnt (stpB w.2 s) i + (if stpB w.2 s i = true then 1 else 0) : Nat) : Int), _] _ _
      rw [hd_117_8]
      by_cases c : w.2 (i + 1) - w.2 i = s
      · rw [if_pos (show stpB w.2 s i = true from decide_eq_true c)]
        simp (disch := omega) only [x_6_0, x_79_1_11_d0, x_79_1_11_d1, x_79_1_11_d2, x_79_1_11_d3, x_79_1_11_d4, x_1, x_7_2_I, x_7_2_A, x_7_2_U, x_7_3_I, x_7_3_A, x_7_3_U, x_61, x_4_3, x_33, x_65, x_34, x_38_182, x_12, x_4_1, x_63, x_10_2_I, x_10_2_A, x_10_2_U, x_10_3_I, x_10_3_A, x_10_3_U, x_60, x_4_2, x_82, cb_ri, cb_rl, cb_rv, cb_th, cb_ite, ps_s, ps_n, u_117_0, u_117_38, u_117_44, x1, y1, y2, tn, t2, c, Int.reduceEq, Int.reduceLT, Int.reduceLE, reduceIte, Int.reduceAdd, Int.reduceSub, Int.reduceMul, Int.reduceNeg, Int.reduceToNat, Bool.false_eq_true, eq_self, if_pos, if_neg, ci, w32_id]
      · rw [if_neg (show ¬ stpB w.2 s i = true from fun z => c (of_decide_eq_true z))]
        simp (disch := omega) only [x_6_0, x_79_1_11_d0, x_79_1_11_d1, x_79_1_11_d2, x_79_1_11_d3, x_79_1_11_d4, x_1, x_7_2_I, x_7_2_A, x_7_2_U, x_7_3_I, x_7_3_A, x_7_3_U, x_61, x_4_3, x_33, x_65, x_34, x_38_182, x_12, x_4_1, x_63, x_10_2_I, x_10_2_A, x_10_2_U, x_10_3_I, x_10_3_A, x_10_3_U, x_60, x_4_2, x_82, cb_ri, cb_rl, cb_rv, cb_th, cb_ite, ps_s, ps_n, u_117_0, u_117_38, u_117_44, x1, y1, y2, tn, t2, c, Int.reduceEq, Int.reduceLT, Int.reduceLE, reduceIte, Int.reduceAdd, Int.reduceSub, Int.reduceMul, Int.reduceNeg, Int.reduceToNat, Bool.false_eq_true, eq_self, if_pos, if_neg, ci, w32_id, Nat.add_zero]
    · show run _ _ _ _ _ _ = _
      rw [hd_117_8]
      simp (disch := omega) only [x_6_0, x_79_1_11_d0, x_79_1_11_d1, x_79_1_11_d2, x_79_1_11_d3, x_79_1_11_d4, x_1, x_7_2_I, x_7_2_A, x_7_2_U, x_7_3_I, x_7_3_A, x_7_3_U, x_61, x_4_3, x_33, x_65, x_34, x_38_182, x_12, x_4_1, x_63, x_10_2_I, x_10_2_A, x_10_2_U, x_10_3_I, x_10_3_A, x_10_3_U, x_60, x_4_2, x_82, cb_ri, cb_rl, cb_rv, cb_th, cb_ite, ps_s, ps_n, u_117_0, u_117_38, u_117_44, x1, Int.reduceEq, Int.reduceLT, Int.reduceLE, reduceIte, Int.reduceAdd, Int.reduceSub, Int.reduceMul, Int.reduceNeg, Int.reduceToNat, Bool.false_eq_true, eq_self, if_pos, if_neg]
  · show cl (lr + 80) _ _ _ = _
    have e7 : hset g 186 0 0 0 187 0 = h 187 0 := by rw [h186_m, Sm_187 sm scr_187]
    have tm := tuneOf_m (lr + 74) N (h 187 0) (hset g 186 0 0 0) e7 I.1.2.1.2.1.1 I.1.2.1.2.1.2.1 hk
    obtain ⟨x2, -⟩ := mtH_x (h := hset g 186 0 0 0) (M := h 187 0) (N := N) 12
    rw [in_269]
    simp (disch := omega) only [x_6_0, x_1, x_36, x_79_1_12_d0, x_79_1_12_d1, x_79_1_12_d2, x_79_1_12_d3, x_79_1_12_d4, x_7_2_I, x_7_2_A, x_7_2_U, x_7_3_I, x_7_3_A, x_7_3_U, x_7_4_I, x_7_4_A, x_7_4_U, x_61, x_4_4, x_4_2, x_65, x_4_3, x_34, x_38_213, x_12, x_4_1, x_63, x_60, x_11, x_10_4_I, x_10_4_A, x_10_4_U, x_82, cb_ri, cb_rl, cb_rv, cb_th, cb_ite, ps_s, ps_n, u_269_0, u_269_47, u_269_48, u_269_56, tm, Int.reduceEq, Int.reduceLT, Int.reduceLE, reduceIte, Int.reduceAdd, Int.reduceSub, Int.reduceMul, Int.reduceNeg, Int.reduceToNat, Bool.false_eq_true, eq_self, if_pos, if_neg]
    generalize mtH (hset g 186 0 0 0) (h 187 0) N 12 = G at *
    generalize tqF (h 187 0) N 12 = w at *
    refine loop_up (F := fun i => run (lr + 79) 269 15 [aA 12 0, aI s, aI (w.1 : Int), aI ((cnt (stpB w.2 s) i : Nat) : Int), aI ((i : Int) + 1)] [] G) (N := w.1 - 1) ?_ ?_ 0 (by omega)
    · intro i hi
      have y1 := x2 i (by omega)
      have y2 := x2 (i + 1) (by omega)
      have b1 := tb i (by omega)
      have b2 := tb (i + 1) (by omega)
      have cl' := cnt_le (stpB w.2 s) i
      have t2 : (((i + 1 : Nat) : Int) - 1).toNat = i := by omega
      show run _ _ _ _ _ _ = run _ _ _ [_, _, _, aI ((cnt (stpB w.2 s) i + (if stpB w.2 s i = true then 1 else 0) : Nat) : Int), _] _ _
      rw [hd_269_15]
      by_cases c : w.2 (i + 1) - w.2 i = s
      · rw [if_pos (show stpB w.2 s i = true from decide_eq_true c)]
        simp (disch := omega) only [x_6_0, x_1, x_36, x_79_1_12_d0, x_79_1_12_d1, x_79_1_12_d2, x_79_1_12_d3, x_79_1_12_d4, x_7_2_I, x_7_2_A, x_7_2_U, x_7_3_I, x_7_3_A, x_7_3_U, x_7_4_I, x_7_4_A, x_7_4_U, x_61, x_4_4, x_4_2, x_65, x_4_3, x_34, x_38_213, x_12, x_4_1, x_63, x_60, x_11, x_10_4_I, x_10_4_A, x_10_4_U, x_82, cb_ri, cb_rl, cb_rv, cb_th, cb_ite, ps_s, ps_n, u_269_0, u_269_47, u_269_48, u_269_56, y1, y2, tn, t2, c, Int.reduceEq, Int.reduceLT, Int.reduceLE, reduceIte, Int.reduceAdd, Int.reduceSub, Int.reduceMul, Int.reduceNeg, Int.reduceToNat, Bool.false_eq_true, eq_self, if_pos, if_neg, ci, w32_id]
      · rw [if_neg (show ¬ stpB w.2 s i = true from fun z => c (of_decide_eq_true z))]
        simp (disch := omega) only [x_6_0, x_1, x_36, x_79_1_12_d0, x_79_1_12_d1, x_79_1_12_d2, x_79_1_12_d3, x_79_1_12_d4, x_7_2_I, x_7_2_A, x_7_2_U, x_7_3_I, x_7_3_A, x_7_3_U, x_7_4_I, x_7_4_A, x_7_4_U, x_61, x_4_4, x_4_2, x_65, x_4_3, x_34, x_38_213, x_12, x_4_1, x_63, x_60, x_11, x_10_4_I, x_10_4_A, x_10_4_U, x_82, cb_ri, cb_rl, cb_rv, cb_th, cb_ite, ps_s, ps_n, u_269_0, u_269_47, u_269_48, u_269_56, y1, y2, tn, t2, c, Int.reduceEq, Int.reduceLT, Int.reduceLE, reduceIte, Int.reduceAdd, Int.reduceSub, Int.reduceMul, Int.reduceNeg, Int.reduceToNat, Bool.false_eq_true, eq_self, if_pos, if_neg, ci, w32_id, Nat.add_zero, Int.add_zero]
    · show run _ _ _ _ _ _ = _
      rw [hd_269_15]
      simp (disch := omega) only [x_6_0, x_1, x_36, x_79_1_12_d0, x_79_1_12_d1, x_79_1_12_d2, x_79_1_12_d3, x_79_1_12_d4, x_7_2_I, x_7_2_A, x_7_2_U, x_7_3_I, x_7_3_A, x_7_3_U, x_7_4_I, x_7_4_A, x_7_4_U, x_61, x_4_4, x_4_2, x_65, x_4_3, x_34, x_38_213, x_12, x_4_1, x_63, x_60, x_11, x_10_4_I, x_10_4_A, x_10_4_U, x_82, cb_ri, cb_rl, cb_rv, cb_th, cb_ite, ps_s, ps_n, u_269_0, u_269_47, u_269_48, u_269_56, Int.reduceEq, Int.reduceLT, Int.reduceLE, reduceIte, Int.reduceAdd, Int.reduceSub, Int.reduceMul, Int.reduceNeg, Int.reduceToNat, Bool.false_eq_true, eq_self, if_pos, if_neg]
