/-! rules that fit what was heard: the class -/
def mtP (M t : Nat → Int) (lo hi hd : Nat) (r : Nat) : Bool := hsB M lo hi hd (t (2 * r)).toNat == decide (t (2 * r + 1) = 1)
def fqB (M t : Nat → Int) (e q : Nat) : Bool := decide (q / 80 ≤ q / 10 % 8) && allB (mtP M t (q / 80) (q / 10 % 8) (q % 10)) (e / 2)
def hqB (M : Nat → Int) (q n : Nat) : Bool := hsB M (q / 80) (q / 10 % 8) (q % 10) n
def wqF (q : Nat) : Int := ((q / 10 % 8 : Nat) : Int) - ((q / 80 : Nat) : Int) + 1
def nwF (f : Nat → Bool) : Nat → Int
  | 0 => -1
  | q + 1 => if f q = true then (if nwF f q = -1 then wqF q else min (nwF f q) (wqF q)) else nwF f q
theorem row_ok {t : Nat → Int} {N e : Nat} (h : rowsB t N e) {r : Nat} (hr : r < e / 2) : t (2 * r) < (N : Int) ∧ t (2 * r + 1) ≤ 1 := by
  have : ¬ rwP t N r = true := fun z => h.2.2 (anyB_iff.mpr ⟨r, hr, z⟩)
  unfold rwP at this
  rw [Bool.or_eq_true] at this
  refine ⟨?_, ?_⟩
  · by_cases c : (N : Int) ≤ t (2 * r)
    · exact absurd (Or.inl (decide_eq_true c)) this
    · omega
  · by_cases c : 2 ≤ t (2 * r + 1)
    · exact absurd (Or.inr (decide_eq_true c)) this
    · omega
theorem all_any {P : Nat → Bool} {n : Nat} : allB P n = ! anyB (fun i => ! P i) n := by
  induction n with
  | zero => rfl
  | succ n ih =>
    show (allB P n && P n) = ! (anyB (fun i => ! P i) n || ! P n)
    rw [ih]
    cases anyB (fun i => ! P i) n <;> cases P n <;> rfl
theorem fits_c (lv N e lo hi hd : Nat) (M t : Nat → Int) (h : Hp) (R : RN h 0 M N) (hk : ∀ i, i < N → 0 ≤ M (50 + 4 * i + 1) ∧ M (50 + 4 * i + 1) ≤ 63) (ht : ∀ j, j < 400 → h 148 0 j = t j) (h0 : ∀ j, j < 400 → 0 ≤ t j) (ok : rowsB t N e) : cl (lv + 2) 1 [aA 0 0, aA 7 0, aI (e : Int), aI (lo : Int), aI (hi : Int), aI (hd : Int)] h = ri (boI (allB (mtP M t lo hi hd) (e / 2))) h := by
  obtain ⟨k1, k2, -⟩ := id ok
  rw [in_1]
  simp (disch := omega) only [x_1, x_7_6_I, x_7_6_A, x_7_6_U, x_61, x_4_6, x_11, x_4_2, x_65, x_6_1, x_6_0, x_35_0, x_34, x_38_148, x_4_3, x_4_4, x_4_5, x_80_5_d0, x_80_5_d1, x_80_5_d2, x_80_5_d3, x_80_5_d4, x_63, x_60, x_62, x_85, x_10_6_I, x_10_6_A, x_10_6_U, cb_ri, cb_rl, cb_rv, cb_th, cb_ite, ps_s, ps_n, u_1_0, u_1_50, u_1_51, u_1_56, u_1_62]
  have main := loop_any (F := fun r => run (lv + 1) 1 3 [aA 0 0, aA 7 0, aI (e : Int), aI (lo : Int), aI (hi : Int), aI (hd : Int), aI ((2 * r : Nat) : Int)] [] h) (N := e / 2) (P := fun r => ! mtP M t lo hi hd r) (r1 := ri 0 h) (r0 := ri 1 h) ?_ ?_
  · refine Eq.trans main ?_
    rw [all_any]
    cases anyB (fun r => ! mtP M t lo hi hd r) (e / 2) <;> rfl
  · intro r hr
    obtain ⟨b1, b2⟩ := row_ok ok hr
    have y1 := ht (2 * r) (by omega)
    have y2 := ht (2 * r + 1) (by omega)
    have n1 := h0 (2 * r) (by omega)
    have n2 := h0 (2 * r + 1) (by omega)
    have z1 : (((2 * r : Nat) : Int) + 1).toNat = 2 * r + 1 := by omega
    have z2 : ((2 * (r + 1) : Nat) : Int) = ((2 * r : Nat) : Int) + 2 := by omega
    have hs := has_c lv N lo hi hd (t (2 * r)).toNat M h R (hk _ (by omega)) (by omega)
    rw [show (((t (2 * r)).toNat : Nat) : Int) = t (2 * r) by omega] at hs
    show run _ _ _ _ _ _ = if _ then _ else run _ _ _ _ _ _
    have hdef : mtP M t lo hi hd r = (hsB M lo hi hd (t (2 * r)).toNat == decide (t (2 * r + 1) = 1)) := rfl
    rw [hdef, z2, hd_1_3]
    have hlt : ((2 * r : Nat) : Int) + 1 < (e : Int) := by omega
    generalize hq : 2 * r = q at *
    have ez : boI true = 1 := rfl
    have ef : boI false = 0 := rfl
    by_cases d : t (q + 1) = 1
    · rw [decide_eq_true d]
      cases hb : hsB M lo hi hd (t q).toNat with
      | true =>
        rw [hb] at hs
        rw [if_neg (by decide)]
        simp (disch := omega) only [x_1, x_7_6_I, x_7_6_A, x_7_6_U, x_61, x_4_6, x_11, x_4_2, x_65, x_6_1, x_6_0, x_35_0, x_34, x_38_148, x_4_3, x_4_4, x_4_5, x_80_5_d0, x_80_5_d1, x_80_5_d2, x_80_5_d3, x_80_5_d4, x_63, x_60, x_62, x_85, x_10_6_I, x_10_6_A, x_10_6_U, cb_ri, cb_rl, cb_rv, cb_th, cb_ite, ps_s, ps_n, u_1_0, u_1_50, u_1_51, u_1_56, u_1_62, tn, y1, z1, y2, hs, ez, ef, d, w32_id, Int.reduceEq, Int.reduceLT, Int.reduceLE, reduceIte, Int.reduceAdd, Int.reduceSub, Int.reduceMul, Int.reduceNeg, Int.reduceToNat, Bool.false_eq_true, eq_self, if_pos, if_neg]
      | false =>
        rw [hb] at hs
        rw [if_pos (by decide)]
        simp (disch := omega) only [x_1, x_7_6_I, x_7_6_A, x_7_6_U, x_61, x_4_6, x_11, x_4_2, x_65, x_6_1, x_6_0, x_35_0, x_34, x_38_148, x_4_3, x_4_4, x_4_5, x_80_5_d0, x_80_5_d1, x_80_5_d2, x_80_5_d3, x_80_5_d4, x_63, x_60, x_62, x_85, x_10_6_I, x_10_6_A, x_10_6_U, cb_ri, cb_rl, cb_rv, cb_th, cb_ite, ps_s, ps_n, u_1_0, u_1_50, u_1_51, u_1_56, u_1_62, tn, y1, z1, y2, hs, ez, ef, d, w32_id, Int.reduceEq, Int.reduceLT, Int.reduceLE, reduceIte, Int.reduceAdd, Int.reduceSub, Int.reduceMul, Int.reduceNeg, Int.reduceToNat, Bool.false_eq_true, eq_self, if_pos, if_neg]
    · rw [decide_eq_false d]
      cases hb : hsB M lo hi hd (t q).toNat with
      | true =>
        rw [hb] at hs
        rw [if_pos (by decide)]
        simp (disch := omega) only [x_1, x_7_6_I, x_7_6_A, x_7_6_U, x_61, x_4_6, x_11, x_4_2, x_65, x_6_1, x_6_0, x_35_0, x_34, x_38_148, x_4_3, x_4_4, x_4_5, x_80_5_d0, x_80_5_d1, x_80_5_d2, x_80_5_d3, x_80_5_d4, x_63, x_60, x_62, x_85, x_10_6_I, x_10_6_A, x_10_6_U, cb_ri, cb_rl, cb_rv, cb_th, cb_ite, ps_s, ps_n, u_1_0, u_1_50, u_1_51, u_1_56, u_1_62, tn, y1, z1, y2, hs, ez, ef, d, w32_id, Int.reduceEq, Int.reduceLT, Int.reduceLE, reduceIte, Int.reduceAdd, Int.reduceSub, Int.reduceMul, Int.reduceNeg, Int.reduceToNat, Bool.false_eq_true, eq_self, if_pos, if_neg]
      | false =>
        rw [hb] at hs
        rw [if_neg (by decide)]
        simp (disch := omega) only [x_1, x_7_6_I, x_7_6_A, x_7_6_U, x_61, x_4_6, x_11, x_4_2, x_65, x_6_1, x_6_0, x_35_0, x_34, x_38_148, x_4_3, x_4_4, x_4_5, x_80_5_d0, x_80_5_d1, x_80_5_d2, x_80_5_d3, x_80_5_d4, x_63, x_60, x_62, x_85, x_10_6_I, x_10_6_A, x_10_6_U, cb_ri, cb_rl, cb_rv, cb_th, cb_ite, ps_s, ps_n, u_1_0, u_1_50, u_1_51, u_1_56, u_1_62, tn, y1, z1, y2, hs, ez, ef, d, w32_id, Int.reduceEq, Int.reduceLT, Int.reduceLE, reduceIte, Int.reduceAdd, Int.reduceSub, Int.reduceMul, Int.reduceNeg, Int.reduceToNat, Bool.false_eq_true, eq_self, if_pos, if_neg]
  · show run _ _ _ _ _ _ = _
    rw [hd_1_3]
    simp (disch := omega) only [x_1, x_7_6_I, x_7_6_A, x_7_6_U, x_61, x_4_6, x_11, x_4_2, x_65, x_6_1, x_6_0, x_35_0, x_34, x_38_148, x_4_3, x_4_4, x_4_5, x_80_5_d0, x_80_5_d1, x_80_5_d2, x_80_5_d3, x_80_5_d4, x_63, x_60, x_62, x_85, x_10_6_I, x_10_6_A, x_10_6_U, cb_ri, cb_rl, cb_rv, cb_th, cb_ite, ps_s, ps_n, u_1_0, u_1_50, u_1_51, u_1_56, u_1_62, w32_id, Int.reduceEq, Int.reduceLT, Int.reduceLE, reduceIte, Int.reduceAdd, Int.reduceSub, Int.reduceMul, Int.reduceNeg, Int.reduceToNat, Bool.false_eq_true, eq_self, if_pos, if_neg]
/-- the heap once a rule is let in -/
def guH (g : Hp) (P : Nat → Bool) (i : Nat) : Hp := fun tt k j => if tt = 101 ∧ k = 0 ∧ j < i then g tt k j + boI (P j) else g tt k j
theorem guH_0 (g : Hp) (P : Nat → Bool) : guH g P 0 = g := by funext tt k j; unfold guH; rw [if_neg (by omega)]
theorem guH_s (g : Hp) (P : Nat → Bool) (i : Nat) : hset (guH g P i) 101 0 i (g 101 0 i + boI (P i)) = guH g P (i + 1) := by
  funext tt k j
  by_cases c : tt = 101 ∧ k = 0 ∧ j = i
  · obtain ⟨rfl, rfl, rfl⟩ := c
    rw [hs_eq]; unfold guH; rw [if_pos (by omega)]
  · rw [hs_o c]
    unfold guH
    by_cases d : tt = 101 ∧ k = 0 ∧ j < i
    · rw [if_pos d, if_pos (by omega)]
    · rw [if_neg d, if_neg (by omega)]
theorem guH_i (g : Hp) (P : Nat → Bool) (i : Nat) : guH g P i 101 0 i = g 101 0 i := by unfold guH; rw [if_neg (by omega)]
theorem guH_o (g : Hp) (P : Nat → Bool) (i : Nat) {tt k j : Nat} (h : tt ≠ 101) : guH g P i tt k j = g tt k j := by unfold guH; rw [if_neg (by omega)]
def gaH (g : Hp) (P : Nat → Bool) (N : Nat) (w : Int) : Hp := guH (hset (hset g 102 0 0 (g 102 0 0 + 1)) 103 0 0 (if g 103 0 0 = -1 then w else min (g 103 0 0) w)) P N
theorem letin_c (lv H N lo hi hd : Nat) (M : Nat → Int) (g : Hp) (R : RS g 0 M H N) (hk : ∀ i, i < N → 0 ≤ M (50 + 4 * i + 1) ∧ M (50 + 4 * i + 1) ≤ 63) (b2 : 0 ≤ g 102 0 0 ∧ g 102 0 0 < 1000) (b1 : ∀ n, n < N → 0 ≤ g 101 0 n ∧ g 101 0 n < 1000) (hlo : lo < 8) (hhi : hi < 8) : cl (lv + 2) 3 [aA 0 0, aA 7 0, aI (lo : Int), aI (hi : Int), aI (hd : Int)] g = rv (gaH g (hsB M lo hi hd) N ((hi : Int) - (lo : Int) + 1)) := by
  have hN := R.2.1.2.1
  have mn := min_c lv (g 103 0 0) ((hi : Int) - (lo : Int) + 1) (hset g 102 0 0 (g 102 0 0 + 1))
  have e3 : hset g 102 0 0 (g 102 0 0 + 1) 103 0 0 = g 103 0 0 := hs_t (by omega)
  have main : ∀ x : Hp, (∀ tt k j, stTag tt → x tt k j = g tt k j) → (∀ n, x 101 0 n = g 101 0 n) → run (lv + 1) 3 46 [aA 0 0, aA 7 0, aI (lo : Int), aI (hi : Int), aI (hd : Int), aI ((hi : Int) - (lo : Int) + 1), aI 0] [] x = rv (guH x (hsB M lo hi hd) N) := by
    intro x hx hx1
    have R2 : RS x 0 M H N := RS_e (fun t i ht => hx t 0 i ht) R
    have main := loop_up (F := fun i => run (lv + 1) 3 46 [aA 0 0, aA 7 0, aI (lo : Int), aI (hi : Int), aI (hd : Int), aI ((hi : Int) - (lo : Int) + 1), aI (i : Int)] [] (guH x (hsB M lo hi hd) i)) (N := N) (r := rv (guH x (hsB M lo hi hd) N)) ?_ ?_ 0 (by omega)
    · rw [guH_0] at main; exact main
    · intro i hi'
      have R3 : RS (guH x (hsB M lo hi hd) i) 0 M H N := RS_e (fun t j ht => guH_o _ _ _ (by unfold stTag at ht; omega)) R2
      have hs := has_c lv N lo hi hd i M (guH x (hsB M lo hi hd) i) R3.2.1 (hk i hi') hi'
      have e4 := R3.2.1.1
      have ei := guH_i x (hsB M lo hi hd) i
      have es := guH_s x (hsB M lo hi hd) i
      have bi := b1 i hi'
      rw [← hx1 i] at bi
      show run _ _ _ _ _ _ = run _ _ _ _ _ _
      rw [← es, hd_3_46]
      generalize guH x (hsB M lo hi hd) i = y at *
      have ez : boI true = 1 := rfl
      have ef : boI false = 0 := rfl
      cases hb : hsB M lo hi hd i with
      | true =>
        rw [hb] at hs
        simp (disch := omega) only [x_6_0, x_47_I, x_47_A, x_33, x_1, x_11, x_36, x_4_3, x_4_2, x_12, x_7_5_I, x_7_5_A, x_7_5_U, x_63, x_4_5, x_60, x_80_2_d0, x_80_2_d1, x_80_2_d2, x_80_2_d3, x_80_2_d4, x_61, x_7_6_I, x_7_6_A, x_7_6_U, x_4_6, x_6_1, x_65, x_34, x_48, x_38_101, x_4_4, x_80_5_d0, x_80_5_d1, x_80_5_d2, x_80_5_d3, x_80_5_d4, x_68, x_39_101, x_10_6_I, x_10_6_A, x_10_6_U, x_83, cb_ri, cb_rl, cb_rv, cb_th, cb_ite, ps_s, ps_n, u_3_0, u_3_31, u_3_40, u_3_80, u_3_81, u_3_89, e4, tn, ei, hs, ez, ef, w32_id, ci, Int.reduceEq, Int.reduceLT, Int.reduceLE, reduceIte, Int.reduceAdd, Int.reduceSub, Int.reduceMul, Int.reduceNeg, Int.reduceToNat, Bool.false_eq_true, eq_self, if_pos, if_neg]
      | false =>
        rw [hb] at hs
        simp (disch := omega) only [x_6_0, x_47_I, x_47_A, x_33, x_1, x_11, x_36, x_4_3, x_4_2, x_12, x_7_5_I, x_7_5_A, x_7_5_U, x_63, x_4_5, x_60, x_80_2_d0, x_80_2_d1, x_80_2_d2, x_80_2_d3, x_80_2_d4, x_61, x_7_6_I, x_7_6_A, x_7_6_U, x_4_6, x_6_1, x_65, x_34, x_48, x_38_101, x_4_4, x_80_5_d0, x_80_5_d1, x_80_5_d2, x_80_5_d3, x_80_5_d4, x_68, x_39_101, x_10_6_I, x_10_6_A, x_10_6_U, x_83, cb_ri, cb_rl, cb_rv, cb_th, cb_ite, ps_s, ps_n, u_3_0, u_3_31, u_3_40, u_3_80, u_3_81, u_3_89, e4, tn, ei, hs, ez, ef, w32_id, ci, Int.reduceEq, Int.reduceLT, Int.reduceLE, reduceIte, Int.reduceAdd, Int.reduceSub, Int.reduceMul, Int.reduceNeg, Int.reduceToNat, Bool.false_eq_true, eq_self, if_pos, if_neg]
    · have R3 : RS (guH x (hsB M lo hi hd) N) 0 M H N := RS_e (fun t j ht => guH_o _ _ _ (by unfold stTag at ht; omega)) R2
      have e4 := R3.2.1.1
      show run _ _ _ _ _ _ = _
      rw [hd_3_46]
      simp (disch := omega) only [x_6_0, x_47_I, x_47_A, x_33, x_1, x_11, x_36, x_4_3, x_4_2, x_12, x_7_5_I, x_7_5_A, x_7_5_U, x_63, x_4_5, x_60, x_80_2_d0, x_80_2_d1, x_80_2_d2, x_80_2_d3, x_80_2_d4, x_61, x_7_6_I, x_7_6_A, x_7_6_U, x_4_6, x_6_1, x_65, x_34, x_48, x_38_101, x_4_4, x_80_5_d0, x_80_5_d1, x_80_5_d2, x_80_5_d3, x_80_5_d4, x_68, x_39_101, x_10_6_I, x_10_6_A, x_10_6_U, x_83, cb_ri, cb_rl, cb_rv, cb_th, cb_ite, ps_s, ps_n, u_3_0, u_3_31, u_3_40, u_3_80, u_3_81, u_3_89, e4, Int.reduceEq, Int.reduceLT, Int.reduceLE, reduceIte, Int.reduceAdd, Int.reduceSub, Int.reduceMul, Int.reduceNeg, Int.reduceToNat, Bool.false_eq_true, eq_self, if_pos, if_neg]
  unfold gaH
  rw [in_3]
  by_cases c : g 103 0 0 = -1
  · rw [if_pos c]
    simp (disch := omega) only [x_6_0, x_47_I, x_47_A, x_33, x_1, x_11, x_36, x_4_3, x_4_2, x_12, x_7_5_I, x_7_5_A, x_7_5_U, x_63, x_4_5, x_60, x_80_2_d0, x_80_2_d1, x_80_2_d2, x_80_2_d3, x_80_2_d4, x_61, x_7_6_I, x_7_6_A, x_7_6_U, x_4_6, x_6_1, x_65, x_34, x_48, x_38_101, x_4_4, x_80_5_d0, x_80_5_d1, x_80_5_d2, x_80_5_d3, x_80_5_d4, x_68, x_39_101, x_10_6_I, x_10_6_A, x_10_6_U, x_83, cb_ri, cb_rl, cb_rv, cb_th, cb_ite, ps_s, ps_n, u_3_0, u_3_31, u_3_40, u_3_80, u_3_81, u_3_89, e3, c, w32_id, Int.reduceEq, Int.reduceLT, Int.reduceLE, reduceIte, Int.reduceAdd, Int.reduceSub, Int.reduceMul, Int.reduceNeg, Int.reduceToNat, Bool.false_eq_true, eq_self, if_pos, if_neg]
    exact main _ (fun tt k j ht => by rw [hs_t (by unfold stTag at ht; omega), hs_t (by unfold stTag at ht; omega)]) (fun n => by rw [hs_t (by omega), hs_t (by omega)])
  · rw [if_neg c]
    simp (disch := omega) only [x_6_0, x_47_I, x_47_A, x_33, x_1, x_11, x_36, x_4_3, x_4_2, x_12, x_7_5_I, x_7_5_A, x_7_5_U, x_63, x_4_5, x_60, x_80_2_d0, x_80_2_d1, x_80_2_d2, x_80_2_d3, x_80_2_d4, x_61, x_7_6_I, x_7_6_A, x_7_6_U, x_4_6, x_6_1, x_65, x_34, x_48, x_38_101, x_4_4, x_80_5_d0, x_80_5_d1, x_80_5_d2, x_80_5_d3, x_80_5_d4, x_68, x_39_101, x_10_6_I, x_10_6_A, x_10_6_U, x_83, cb_ri, cb_rl, cb_rv, cb_th, cb_ite, ps_s, ps_n, u_3_0, u_3_31, u_3_40, u_3_80, u_3_81, u_3_89, e3, c, mn, w32_id, Int.reduceEq, Int.reduceLT, Int.reduceLE, reduceIte, Int.reduceAdd, Int.reduceSub, Int.reduceMul, Int.reduceNeg, Int.reduceToNat, Bool.false_eq_true, eq_self, if_pos, if_neg]
    exact main _ (fun tt k j ht => by rw [hs_t (by unfold stTag at ht; omega), hs_t (by unfold stTag at ht; omega)]) (fun n => by rw [hs_t (by omega), hs_t (by omega)])
