/-! THE REFERENCE READS: its small reading methods. -/
def TX (h : Hp) (t : Nat → Int) (e : Nat) : Prop := e ≤ 400 ∧ h 196 0 0 = (e : Int) ∧ ((h 195 0 0 = -1 ∧ ∀ i, i < 400 → h 193 0 i = t i) ∨ (h 195 0 0 = 346 ∧ ∀ i, i < 400 → h 187 0 (346 + i) = t i))
def RZ (h : Hp) (z : Int) : Hp := hset h 197 0 0 z
def RD (h : Hp) (a : Nat) : Hp := RZ h (a : Int)
theorem RZ_o {h : Hp} {z : Int} {tt k i : Nat} (ht : tt ≠ 197) : RZ h z tt k i = h tt k i := by unfold RZ; rw [hs_o (by omega)]
theorem RZ_a (h : Hp) (z : Int) : RZ h z 197 0 0 = z := hs_eq _ _ _ _ _
theorem RD_o {h : Hp} {a tt k i : Nat} (ht : tt ≠ 197) : RD h a tt k i = h tt k i := RZ_o ht
theorem RD_a (h : Hp) (a : Nat) : RD h a 197 0 0 = (a : Int) := RZ_a _ _
theorem RD_RD (h : Hp) (a b : Nat) : hset (RD h a) 197 0 0 (b : Int) = RD h b := by
  funext tt k i; unfold RD RZ hset; split <;> rfl
theorem RD_TX {h : Hp} {t : Nat → Int} {e : Nat} (T : TX h t e) (a : Nat) : TX (RD h a) t e := by
  obtain ⟨t1, t2, t3⟩ := T
  refine ⟨t1, by rw [RD_o (by omega)]; exact t2, ?_⟩
  rcases t3 with ⟨u, v⟩ | ⟨u, v⟩
  · left; exact ⟨by rw [RD_o (by omega)]; exact u, fun i hi => by rw [RD_o (by omega)]; exact v i hi⟩
  · right; exact ⟨by rw [RD_o (by omega)]; exact u, fun i hi => by rw [RD_o (by omega)]; exact v i hi⟩
theorem letter_m (lv : Nat) {h : Hp} {t : Nat → Int} {e i : Nat} (T : TX h t e) (hi : i < 400) : cl (lv + 1) 185 [aA 12 0, aI (i : Int)] h = ri (t i) h := by
  obtain ⟨t1, t2, t3⟩ := T
  rw [in_185]
  rcases t3 with ⟨u, v⟩ | ⟨u, v⟩
  · have v1 := v i hi
    simp (disch := omega) only [x_6_0, x_33, x_1, x_63, x_34, x_4_1, x_38_187, x_38_193, x_60, x_11, x_61, x_82, u_185_0, u_185_17, u_185_28, u, v1, tn, Int.reduceEq, Int.reduceLT, Int.reduceLE, reduceIte, Int.reduceAdd, Int.reduceSub, Int.reduceMul, Int.reduceNeg, Int.reduceToNat, Bool.false_eq_true, eq_self, if_pos, if_neg]
  · have v1 := v i hi
    have e1 : ((346 : Int) + (i : Int)).toNat = 346 + i := by omega
    simp (disch := omega) only [x_6_0, x_33, x_1, x_63, x_34, x_4_1, x_38_187, x_38_193, x_60, x_11, x_61, x_82, u_185_0, u_185_17, u_185_28, u, w32_id, e1, v1, tn, Int.reduceEq, Int.reduceLT, Int.reduceLE, reduceIte, Int.reduceAdd, Int.reduceSub, Int.reduceMul, Int.reduceNeg, Int.reduceToNat, Bool.false_eq_true, eq_self, if_pos, if_neg]
theorem skip_m (lv : Nat) {h : Hp} {t : Nat → Int} {e a : Nat} (T : TX h t e) (ha : a ≤ e) : cl (lv + 2) 186 [aA 12 0] (RD h a) = rv (RD h (sk t e a)) := by
  rw [in_186]
  have te := T.1
  have key : ∀ d a, e - a = d → a ≤ e → run (lv + 1) 186 0 [aA 12 0] [] (RD h a) = rv (RD h (sk t e a)) := by
    intro d
    induction d with
    | zero =>
      intro a h1 h2
      have e0 : a = e := by omega
      subst e0
      have e1 := RD_a h a
      have e2 := (RD_TX T a).2.1
      rw [sk_e, hd_186_0]
      simp (disch := omega) only [x_6_0, x_33, x_65, x_79_2_12_d0, x_79_2_12_d1, x_79_2_12_d2, x_79_2_12_d3, x_79_2_12_d4, x_1, x_63, x_47_I, x_47_A, x_11, x_36, x_60, x_83, cb_ri, cb_rl, cb_rv, cb_th, cb_ite, ps_s, ps_n, u_186_37, e1, e2, Int.reduceEq, Int.reduceLT, Int.reduceLE, reduceIte, Int.reduceAdd, Int.reduceSub, Int.reduceMul, Int.reduceNeg, Int.reduceToNat, Bool.false_eq_true, eq_self, if_pos, if_neg]
    | succ d ih =>
      intro a h1 h2
      have e1 := RD_a h a
      have e2 := (RD_TX T a).2.1
      have l := letter_m lv (i := a) (RD_TX T a) (by omega)
      have st := RD_RD h a (a + 1)
      rw [hd_186_0]
      by_cases c : t a = 32
      · rw [sk_32 t (by omega) c, ← ih (a + 1) (by omega) (by omega), ← st]
        rw [c] at l
        simp (disch := omega) only [x_6_0, x_33, x_65, x_79_2_12_d0, x_79_2_12_d1, x_79_2_12_d2, x_79_2_12_d3, x_79_2_12_d4, x_1, x_63, x_47_I, x_47_A, x_11, x_36, x_60, x_83, cb_ri, cb_rl, cb_rv, cb_th, cb_ite, ps_s, ps_n, u_186_37, e1, e2, l, w32_id, Int.reduceEq, Int.reduceLT, Int.reduceLE, reduceIte, Int.reduceAdd, Int.reduceSub, Int.reduceMul, Int.reduceNeg, Int.reduceToNat, Bool.false_eq_true, eq_self, if_pos, if_neg]
        rfl
      · rw [sk_n t (by omega) c]
        simp (disch := omega) only [x_6_0, x_33, x_65, x_79_2_12_d0, x_79_2_12_d1, x_79_2_12_d2, x_79_2_12_d3, x_79_2_12_d4, x_1, x_63, x_47_I, x_47_A, x_11, x_36, x_60, x_83, cb_ri, cb_rl, cb_rv, cb_th, cb_ite, ps_s, ps_n, u_186_37, e1, e2, l, c, Int.reduceEq, Int.reduceLT, Int.reduceLE, reduceIte, Int.reduceAdd, Int.reduceSub, Int.reduceMul, Int.reduceNeg, Int.reduceToNat, Bool.false_eq_true, eq_self, if_pos, if_neg]
  exact key _ a rfl ha
theorem here_m (lv : Nat) {h : Hp} {t : Nat → Int} {e a : Nat} (T : TX h t e) (ha : a ≤ e) : cl (lv + 3) 190 [aA 12 0] (RD h a) = ri ((sk t e a : Nat) : Int) (RD h (sk t e a)) := by
  have s := skip_m lv T ha
  have e1 := RD_a h (sk t e a)
  rw [in_190]
  simp (disch := omega) only [x_6_0, x_79_1_12_d0, x_79_1_12_d1, x_79_1_12_d2, x_79_1_12_d3, x_79_1_12_d4, x_33, x_82, cb_ri, cb_rl, cb_rv, cb_th, cb_ite, ps_s, ps_n, u_190_0, s, e1, Int.reduceEq, Int.reduceLT, Int.reduceLE, reduceIte, Int.reduceAdd, Int.reduceSub, Int.reduceMul, Int.reduceNeg, Int.reduceToNat, Bool.false_eq_true, eq_self, if_pos, if_neg]
theorem sign_m (lv : Nat) {h : Hp} {t : Nat → Int} {e a : Nat} (c : Int) (T : TX h t e) (ha : a ≤ e) : cl (lv + 3) 187 [aA 12 0, aI c] (RD h a) = ri (if isC t e (sk t e a) c = true then 1 else 0) (RD h (sk t e a)) := by
  have te := T.1
  have s := skip_m lv T ha
  have e1 := RD_a h (sk t e a)
  have e2 := (RD_TX T (sk t e a)).2.1
  have hb := sk_b t ha
  rw [in_187]
  unfold isC
  by_cases c1 : sk t e a < e
  · have l := letter_m (lv + 1) (i := sk t e a) (RD_TX T (sk t e a)) (by omega)
    by_cases c2 : t (sk t e a) = c
    · rw [decide_eq_true ⟨c1, c2⟩]
      simp (disch := omega) only [x_6_0, x_79_1_12_d0, x_79_1_12_d1, x_79_1_12_d2, x_79_1_12_d3, x_79_1_12_d4, x_33, x_65, x_79_2_12_d0, x_79_2_12_d1, x_79_2_12_d2, x_79_2_12_d3, x_79_2_12_d4, x_4_1, x_63, x_1, x_60, x_61, x_85, cb_ri, cb_rl, cb_rv, cb_th, cb_ite, ps_s, ps_n, u_187_0, u_187_31, u_187_32, s, e1, e2, l, c2, Int.reduceEq, Int.reduceLT, Int.reduceLE, reduceIte, Int.reduceAdd, Int.reduceSub, Int.reduceMul, Int.reduceNeg, Int.reduceToNat, Bool.false_eq_true, eq_self, if_pos, if_neg]
    · rw [decide_eq_false (fun z => c2 z.2)]
      simp (disch := omega) only [x_6_0, x_79_1_12_d0, x_79_1_12_d1, x_79_1_12_d2, x_79_1_12_d3, x_79_1_12_d4, x_33, x_65, x_79_2_12_d0, x_79_2_12_d1, x_79_2_12_d2, x_79_2_12_d3, x_79_2_12_d4, x_4_1, x_63, x_1, x_60, x_61, x_85, cb_ri, cb_rl, cb_rv, cb_th, cb_ite, ps_s, ps_n, u_187_0, u_187_31, u_187_32, s, e1, e2, l, c2, Int.reduceEq, Int.reduceLT, Int.reduceLE, reduceIte, Int.reduceAdd, Int.reduceSub, Int.reduceMul, Int.reduceNeg, Int.reduceToNat, Bool.false_eq_true, eq_self, if_pos, if_neg]
  · rw [decide_eq_false (fun z => c1 z.1)]
    simp (disch := omega) only [x_6_0, x_79_1_12_d0, x_79_1_12_d1, x_79_1_12_d2, x_79_1_12_d3, x_79_1_12_d4, x_33, x_65, x_79_2_12_d0, x_79_2_12_d1, x_79_2_12_d2, x_79_2_12_d3, x_79_2_12_d4, x_4_1, x_63, x_1, x_60, x_61, x_85, cb_ri, cb_rl, cb_rv, cb_th, cb_ite, ps_s, ps_n, u_187_0, u_187_31, u_187_32, s, e1, e2, Int.reduceEq, Int.reduceLT, Int.reduceLE, reduceIte, Int.reduceAdd, Int.reduceSub, Int.reduceMul, Int.reduceNeg, Int.reduceToNat, Bool.false_eq_true, eq_self, if_pos, if_neg]
theorem wrong_m (lv : Nat) (h : Hp) (f : Int) (hf : h 198 0 0 = -1) : cl (lv + 1) 189 [aA 12 0, aI f] h = rv (hset h 198 0 0 f) := by
  rw [in_189]
  simp (disch := omega) only [x_6_0, x_33, x_1, x_63, x_4_1, x_36, x_61, x_83, u_189_0, u_189_13, hf, Int.reduceEq, Int.reduceLT, Int.reduceLE, reduceIte, Int.reduceAdd, Int.reduceSub, Int.reduceMul, Int.reduceNeg, Int.reduceToNat, Bool.false_eq_true, eq_self, if_pos, if_neg]
theorem wrong_n (lv : Nat) (h : Hp) (f : Int) (hf : ¬ h 198 0 0 = -1) : cl (lv + 1) 189 [aA 12 0, aI f] h = rv h := by
  rw [in_189]
  simp (disch := omega) only [x_6_0, x_33, x_1, x_63, x_4_1, x_36, x_61, x_83, u_189_0, u_189_13, hf, Int.reduceEq, Int.reduceLT, Int.reduceLE, reduceIte, Int.reduceAdd, Int.reduceSub, Int.reduceMul, Int.reduceNeg, Int.reduceToNat, Bool.false_eq_true, eq_self, if_pos, if_neg]
