theorem skip_z (lv : Nat) {h : Hp} {t : Nat → Int} {e : Nat} (T : TX h t e) (z f : Int) (hz : 0 ≤ z) : ∃ y, cl (lv + 2) 186 [aA 12 0] (hset (RZ h z) 198 0 0 f) = rv (hset (RZ h y) 198 0 0 f) := by
  have e0 : ∀ y, hset (RZ h y) 198 0 0 f = RZ (hset h 198 0 0 f) y := by
    intro y
    funext tt k i
    unfold RZ hset
    by_cases c1 : tt = 198 ∧ k = 0 ∧ i = 0
    · simp [c1]
    · simp [c1]
  have T' : TX (hset h 198 0 0 f) t e := by
    obtain ⟨t1, t2, t3⟩ := T
    refine ⟨t1, by rw [hs_o (by omega)]; exact t2, ?_⟩
    rcases t3 with ⟨u, w⟩ | ⟨u, w⟩
    · left; exact ⟨by rw [hs_o (by omega)]; exact u, fun i hi => by rw [hs_o (by omega)]; exact w i hi⟩
    · right; exact ⟨by rw [hs_o (by omega)]; exact u, fun i hi => by rw [hs_o (by omega)]; exact w i hi⟩
  obtain ⟨a, ha⟩ : ∃ a : Nat, z = (a : Int) := ⟨z.toNat, by omega⟩
  subst ha
  by_cases c : a ≤ e
  · refine ⟨((sk t e a : Nat) : Int), ?_⟩
    rw [e0, e0]
    exact skip_m lv T' c
  · refine ⟨(a : Int), ?_⟩
    rw [e0]
    have e1 : RZ (hset h 198 0 0 f) (a : Int) 197 0 0 = (a : Int) := RZ_a _ _
    have e2 : RZ (hset h 198 0 0 f) (a : Int) 196 0 0 = (e : Int) := by rw [RZ_o (by omega)]; exact T'.2.1
    rw [in_186, hd_186_0]
    simp (disch := omega) only [x_6_0, x_33, x_65, x_79_2_12_d0, x_79_2_12_d1, x_79_2_12_d2, x_79_2_12_d3, x_79_2_12_d4, x_1, x_63, x_47_I, x_47_A, x_11, x_36, x_60, x_83, cb_ri, cb_rl, cb_rv, cb_th, cb_ite, ps_s, ps_n, u_186_37, e1, e2, Int.reduceEq, Int.reduceLT, Int.reduceLE, reduceIte, Int.reduceAdd, Int.reduceSub, Int.reduceMul, Int.reduceNeg, Int.reduceToNat, Bool.false_eq_true, eq_self, if_pos, if_neg]
