theorem boI_b (b : Bool) : boI b = 0 ∨ boI b = 1 := by cases b <;> simp [boI]
theorem boI_0 {b : Bool} : boI b = 0 ↔ b = false := by cases b <;> simp [boI]
theorem boI_1 {b : Bool} : boI b = 1 ↔ b = true := by cases b <;> simp [boI]
theorem mseqA_l (lv : Nat) {h : Hp} {t : Nat → Int} {e : Nat} {F : Nat → Int} {B : Int} (X : Nat → PR CB2) (T : TX h t e) (hf : h 198 0 0 = -1)
    (hX : ∀ a, a ≤ e → BRes (cl (lv + 5) 206 [aA 12 0] (RD h a)) (X (sk t e a)) F h t e B) (hN : ∀ p, p ≤ e → LenOk (X p) e p) : ∀ (n : Nat) (b : CB2) (p a' : Nat) (g : AV), a' ≤ e → sk t e a' = p → e < p + n → BRes (run (lv + 5) 207 5 [aA 12 0, aI (boI (b.2 F)), g] [] (RD h a')) (pLoop t e X wAnd 13 (fun a b => a && b) n b p) F h t e B := by
  intro n
  induction n with
  | zero => intro b p a' g h1 h2 h3; have := (sk_b t h1).2; omega
  | succ n ih =>
    intro b p a' g h1 h2 h3
    have hpb := sk_b t h1
    have w := has_m lv 0 wAnd T h1 rfl (by decide) (by decide)
    rw [h2] at w hpb
    have hfa : RD h a' 198 0 0 = -1 := by rw [RD_o (by omega)]; exact hf
    have bb := boI_b (b.2 F)
    unfold pLoop
    by_cases hc : isW t e p wAnd = true
    · rw [if_pos hc] at w ⊢
      have q := isW_sk hpb.2 hc (by decide)
      have hn := nxt_b t (isW_lt hpb.2 hc (by decide))
      have x1 := hX (wE t e p) q.2
      have l1 := hN _ hn.2
      rw [q.1] at x1
      cases hq : X (nxt t e p) with
      | inl f =>
        rw [hq] at x1
        obtain ⟨v, a2, hv, hz, x1⟩ := x1
        have ef : hset (RZ h a2) 198 0 0 (f : Int) 198 0 0 = (f : Int) := hs_eq _ _ _ _ _
        by_cases c : boI (b.2 F) = 1 ∧ v = 1
        · refine ⟨1, a2, Or.inr rfl, hz, ?_⟩
          rw [c.1, hd_207_5]
          simp (disch := omega) only [x_6_0, x_79_1_12_d0, x_79_1_12_d1, x_79_1_12_d2, x_79_1_12_d3, x_79_1_12_d4, x_7_1_I, x_7_1_A, x_7_1_U, x_61, x_33, x_1, x_63, x_3, x_79_2_12_d0, x_79_2_12_d1, x_79_2_12_d2, x_79_2_12_d3, x_79_2_12_d4, x_68, x_7_2_I, x_7_2_A, x_7_2_U, x_4_1, x_4_2, x_60, x_85, cb_ri, cb_rl, cb_rv, cb_th, cb_ite, ps_s, ps_n, u_207_0, u_207_39, u_207_40, u_207_44, hfa, w, x1, Int.reduceEq, Int.reduceLT, Int.reduceLE, reduceIte, Int.reduceAdd, Int.reduceSub, Int.reduceMul, Int.reduceNeg, Int.reduceToNat, Bool.false_eq_true, eq_self, if_pos, if_neg]
          rw [hd_207_5]
          simp (disch := omega) only [x_6_0, x_79_1_12_d0, x_79_1_12_d1, x_79_1_12_d2, x_79_1_12_d3, x_79_1_12_d4, x_7_1_I, x_7_1_A, x_7_1_U, x_61, x_33, x_1, x_63, x_3, x_79_2_12_d0, x_79_2_12_d1, x_79_2_12_d2, x_79_2_12_d3, x_79_2_12_d4, x_68, x_7_2_I, x_7_2_A, x_7_2_U, x_4_1, x_4_2, x_60, x_85, cb_ri, cb_rl, cb_rv, cb_th, cb_ite, ps_s, ps_n, u_207_0, u_207_39, u_207_40, u_207_44, ef, Int.reduceEq, Int.reduceLT, Int.reduceLE, reduceIte, Int.reduceAdd, Int.reduceSub, Int.reduceMul, Int.reduceNeg, Int.reduceToNat, Bool.false_eq_true, eq_self, if_pos, if_neg]
        · refine ⟨0, a2, Or.inl rfl, hz, ?_⟩
          rw [hd_207_5]
          by_cases c0 : boI (b.2 F) = 0
          · simp (disch := omega) only [x_6_0, x_79_1_12_d0, x_79_1_12_d1, x_79_1_12_d2, x_79_1_12_d3, x_79_1_12_d4, x_7_1_I, x_7_1_A, x_7_1_U, x_61, x_33, x_1, x_63, x_3, x_79_2_12_d0, x_79_2_12_d1, x_79_2_12_d2, x_79_2_12_d3, x_79_2_12_d4, x_68, x_7_2_I, x_7_2_A, x_7_2_U, x_4_1, x_4_2, x_60, x_85, cb_ri, cb_rl, cb_rv, cb_th, cb_ite, ps_s, ps_n, u_207_0, u_207_39, u_207_40, u_207_44, hfa, w, x1, c0, Int.reduceEq, Int.reduceLT, Int.reduceLE, reduceIte, Int.reduceAdd, Int.reduceSub, Int.reduceMul, Int.reduceNeg, Int.reduceToNat, Bool.false_eq_true, eq_self, if_pos, if_neg]
            rw [hd_207_5]
            simp (disch := omega) only [x_6_0, x_79_1_12_d0, x_79_1_12_d1, x_79_1_12_d2, x_79_1_12_d3, x_79_1_12_d4, x_7_1_I, x_7_1_A, x_7_1_U, x_61, x_33, x_1, x_63, x_3, x_79_2_12_d0, x_79_2_12_d1, x_79_2_12_d2, x_79_2_12_d3, x_79_2_12_d4, x_68, x_7_2_I, x_7_2_A, x_7_2_U, x_4_1, x_4_2, x_60, x_85, cb_ri, cb_rl, cb_rv, cb_th, cb_ite, ps_s, ps_n, u_207_0, u_207_39, u_207_40, u_207_44, ef, Int.reduceEq, Int.reduceLT, Int.reduceLE, reduceIte, Int.reduceAdd, Int.reduceSub, Int.reduceMul, Int.reduceNeg, Int.reduceToNat, Bool.false_eq_true, eq_self, if_pos, if_neg]
          · have c1 : v = 0 := by omega
            simp (disch := omega) only [x_6_0, x_79_1_12_d0, x_79_1_12_d1, x_79_1_12_d2, x_79_1_12_d3, x_79_1_12_d4, x_7_1_I, x_7_1_A, x_7_1_U, x_61, x_33, x_1, x_63, x_3, x_79_2_12_d0, x_79_2_12_d1, x_79_2_12_d2, x_79_2_12_d3, x_79_2_12_d4, x_68, x_7_2_I, x_7_2_A, x_7_2_U, x_4_1, x_4_2, x_60, x_85, cb_ri, cb_rl, cb_rv, cb_th, cb_ite, ps_s, ps_n, u_207_0, u_207_39, u_207_40, u_207_44, hfa, w, x1, c1, Int.reduceEq, Int.reduceLT, Int.reduceLE, reduceIte, Int.reduceAdd, Int.reduceSub, Int.reduceMul, Int.reduceNeg, Int.reduceToNat, Bool.false_eq_true, eq_self, if_pos, if_neg]
            rw [hd_207_5]
            simp (disch := omega) only [x_6_0, x_79_1_12_d0, x_79_1_12_d1, x_79_1_12_d2, x_79_1_12_d3, x_79_1_12_d4, x_7_1_I, x_7_1_A, x_7_1_U, x_61, x_33, x_1, x_63, x_3, x_79_2_12_d0, x_79_2_12_d1, x_79_2_12_d2, x_79_2_12_d3, x_79_2_12_d4, x_68, x_7_2_I, x_7_2_A, x_7_2_U, x_4_1, x_4_2, x_60, x_85, cb_ri, cb_rl, cb_rv, cb_th, cb_ite, ps_s, ps_n, u_207_0, u_207_39, u_207_40, u_207_44, ef, Int.reduceEq, Int.reduceLT, Int.reduceLE, reduceIte, Int.reduceAdd, Int.reduceSub, Int.reduceMul, Int.reduceNeg, Int.reduceToNat, Bool.false_eq_true, eq_self, if_pos, if_neg]
      | inr z =>
        obtain ⟨d, q2⟩ := z
        rw [hq] at x1 l1
        obtain ⟨a2, n1, n2, x1⟩ := x1
        have l1 : nxt t e p + d.1.length ≤ q2 ∧ nxt t e p < q2 ∧ q2 ≤ e := l1
        have r := fun g => ih (b.1 ++ d.1 ++ [13], fun F => b.2 F && d.2 F) q2 a2 g n1 n2 (by omega)
        have bd := boI_b (d.2 F)
        rw [hd_207_5]
        dsimp only at r ⊢
        cases eb : b.2 F with
        | false =>
          have r' := r (aI (boI (d.2 F)))
          rw [eb] at r'
          simp (disch := omega) only [x_6_0, x_79_1_12_d0, x_79_1_12_d1, x_79_1_12_d2, x_79_1_12_d3, x_79_1_12_d4, x_7_1_I, x_7_1_A, x_7_1_U, x_61, x_33, x_1, x_63, x_3, x_79_2_12_d0, x_79_2_12_d1, x_79_2_12_d2, x_79_2_12_d3, x_79_2_12_d4, x_68, x_7_2_I, x_7_2_A, x_7_2_U, x_4_1, x_4_2, x_60, x_85, cb_ri, cb_rl, cb_rv, cb_th, cb_ite, ps_s, ps_n, u_207_0, u_207_39, u_207_40, u_207_44, hfa, w, x1, boI, Int.reduceEq, Int.reduceLT, Int.reduceLE, reduceIte, Int.reduceAdd, Int.reduceSub, Int.reduceMul, Int.reduceNeg, Int.reduceToNat, Bool.false_eq_true, eq_self, if_pos, if_neg]
          exact r'
        | true =>
          cases ed : d.2 F with
          | false =>
            have r' := r (aI 0)
            rw [eb, ed] at r'
            rw [ed] at x1
            have x1 : _ = ri 0 _ := x1
            simp (disch := omega) only [x_6_0, x_79_1_12_d0, x_79_1_12_d1, x_79_1_12_d2, x_79_1_12_d3, x_79_1_12_d4, x_7_1_I, x_7_1_A, x_7_1_U, x_61, x_33, x_1, x_63, x_3, x_79_2_12_d0, x_79_2_12_d1, x_79_2_12_d2, x_79_2_12_d3, x_79_2_12_d4, x_68, x_7_2_I, x_7_2_A, x_7_2_U, x_4_1, x_4_2, x_60, x_85, cb_ri, cb_rl, cb_rv, cb_th, cb_ite, ps_s, ps_n, u_207_0, u_207_39, u_207_40, u_207_44, hfa, w, x1, boI, Int.reduceEq, Int.reduceLT, Int.reduceLE, reduceIte, Int.reduceAdd, Int.reduceSub, Int.reduceMul, Int.reduceNeg, Int.reduceToNat, Bool.false_eq_true, eq_self, if_pos, if_neg]
            exact r'
          | true =>
            have r' := r (aI 1)
            rw [eb, ed] at r'
            rw [ed] at x1
            have x1 : _ = ri 1 _ := x1
            simp (disch := omega) only [x_6_0, x_79_1_12_d0, x_79_1_12_d1, x_79_1_12_d2, x_79_1_12_d3, x_79_1_12_d4, x_7_1_I, x_7_1_A, x_7_1_U, x_61, x_33, x_1, x_63, x_3, x_79_2_12_d0, x_79_2_12_d1, x_79_2_12_d2, x_79_2_12_d3, x_79_2_12_d4, x_68, x_7_2_I, x_7_2_A, x_7_2_U, x_4_1, x_4_2, x_60, x_85, cb_ri, cb_rl, cb_rv, cb_th, cb_ite, ps_s, ps_n, u_207_0, u_207_39, u_207_40, u_207_44, hfa, w, x1, boI, Int.reduceEq, Int.reduceLT, Int.reduceLE, reduceIte, Int.reduceAdd, Int.reduceSub, Int.reduceMul, Int.reduceNeg, Int.reduceToNat, Bool.false_eq_true, eq_self, if_pos, if_neg]
            exact r'
    · rw [if_neg hc] at w ⊢
      refine ⟨p, hpb.2, by rw [← h2]; exact sk_sk t h1, ?_⟩
      rw [hd_207_5]
      simp (disch := omega) only [x_6_0, x_79_1_12_d0, x_79_1_12_d1, x_79_1_12_d2, x_79_1_12_d3, x_79_1_12_d4, x_7_1_I, x_7_1_A, x_7_1_U, x_61, x_33, x_1, x_63, x_3, x_79_2_12_d0, x_79_2_12_d1, x_79_2_12_d2, x_79_2_12_d3, x_79_2_12_d4, x_68, x_7_2_I, x_7_2_A, x_7_2_U, x_4_1, x_4_2, x_60, x_85, cb_ri, cb_rl, cb_rv, cb_th, cb_ite, ps_s, ps_n, u_207_0, u_207_39, u_207_40, u_207_44, hfa, w, Int.reduceEq, Int.reduceLT, Int.reduceLE, reduceIte, Int.reduceAdd, Int.reduceSub, Int.reduceMul, Int.reduceNeg, Int.reduceToNat, Bool.false_eq_true, eq_self, if_pos, if_neg]
