/-! THE REFERENCE READS A PIECE: hands and notes. -/
theorem hs_198_197 {h : Hp} {z f : Int} : hset (RZ h z) 198 0 0 f 187 0 = h 187 0 := by
  funext j; unfold RZ; rw [hs_t (by omega), hs_t (by omega)]
theorem handLine_m (lv : Nat) {h : Hp} {t : Nat → Int} {e a p : Nat} (S : PcS) (T : TX h t e) (ha : a ≤ e) (hpe : p ≤ e) (hp : sk t e a = nxt t e p) (hf : h 198 0 0 = -1) (hm : h 187 0 = S.1) (G : GP S) : MpR (cl (lv + 7) 193 [aA 12 0, aI (p : Int)] (RD h a)) (if S.2.1 < 6 then pcHand t e S p else .inl p) h t e := by
  have hfa : ∀ x, RD h x 198 0 0 = -1 := fun x => by rw [RD_o (by omega)]; exact hf
  have m3 : ∀ x, RD h x 187 0 3 = (S.2.1 : Int) := fun x => by rw [RD_o (by omega), hm]; exact G.1.1
  have hH := G.1.2.1
  have ae := T.1
  have fz : ∀ (z : Int) (f : Nat), hset (RZ h z) 198 0 0 (f : Int) 198 0 0 = (f : Int) := fun z f => hs_eq _ _ _ _ _
  have fzn : ∀ (z : Int) (f : Nat), ¬ hset (RZ h z) 198 0 0 (f : Int) 198 0 0 = -1 := fun z f => by rw [fz]; omega
  have m3a := m3 a
  rw [in_193]
  by_cases c6 : S.2.1 < 6
  · rw [if_pos c6]
    have n6 : ¬ ((S.2.1 : Nat) : Int) = 6 := by omega
    have b1 := after_m lv 27 wOf 2 T ha hf rfl (by decide) (by decide)
    rw [hp] at b1
    unfold pcHand
    cases q1 : pAft t e wOf 2 (nxt t e p) with
    | inl f =>
      rw [q1] at b1
      obtain ⟨x, z, hz, b1⟩ := b1
      have b2 := after_f (lv + 4) 2 0 63 _ (fzn z f)
      have b3 := after_f (lv + 4) 32 0 40 _ (fzn z f)
      have b4 := after_f (lv + 4) 33 0 9 _ (fzn z f)
      have e8 := fz z f
      refine ⟨z, hz, ?_⟩
      simp (disch := omega) only [x_6_0, x_34, x_1, x_38_187, x_63, x_4_1, x_79_2_12_d0, x_79_2_12_d1, x_79_2_12_d2, x_79_2_12_d3, x_79_2_12_d4, x_61, x_3, x_79_4_12_d0, x_79_4_12_d1, x_79_4_12_d2, x_79_4_12_d3, x_79_4_12_d4, x_7_2_I, x_7_2_A, x_7_2_U, x_7_3_I, x_7_3_A, x_7_3_U, x_7_4_I, x_7_4_A, x_7_4_U, x_7_5_I, x_7_5_A, x_7_5_U, x_33, x_62, x_83, x_7_6_I, x_7_6_A, x_7_6_U, x_4_6, x_4_2, x_4_3, x_4_4, x_4_5, x_48, x_11, x_39_187, cb_ri, cb_rl, cb_rv, cb_th, cb_ite, ps_s, ps_n, u_193_0, u_193_16, u_193_66, tn, m3a, n6, b1, b2, b3, b4, e8, Int.reduceEq, Int.reduceLT, Int.reduceLE, reduceIte, Int.reduceAdd, Int.reduceSub, Int.reduceMul, Int.reduceNeg, Int.reduceToNat, Bool.false_eq_true, eq_self, if_pos, if_neg]
    | inr y =>
      obtain ⟨x1, p1⟩ := y
      rw [q1] at b1
      obtain ⟨a1, u1, v1, b1⟩ := b1
      have l1 := pAft_len (by rw [← hp]; exact (sk_b t ha).2) (by decide) q1
      have b2 := after_m lv 2 wAt 63 T u1 hf rfl (by decide) (by decide)
      rw [v1] at b2
      dsimp only
      cases q2 : pAft t e wAt 63 p1 with
      | inl f =>
        rw [q2] at b2
        obtain ⟨x, z, hz, b2⟩ := b2
        have b3 := after_f (lv + 4) 32 0 40 _ (fzn z f)
        have b4 := after_f (lv + 4) 33 0 9 _ (fzn z f)
        have e8 := fz z f
        refine ⟨z, hz, ?_⟩
        simp (disch := omega) only [x_6_0, x_34, x_1, x_38_187, x_63, x_4_1, x_79_2_12_d0, x_79_2_12_d1, x_79_2_12_d2, x_79_2_12_d3, x_79_2_12_d4, x_61, x_3, x_79_4_12_d0, x_79_4_12_d1, x_79_4_12_d2, x_79_4_12_d3, x_79_4_12_d4, x_7_2_I, x_7_2_A, x_7_2_U, x_7_3_I, x_7_3_A, x_7_3_U, x_7_4_I, x_7_4_A, x_7_4_U, x_7_5_I, x_7_5_A, x_7_5_U, x_33, x_62, x_83, x_7_6_I, x_7_6_A, x_7_6_U, x_4_6, x_4_2, x_4_3, x_4_4, x_4_5, x_48, x_11, x_39_187, cb_ri, cb_rl, cb_rv, cb_th, cb_ite, ps_s, ps_n, u_193_0, u_193_16, u_193_66, tn, m3a, n6, b1, b2, b3, b4, e8, Int.reduceEq, Int.reduceLT, Int.reduceLE, reduceIte, Int.reduceAdd, Int.reduceSub, Int.reduceMul, Int.reduceNeg, Int.reduceToNat, Bool.false_eq_true, eq_self, if_pos, if_neg]
      | inr y =>
        obtain ⟨x2, p2⟩ := y
        rw [q2] at b2
        obtain ⟨a2, u2, v2, b2⟩ := b2
        have l2 := pAft_len l1.2.1 (by decide) q2
        have b3 := after_m lv 32 wReach 40 T u2 hf rfl (by decide) (by decide)
        rw [v2] at b3
        dsimp only
        cases q3 : pAft t e wReach 40 p2 with
        | inl f =>
          rw [q3] at b3
          obtain ⟨x, z, hz, b3⟩ := b3
          have b4 := after_f (lv + 4) 33 0 9 _ (fzn z f)
          have e8 := fz z f
          refine ⟨z, hz, ?_⟩
          simp (disch := omega) only [x_6_0, x_34, x_1, x_38_187, x_63, x_4_1, x_79_2_12_d0, x_79_2_12_d1, x_79_2_12_d2, x_79_2_12_d3, x_79_2_12_d4, x_61, x_3, x_79_4_12_d0, x_79_4_12_d1, x_79_4_12_d2, x_79_4_12_d3, x_79_4_12_d4, x_7_2_I, x_7_2_A, x_7_2_U, x_7_3_I, x_7_3_A, x_7_3_U, x_7_4_I, x_7_4_A, x_7_4_U, x_7_5_I, x_7_5_A, x_7_5_U, x_33, x_62, x_83, x_7_6_I, x_7_6_A, x_7_6_U, x_4_6, x_4_2, x_4_3, x_4_4, x_4_5, x_48, x_11, x_39_187, cb_ri, cb_rl, cb_rv, cb_th, cb_ite, ps_s, ps_n, u_193_0, u_193_16, u_193_66, tn, m3a, n6, b1, b2, b3, b4, e8, Int.reduceEq, Int.reduceLT, Int.reduceLE, reduceIte, Int.reduceAdd, Int.reduceSub, Int.reduceMul, Int.reduceNeg, Int.reduceToNat, Bool.false_eq_true, eq_self, if_pos, if_neg]
        | inr y =>
          obtain ⟨x3, p3⟩ := y
          rw [q3] at b3
          obtain ⟨a3, u3, v3, b3⟩ := b3
          have l3 := pAft_len l2.2.1 (by decide) q3
          have b4 := after_m lv 33 wSkill 9 T u3 hf rfl (by decide) (by decide)
          rw [v3] at b4
          dsimp only
          cases q4 : pAft t e wSkill 9 p3 with
          | inl f =>
            rw [q4] at b4
            obtain ⟨x, z, hz, b4⟩ := b4
            have e8 := fz z f
            refine ⟨z, hz, ?_⟩
            simp (disch := omega) only [x_6_0, x_34, x_1, x_38_187, x_63, x_4_1, x_79_2_12_d0, x_79_2_12_d1, x_79_2_12_d2, x_79_2_12_d3, x_79_2_12_d4, x_61, x_3, x_79_4_12_d0, x_79_4_12_d1, x_79_4_12_d2, x_79_4_12_d3, x_79_4_12_d4, x_7_2_I, x_7_2_A, x_7_2_U, x_7_3_I, x_7_3_A, x_7_3_U, x_7_4_I, x_7_4_A, x_7_4_U, x_7_5_I, x_7_5_A, x_7_5_U, x_33, x_62, x_83, x_7_6_I, x_7_6_A, x_7_6_U, x_4_6, x_4_2, x_4_3, x_4_4, x_4_5, x_48, x_11, x_39_187, cb_ri, cb_rl, cb_rv, cb_th, cb_ite, ps_s, ps_n, u_193_0, u_193_16, u_193_66, tn, m3a, n6, b1, b2, b3, b4, e8, Int.reduceEq, Int.reduceLT, Int.reduceLE, reduceIte, Int.reduceAdd, Int.reduceSub, Int.reduceMul, Int.reduceNeg, Int.reduceToNat, Bool.false_eq_true, eq_self, if_pos, if_neg]
          | inr y =>
            obtain ⟨x4, p4⟩ := y
            rw [q4] at b4
            obtain ⟨a4, u4, v4, b4⟩ := b4
            have f4 := hfa a4
            have m34 := m3 a4
            have k0 : ∀ g : Hp, cl (lv + 6) 174 [aA 12 0, aI (S.2.1 : Int), aI 0, aI x1] g = rv (hset g 187 0 (14 + 6 * S.2.1) x1) := fun g => lays_c (lv + 5) S.2.1 0 x1 g (by omega) (by omega)
            have k1 : ∀ g : Hp, cl (lv + 6) 174 [aA 12 0, aI (S.2.1 : Int), aI 1, aI x2] g = rv (hset g 187 0 (14 + 6 * S.2.1 + 1) x2) := fun g => lays_c (lv + 5) S.2.1 1 x2 g (by omega) (by omega)
            have k2 : ∀ g : Hp, cl (lv + 6) 174 [aA 12 0, aI (S.2.1 : Int), aI 2, aI x3] g = rv (hset g 187 0 (14 + 6 * S.2.1 + 2) x3) := fun g => lays_c (lv + 5) S.2.1 2 x3 g (by omega) (by omega)
            have k3 : ∀ g : Hp, cl (lv + 6) 174 [aA 12 0, aI (S.2.1 : Int), aI 3, aI x4] g = rv (hset g 187 0 (14 + 6 * S.2.1 + 3) x4) := fun g => lays_c (lv + 5) S.2.1 3 x4 g (by omega) (by omega)
            have k4 : ∀ g : Hp, cl (lv + 6) 174 [aA 12 0, aI (S.2.1 : Int), aI 4, aI 0] g = rv (hset g 187 0 (14 + 6 * S.2.1 + 4) 0) := fun g => lays_c (lv + 5) S.2.1 4 0 g (by omega) (by omega)
            have k5 : ∀ g : Hp, cl (lv + 6) 174 [aA 12 0, aI (S.2.1 : Int), aI 5, aI 0] g = rv (hset g 187 0 (14 + 6 * S.2.1 + 5) 0) := fun g => lays_c (lv + 5) S.2.1 5 0 g (by omega) (by omega)
            let h6 : Hp := hset (hset (hset (hset (hset (hset h 187 0 (14 + 6 * S.2.1) x1) 187 0 (14 + 6 * S.2.1 + 1) x2) 187 0 (14 + 6 * S.2.1 + 2) x3) 187 0 (14 + 6 * S.2.1 + 3) x4) 187 0 (14 + 6 * S.2.1 + 4) 0) 187 0 (14 + 6 * S.2.1 + 5) 0
            have m6 : RD h6 a4 187 0 3 = (S.2.1 : Int) := by
              rw [RD_o (by omega)]
              show hset (hset (hset (hset (hset (hset h 187 0 (14 + 6 * S.2.1) x1) 187 0 (14 + 6 * S.2.1 + 1) x2) 187 0 (14 + 6 * S.2.1 + 2) x3) 187 0 (14 + 6 * S.2.1 + 3) x4) 187 0 (14 + 6 * S.2.1 + 4) 0) 187 0 (14 + 6 * S.2.1 + 5) 0 187 0 3 = _
              rw [hs_i (by omega), hs_i (by omega), hs_i (by omega), hs_i (by omega), hs_i (by omega), hs_i (by omega), hm]
              exact G.1.1
            have m6 : RD (hset (hset (hset (hset (hset (hset h 187 0 (14 + 6 * S.2.1) x1) 187 0 (14 + 6 * S.2.1 + 1) x2) 187 0 (14 + 6 * S.2.1 + 2) x3) 187 0 (14 + 6 * S.2.1 + 3) x4) 187 0 (14 + 6 * S.2.1 + 4) 0) 187 0 (14 + 6 * S.2.1 + 5) 0) a4 187 0 3 = (S.2.1 : Int) := m6
            refine ⟨a4, hset h6 187 0 3 ((S.2.1 : Int) + 1), u4, v4, ?_, ?_, fun tt k i hn => ?_⟩
            · simp (disch := omega) only [x_6_0, x_34, x_1, x_38_187, x_63, x_4_1, x_79_2_12_d0, x_79_2_12_d1, x_79_2_12_d2, x_79_2_12_d3, x_79_2_12_d4, x_61, x_3, x_79_4_12_d0, x_79_4_12_d1, x_79_4_12_d2, x_79_4_12_d3, x_79_4_12_d4, x_7_2_I, x_7_2_A, x_7_2_U, x_7_3_I, x_7_3_A, x_7_3_U, x_7_4_I, x_7_4_A, x_7_4_U, x_7_5_I, x_7_5_A, x_7_5_U, x_33, x_62, x_83, x_7_6_I, x_7_6_A, x_7_6_U, x_4_6, x_4_2, x_4_3, x_4_4, x_4_5, x_48, x_11, x_39_187, cb_ri, cb_rl, cb_rv, cb_th, cb_ite, ps_s, ps_n, u_193_0, u_193_16, u_193_66, tn, m3a, n6, b1, b2, b3, b4, f4, m34, k0, k1, k2, k3, k4, k5, RD_hs, m6, Int.reduceEq, Int.reduceLT, Int.reduceLE, reduceIte, Int.reduceAdd, Int.reduceSub, Int.reduceMul, Int.reduceNeg, Int.reduceToNat, Bool.false_eq_true, eq_self, if_pos, if_neg, w32_id]
              rfl
            · show hset (hset (hset (hset (hset (hset (hset h 187 0 (14 + 6 * S.2.1) x1) 187 0 (14 + 6 * S.2.1 + 1) x2) 187 0 (14 + 6 * S.2.1 + 2) x3) 187 0 (14 + 6 * S.2.1 + 3) x4) 187 0 (14 + 6 * S.2.1 + 4) 0) 187 0 (14 + 6 * S.2.1 + 5) 0) 187 0 3 ((S.2.1 : Int) + 1) 187 0 = phM S.1 S.2.1 x1 x2 x3 x4
              rw [hs_187, hs_187, hs_187, hs_187, hs_187, hs_187, hs_187, hm]
              rfl
            · show hset (hset (hset (hset (hset (hset (hset h 187 0 (14 + 6 * S.2.1) x1) 187 0 (14 + 6 * S.2.1 + 1) x2) 187 0 (14 + 6 * S.2.1 + 2) x3) 187 0 (14 + 6 * S.2.1 + 3) x4) 187 0 (14 + 6 * S.2.1 + 4) 0) 187 0 (14 + 6 * S.2.1 + 5) 0) 187 0 3 ((S.2.1 : Int) + 1) tt k i = _
              rw [hs_o (by omega), hs_o (by omega), hs_o (by omega), hs_o (by omega), hs_o (by omega), hs_o (by omega), hs_o (by omega)]
  · rw [if_neg c6]
    have e6 : ((S.2.1 : Nat) : Int) = 6 := by omega
    have wr := wrong_m (lv + 5) (RD h a) (p : Int) (hfa a)
    have nf : ¬ hset (RD h a) 198 0 0 (p : Int) 198 0 0 = -1 := by rw [hs_eq]; omega
    have e8 : hset (RD h a) 198 0 0 (p : Int) 198 0 0 = (p : Int) := hs_eq _ _ _ _ _
    have b1 := after_f (lv + 4) 27 0 2 _ nf
    have b2 := after_f (lv + 4) 2 0 63 _ nf
    have b3 := after_f (lv + 4) 32 0 40 _ nf
    have b4 := after_f (lv + 4) 33 0 9 _ nf
    refine ⟨(a : Int), by omega, ?_⟩
    show _ = rv (hset (RD h a) 198 0 0 (p : Int))
    simp (disch := omega) only [x_6_0, x_34, x_1, x_38_187, x_63, x_4_1, x_79_2_12_d0, x_79_2_12_d1, x_79_2_12_d2, x_79_2_12_d3, x_79_2_12_d4, x_61, x_3, x_79_4_12_d0, x_79_4_12_d1, x_79_4_12_d2, x_79_4_12_d3, x_79_4_12_d4, x_7_2_I, x_7_2_A, x_7_2_U, x_7_3_I, x_7_3_A, x_7_3_U, x_7_4_I, x_7_4_A, x_7_4_U, x_7_5_I, x_7_5_A, x_7_5_U, x_33, x_62, x_83, x_7_6_I, x_7_6_A, x_7_6_U, x_4_6, x_4_2, x_4_3, x_4_4, x_4_5, x_48, x_11, x_39_187, cb_ri, cb_rl, cb_rv, cb_th, cb_ite, ps_s, ps_n, u_193_0, u_193_16, u_193_66, tn, m3a, e6, wr, b1, b2, b3, b4, e8, Int.reduceEq, Int.reduceLT, Int.reduceLE, reduceIte, Int.reduceAdd, Int.reduceSub, Int.reduceMul, Int.reduceNeg, Int.reduceToNat, Bool.false_eq_true, eq_self, if_pos, if_neg]
