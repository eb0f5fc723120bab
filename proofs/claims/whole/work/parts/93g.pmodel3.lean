/-! THE REFERENCE READS A PIECE: notes, lines. -/
theorem noteLine_m (lv : Nat) {h : Hp} {t : Nat → Int} {e a p : Nat} (S : PcS) (T : TX h t e) (ha : a ≤ e) (hpe : p ≤ e) (hp : sk t e a = nxt t e p) (hf : h 198 0 0 = -1) (hm : h 187 0 = S.1) (G : GP S) : MpR (cl (lv + 7) 195 [aA 12 0, aI (p : Int)] (RD h a)) (if S.2.2 < 14 then pcNote t e S p else .inl p) h t e := by
  have hfa : ∀ x, RD h x 198 0 0 = -1 := fun x => by rw [RD_o (by omega)]; exact hf
  have m4 : ∀ x, RD h x 187 0 4 = (S.2.2 : Int) := fun x => by rw [RD_o (by omega), hm]; exact G.2.1.1
  have hN := G.2.1.2.1
  have ae := T.1
  have fz : ∀ (z : Int) (f : Nat), hset (RZ h z) 198 0 0 (f : Int) 198 0 0 = (f : Int) := fun z f => hs_eq _ _ _ _ _
  have m4a := m4 a
  -- no word, no key: it is over
  have exf : ∀ g : Hp, ¬ g 198 0 0 = -1 → cl (lv + 6) 194 [aA 12 0, aA 20 2] g = ri 0 g := fun g hg => by
    show cl ((lv + 5) + 1) _ _ _ = _
    rw [in_194]
    simp (disch := omega) only [x_6_0, x_33, x_1, x_62, x_85, x_6_1, x_79_2_12_d0, x_79_2_12_d1, x_79_2_12_d2, x_79_2_12_d3, x_79_2_12_d4, x_7_2_I, x_7_2_A, x_7_2_U, x_4_2, x_69, x_61, cb_ri, cb_rl, cb_rv, cb_th, cb_ite, ps_s, ps_n, u_194_0, u_194_10, u_194_28, hg, Int.reduceEq, Int.reduceLT, Int.reduceLE, reduceIte, Int.reduceAdd, Int.reduceSub, Int.reduceMul, Int.reduceNeg, Int.reduceToNat, Bool.false_eq_true, eq_self, if_pos, if_neg]
  rw [in_195]
  by_cases c6 : S.2.2 < 14
  · rw [if_pos c6]
    have n6 : ¬ ((S.2.2 : Nat) : Int) = 14 := by omega
    have b1 := figs_p (lv + 2) 63 T ha hf
    rw [hp] at b1
    unfold pcNote
    cases q1 : pNum t e (nxt t e p) 63 with
    | inl f =>
      rw [q1] at b1
      obtain ⟨x, z, hz, b1⟩ := b1
      have b2 := exf _ (show ¬ hset (RZ h z) 198 0 0 (f : Int) 198 0 0 = -1 by rw [fz]; omega)
      refine ⟨z, hz, ?_⟩
      simp (disch := omega) only [x_6_0, x_34, x_1, x_38_187, x_63, x_4_1, x_79_2_12_d0, x_79_2_12_d1, x_79_2_12_d2, x_79_2_12_d3, x_79_2_12_d4, x_61, x_79_3_12_d0, x_79_3_12_d1, x_79_3_12_d2, x_79_3_12_d3, x_79_3_12_d4, x_7_2_I, x_7_2_A, x_7_2_U, x_3, x_69, x_83, x_79_1_12_d0, x_79_1_12_d1, x_79_1_12_d2, x_79_1_12_d3, x_79_1_12_d4, x_7_3_I, x_7_3_A, x_7_3_U, x_7_4_I, x_7_4_A, x_7_4_U, x_33, x_4_2, x_4_4, x_79_4_12_d0, x_79_4_12_d1, x_79_4_12_d2, x_79_4_12_d3, x_79_4_12_d4, x_68, x_4_3, x_60, x_7_5_I, x_7_5_A, x_7_5_U, x_62, x_13, x_11, x_7_6_I, x_7_6_A, x_7_6_U, x_4_6, x_39_187, x_4_5, x_48, cb_ri, cb_rl, cb_rv, cb_th, cb_ite, ps_s, ps_n, u_195_0, u_195_16, u_195_34, u_195_72, u_195_99, u_195_100, u_195_111, tn, m4a, n6, b1, b2, Int.reduceEq, Int.reduceLT, Int.reduceLE, reduceIte, Int.reduceAdd, Int.reduceSub, Int.reduceMul, Int.reduceNeg, Int.reduceToNat, Bool.false_eq_true, eq_self, if_pos, if_neg]
    | inr y =>
      obtain ⟨k, p1⟩ := y
      rw [q1] at b1
      obtain ⟨a1, u1, v1, b1⟩ := b1
      have l1 := pNum_len (by rw [← hp]; exact (sk_b t ha).2) q1
      dsimp only
      have w1 := has_m lv 2 wAt T u1 rfl (by decide) (by decide)
      rw [v1] at w1
      have f1 := hfa a1
      unfold pAft
      by_cases c1 : isW t e p1 wAt = true
      · rw [if_pos c1] at w1 ⊢
        have qw := isW_sk l1.2.1 c1 (by decide)
        have hn := nxt_b t (isW_lt l1.2.1 c1 (by decide))
        have ex : cl (lv + 6) 194 [aA 12 0, aA 20 2] (RD h a1) = ri 1 (RD h (wE t e p1)) := by
          show cl ((lv + 5) + 1) _ _ _ = _
          rw [in_194]
          simp (disch := omega) only [x_6_0, x_33, x_1, x_62, x_85, x_6_1, x_79_2_12_d0, x_79_2_12_d1, x_79_2_12_d2, x_79_2_12_d3, x_79_2_12_d4, x_7_2_I, x_7_2_A, x_7_2_U, x_4_2, x_69, x_61, cb_ri, cb_rl, cb_rv, cb_th, cb_ite, ps_s, ps_n, u_194_0, u_194_10, u_194_28, f1, w1, Int.reduceEq, Int.reduceLT, Int.reduceLE, reduceIte, Int.reduceAdd, Int.reduceSub, Int.reduceMul, Int.reduceNeg, Int.reduceToNat, Bool.false_eq_true, eq_self, if_pos, if_neg]
        have hr := here_m (lv + 3) T qw.2
        rw [qw.1] at hr
        have b2 := figs_p (lv + 2) (a := nxt t e p1) 11 T hn.2 hf
        have hss : sk t e (nxt t e p1) = nxt t e p1 := by rw [← qw.1]; exact sk_sk t qw.2
        rw [hss] at b2
        cases q2 : pNum t e (nxt t e p1) 11 with
        | inl f =>
          rw [q2] at b2
          obtain ⟨x, z, hz, b2⟩ := b2
          have e8 := fz z f
          refine ⟨z, hz, ?_⟩
          simp (disch := omega) only [x_6_0, x_34, x_1, x_38_187, x_63, x_4_1, x_79_2_12_d0, x_79_2_12_d1, x_79_2_12_d2, x_79_2_12_d3, x_79_2_12_d4, x_61, x_79_3_12_d0, x_79_3_12_d1, x_79_3_12_d2, x_79_3_12_d3, x_79_3_12_d4, x_7_2_I, x_7_2_A, x_7_2_U, x_3, x_69, x_83, x_79_1_12_d0, x_79_1_12_d1, x_79_1_12_d2, x_79_1_12_d3, x_79_1_12_d4, x_7_3_I, x_7_3_A, x_7_3_U, x_7_4_I, x_7_4_A, x_7_4_U, x_33, x_4_2, x_4_4, x_79_4_12_d0, x_79_4_12_d1, x_79_4_12_d2, x_79_4_12_d3, x_79_4_12_d4, x_68, x_4_3, x_60, x_7_5_I, x_7_5_A, x_7_5_U, x_62, x_13, x_11, x_7_6_I, x_7_6_A, x_7_6_U, x_4_6, x_39_187, x_4_5, x_48, cb_ri, cb_rl, cb_rv, cb_th, cb_ite, ps_s, ps_n, u_195_0, u_195_16, u_195_34, u_195_72, u_195_99, u_195_100, u_195_111, tn, m4a, n6, b1, ex, hr, b2, e8, Int.reduceEq, Int.reduceLT, Int.reduceLE, reduceIte, Int.reduceAdd, Int.reduceSub, Int.reduceMul, Int.reduceNeg, Int.reduceToNat, Bool.false_eq_true, eq_self, if_pos, if_neg]
        | inr y =>
          obtain ⟨b, p2⟩ := y
          rw [q2] at b2
          obtain ⟨a2, u2, v2, b2⟩ := b2
          have l2 := pNum_len hn.2 q2
          dsimp only
          have f2 := hfa a2
          have oc := isThere_c (lv + 3) S.2.2 k b (-1) (RD h a2) (m4 a2) hN
          rw [show RD h a2 187 0 = S.1 by rw [← hm]; funext j; exact RD_o (by omega)] at oc
          by_cases co : anyB (thB S.1 k b (-1)) S.2.2 = true
          · rw [if_pos co] at oc ⊢
            have wr := wrong_m (lv + 5) (RD h a2) ((nxt t e p1 : Nat) : Int) f2
            have e8 : hset (RD h a2) 198 0 0 ((nxt t e p1 : Nat) : Int) 198 0 0 = ((nxt t e p1 : Nat) : Int) := hs_eq _ _ _ _ _
            refine ⟨(a2 : Int), by omega, ?_⟩
            show _ = rv (hset (RD h a2) 198 0 0 ((nxt t e p1 : Nat) : Int))
            simp (disch := omega) only [x_6_0, x_34, x_1, x_38_187, x_63, x_4_1, x_79_2_12_d0, x_79_2_12_d1, x_79_2_12_d2, x_79_2_12_d3, x_79_2_12_d4, x_61, x_79_3_12_d0, x_79_3_12_d1, x_79_3_12_d2, x_79_3_12_d3, x_79_3_12_d4, x_7_2_I, x_7_2_A, x_7_2_U, x_3, x_69, x_83, x_79_1_12_d0, x_79_1_12_d1, x_79_1_12_d2, x_79_1_12_d3, x_79_1_12_d4, x_7_3_I, x_7_3_A, x_7_3_U, x_7_4_I, x_7_4_A, x_7_4_U, x_33, x_4_2, x_4_4, x_79_4_12_d0, x_79_4_12_d1, x_79_4_12_d2, x_79_4_12_d3, x_79_4_12_d4, x_68, x_4_3, x_60, x_7_5_I, x_7_5_A, x_7_5_U, x_62, x_13, x_11, x_7_6_I, x_7_6_A, x_7_6_U, x_4_6, x_39_187, x_4_5, x_48, cb_ri, cb_rl, cb_rv, cb_th, cb_ite, ps_s, ps_n, u_195_0, u_195_16, u_195_34, u_195_72, u_195_99, u_195_100, u_195_111, tn, m4a, n6, b1, ex, hr, b2, f2, oc, wr, e8, Int.reduceEq, Int.reduceLT, Int.reduceLE, reduceIte, Int.reduceAdd, Int.reduceSub, Int.reduceMul, Int.reduceNeg, Int.reduceToNat, Bool.false_eq_true, eq_self, if_pos, if_neg]
          · rw [if_neg co] at oc ⊢
            have w2 := has_m (lv + 1) 9 wHard T u2 rfl (by decide) (by decide)
            rw [v2] at w2
            -- the note is laid down
            have lay : ∀ (d : Int) (a3 : Nat), run (lv + 6) 195 100 [aA 12 0, aI (p : Int), aI k, aI ((nxt t e p1 : Nat) : Int), aI b, none, none] [aI d] (RD h a3) = rv (RD (hset (hset (hset (hset (hset h 187 0 (50 + 4 * S.2.2) b) 187 0 (50 + 4 * S.2.2 + 1) k) 187 0 (50 + 4 * S.2.2 + 2) d) 187 0 (50 + 4 * S.2.2 + 3) 0) 187 0 4 ((S.2.2 : Int) + 1)) a3) := fun d a3 => by
              have f3 := hfa a3
              have m43 := m4 a3
              have i0 : (50 + 4 * (S.2.2 : Int)).toNat = 50 + 4 * S.2.2 := by omega
              have i1 : (50 + 4 * (S.2.2 : Int) + 1).toNat = 50 + 4 * S.2.2 + 1 := by omega
              have i2 : (50 + 4 * (S.2.2 : Int) + 2).toNat = 50 + 4 * S.2.2 + 2 := by omega
              have i3 : (50 + 4 * (S.2.2 : Int) + 3).toNat = 50 + 4 * S.2.2 + 3 := by omega
              have m44 : RD (hset (hset (hset (hset h 187 0 (50 + 4 * S.2.2) b) 187 0 (50 + 4 * S.2.2 + 1) k) 187 0 (50 + 4 * S.2.2 + 2) d) 187 0 (50 + 4 * S.2.2 + 3) 0) a3 187 0 4 = (S.2.2 : Int) := by
                rw [RD_o (by omega), hs_i (by omega), hs_i (by omega), hs_i (by omega), hs_i (by omega), hm]
                exact G.2.1.1
              simp (disch := omega) only [x_6_0, x_34, x_1, x_38_187, x_63, x_4_1, x_79_2_12_d0, x_79_2_12_d1, x_79_2_12_d2, x_79_2_12_d3, x_79_2_12_d4, x_61, x_79_3_12_d0, x_79_3_12_d1, x_79_3_12_d2, x_79_3_12_d3, x_79_3_12_d4, x_7_2_I, x_7_2_A, x_7_2_U, x_3, x_69, x_83, x_79_1_12_d0, x_79_1_12_d1, x_79_1_12_d2, x_79_1_12_d3, x_79_1_12_d4, x_7_3_I, x_7_3_A, x_7_3_U, x_7_4_I, x_7_4_A, x_7_4_U, x_33, x_4_2, x_4_4, x_79_4_12_d0, x_79_4_12_d1, x_79_4_12_d2, x_79_4_12_d3, x_79_4_12_d4, x_68, x_4_3, x_60, x_7_5_I, x_7_5_A, x_7_5_U, x_62, x_13, x_11, x_7_6_I, x_7_6_A, x_7_6_U, x_4_6, x_39_187, x_4_5, x_48, cb_ri, cb_rl, cb_rv, cb_th, cb_ite, ps_s, ps_n, u_195_0, u_195_16, u_195_34, u_195_72, u_195_99, u_195_100, u_195_111, tn, f3, m43, i0, i1, i2, i3, RD_hs, m44, Int.add_zero, Int.reduceEq, Int.reduceLT, Int.reduceLE, reduceIte, Int.reduceAdd, Int.reduceSub, Int.reduceMul, Int.reduceNeg, Int.reduceToNat, Bool.false_eq_true, eq_self, if_pos, if_neg, w32_id]
            have fin : ∀ (d : Int), hset (hset (hset (hset (hset h 187 0 (50 + 4 * S.2.2) b) 187 0 (50 + 4 * S.2.2 + 1) k) 187 0 (50 + 4 * S.2.2 + 2) d) 187 0 (50 + 4 * S.2.2 + 3) 0) 187 0 4 ((S.2.2 : Int) + 1) 187 0 = pnM S.1 S.2.2 b k d := fun d => by
              rw [hs_187, hs_187, hs_187, hs_187, hs_187, hm]; rfl
            have frm : ∀ (d : Int) tt kk i, ¬ (tt = 187 ∧ kk = 0) → hset (hset (hset (hset (hset h 187 0 (50 + 4 * S.2.2) b) 187 0 (50 + 4 * S.2.2 + 1) k) 187 0 (50 + 4 * S.2.2 + 2) d) 187 0 (50 + 4 * S.2.2 + 3) 0) 187 0 4 ((S.2.2 : Int) + 1) tt kk i = h tt kk i := fun d tt kk i hn => by
              rw [hs_o (by omega), hs_o (by omega), hs_o (by omega), hs_o (by omega), hs_o (by omega)]
            unfold pcHard
            by_cases c2 : isW t e p2 wHard = true
            · rw [if_pos c2] at w2 ⊢
              have qw2 := isW_sk l2.2.1 c2 (by decide)
              have b3 := figs_p (lv + 2) (a := wE t e p2) 9 T qw2.2 hf
              rw [qw2.1] at b3
              cases q3 : pNum t e (nxt t e p2) 9 with
              | inl f =>
                rw [q3] at b3
                obtain ⟨x, z, hz, b3⟩ := b3
                have e8 := fz z f
                refine ⟨z, hz, ?_⟩
                simp (disch := omega) only [x_6_0, x_34, x_1, x_38_187, x_63, x_4_1, x_79_2_12_d0, x_79_2_12_d1, x_79_2_12_d2, x_79_2_12_d3, x_79_2_12_d4, x_61, x_79_3_12_d0, x_79_3_12_d1, x_79_3_12_d2, x_79_3_12_d3, x_79_3_12_d4, x_7_2_I, x_7_2_A, x_7_2_U, x_3, x_69, x_83, x_79_1_12_d0, x_79_1_12_d1, x_79_1_12_d2, x_79_1_12_d3, x_79_1_12_d4, x_7_3_I, x_7_3_A, x_7_3_U, x_7_4_I, x_7_4_A, x_7_4_U, x_33, x_4_2, x_4_4, x_79_4_12_d0, x_79_4_12_d1, x_79_4_12_d2, x_79_4_12_d3, x_79_4_12_d4, x_68, x_4_3, x_60, x_7_5_I, x_7_5_A, x_7_5_U, x_62, x_13, x_11, x_7_6_I, x_7_6_A, x_7_6_U, x_4_6, x_39_187, x_4_5, x_48, cb_ri, cb_rl, cb_rv, cb_th, cb_ite, ps_s, ps_n, u_195_0, u_195_16, u_195_34, u_195_72, u_195_99, u_195_100, u_195_111, tn, m4a, n6, b1, ex, hr, b2, f2, oc, w2, b3, e8, Int.reduceEq, Int.reduceLT, Int.reduceLE, reduceIte, Int.reduceAdd, Int.reduceSub, Int.reduceMul, Int.reduceNeg, Int.reduceToNat, Bool.false_eq_true, eq_self, if_pos, if_neg]
              | inr y =>
                obtain ⟨d, p3⟩ := y
                rw [q3] at b3
                obtain ⟨a3, u3, v3, b3⟩ := b3
                have ly := lay d a3
                refine ⟨a3, _, u3, v3, ?_, fin d, frm d⟩
                rw [← ly]
                simp (disch := omega) only [x_6_0, x_34, x_1, x_38_187, x_63, x_4_1, x_79_2_12_d0, x_79_2_12_d1, x_79_2_12_d2, x_79_2_12_d3, x_79_2_12_d4, x_61, x_79_3_12_d0, x_79_3_12_d1, x_79_3_12_d2, x_79_3_12_d3, x_79_3_12_d4, x_7_2_I, x_7_2_A, x_7_2_U, x_3, x_69, x_83, x_79_1_12_d0, x_79_1_12_d1, x_79_1_12_d2, x_79_1_12_d3, x_79_1_12_d4, x_7_3_I, x_7_3_A, x_7_3_U, x_7_4_I, x_7_4_A, x_7_4_U, x_33, x_4_2, x_4_4, x_79_4_12_d0, x_79_4_12_d1, x_79_4_12_d2, x_79_4_12_d3, x_79_4_12_d4, x_68, x_4_3, x_60, x_7_5_I, x_7_5_A, x_7_5_U, x_62, x_13, x_11, x_7_6_I, x_7_6_A, x_7_6_U, x_4_6, x_39_187, x_4_5, x_48, cb_ri, cb_rl, cb_rv, cb_th, cb_ite, ps_s, ps_n, u_195_0, u_195_16, u_195_34, u_195_72, u_195_99, u_195_111, tn, m4a, n6, b1, ex, hr, b2, f2, oc, w2, b3, Int.reduceEq, Int.reduceLT, Int.reduceLE, reduceIte, Int.reduceAdd, Int.reduceSub, Int.reduceMul, Int.reduceNeg, Int.reduceToNat, Bool.false_eq_true, eq_self, if_pos, if_neg]
            · rw [if_neg c2] at w2 ⊢
              have ly := lay 0 p2
              have h2s : sk t e p2 = p2 := by rw [← v2]; exact sk_sk t u2
              refine ⟨p2, _, l2.2.1, h2s, ?_, fin 0, frm 0⟩
              rw [← ly]
              simp (disch := omega) only [x_6_0, x_34, x_1, x_38_187, x_63, x_4_1, x_79_2_12_d0, x_79_2_12_d1, x_79_2_12_d2, x_79_2_12_d3, x_79_2_12_d4, x_61, x_79_3_12_d0, x_79_3_12_d1, x_79_3_12_d2, x_79_3_12_d3, x_79_3_12_d4, x_7_2_I, x_7_2_A, x_7_2_U, x_3, x_69, x_83, x_79_1_12_d0, x_79_1_12_d1, x_79_1_12_d2, x_79_1_12_d3, x_79_1_12_d4, x_7_3_I, x_7_3_A, x_7_3_U, x_7_4_I, x_7_4_A, x_7_4_U, x_33, x_4_2, x_4_4, x_79_4_12_d0, x_79_4_12_d1, x_79_4_12_d2, x_79_4_12_d3, x_79_4_12_d4, x_68, x_4_3, x_60, x_7_5_I, x_7_5_A, x_7_5_U, x_62, x_13, x_11, x_7_6_I, x_7_6_A, x_7_6_U, x_4_6, x_39_187, x_4_5, x_48, cb_ri, cb_rl, cb_rv, cb_th, cb_ite, ps_s, ps_n, u_195_0, u_195_16, u_195_34, u_195_72, u_195_99, u_195_111, tn, m4a, n6, b1, ex, hr, b2, f2, oc, w2, Int.reduceEq, Int.reduceLT, Int.reduceLE, reduceIte, Int.reduceAdd, Int.reduceSub, Int.reduceMul, Int.reduceNeg, Int.reduceToNat, Bool.false_eq_true, eq_self, if_pos, if_neg]
      · rw [if_neg c1] at w1 ⊢
        have e1 := RD_a h p1
        have wr := wrong_m (lv + 4) (RD h p1) (p1 : Int) (hfa p1)
        have ex : cl (lv + 6) 194 [aA 12 0, aA 20 2] (RD h a1) = ri 0 (hset (RD h p1) 198 0 0 (p1 : Int)) := by
          show cl ((lv + 5) + 1) _ _ _ = _
          rw [in_194]
          simp (disch := omega) only [x_6_0, x_33, x_1, x_62, x_85, x_6_1, x_79_2_12_d0, x_79_2_12_d1, x_79_2_12_d2, x_79_2_12_d3, x_79_2_12_d4, x_7_2_I, x_7_2_A, x_7_2_U, x_4_2, x_69, x_61, cb_ri, cb_rl, cb_rv, cb_th, cb_ite, ps_s, ps_n, u_194_0, u_194_10, u_194_28, f1, w1, e1, wr, Int.reduceEq, Int.reduceLT, Int.reduceLE, reduceIte, Int.reduceAdd, Int.reduceSub, Int.reduceMul, Int.reduceNeg, Int.reduceToNat, Bool.false_eq_true, eq_self, if_pos, if_neg]
        refine ⟨(p1 : Int), by omega, ?_⟩
        show _ = rv (hset (RD h p1) 198 0 0 (p1 : Int))
        simp (disch := omega) only [x_6_0, x_34, x_1, x_38_187, x_63, x_4_1, x_79_2_12_d0, x_79_2_12_d1, x_79_2_12_d2, x_79_2_12_d3, x_79_2_12_d4, x_61, x_79_3_12_d0, x_79_3_12_d1, x_79_3_12_d2, x_79_3_12_d3, x_79_3_12_d4, x_7_2_I, x_7_2_A, x_7_2_U, x_3, x_69, x_83, x_79_1_12_d0, x_79_1_12_d1, x_79_1_12_d2, x_79_1_12_d3, x_79_1_12_d4, x_7_3_I, x_7_3_A, x_7_3_U, x_7_4_I, x_7_4_A, x_7_4_U, x_33, x_4_2, x_4_4, x_79_4_12_d0, x_79_4_12_d1, x_79_4_12_d2, x_79_4_12_d3, x_79_4_12_d4, x_68, x_4_3, x_60, x_7_5_I, x_7_5_A, x_7_5_U, x_62, x_13, x_11, x_7_6_I, x_7_6_A, x_7_6_U, x_4_6, x_39_187, x_4_5, x_48, cb_ri, cb_rl, cb_rv, cb_th, cb_ite, ps_s, ps_n, u_195_0, u_195_16, u_195_34, u_195_72, u_195_99, u_195_100, u_195_111, tn, m4a, n6, b1, ex, Int.reduceEq, Int.reduceLT, Int.reduceLE, reduceIte, Int.reduceAdd, Int.reduceSub, Int.reduceMul, Int.reduceNeg, Int.reduceToNat, Bool.false_eq_true, eq_self, if_pos, if_neg]
  · rw [if_neg c6]
    have e6 : ((S.2.2 : Nat) : Int) = 14 := by omega
    have wr := wrong_m (lv + 5) (RD h a) (p : Int) (hfa a)
    have nf : ¬ hset (RD h a) 198 0 0 (p : Int) 198 0 0 = -1 := by rw [hs_eq]; omega
    have b1 := figs_f (lv + 5) 0 63 _ nf
    have b2 := exf _ nf
    refine ⟨(a : Int), by omega, ?_⟩
    show _ = rv (hset (RD h a) 198 0 0 (p : Int))
    simp (disch := omega) only [x_6_0, x_34, x_1, x_38_187, x_63, x_4_1, x_79_2_12_d0, x_79_2_12_d1, x_79_2_12_d2, x_79_2_12_d3, x_79_2_12_d4, x_61, x_79_3_12_d0, x_79_3_12_d1, x_79_3_12_d2, x_79_3_12_d3, x_79_3_12_d4, x_7_2_I, x_7_2_A, x_7_2_U, x_3, x_69, x_83, x_79_1_12_d0, x_79_1_12_d1, x_79_1_12_d2, x_79_1_12_d3, x_79_1_12_d4, x_7_3_I, x_7_3_A, x_7_3_U, x_7_4_I, x_7_4_A, x_7_4_U, x_33, x_4_2, x_4_4, x_79_4_12_d0, x_79_4_12_d1, x_79_4_12_d2, x_79_4_12_d3, x_79_4_12_d4, x_68, x_4_3, x_60, x_7_5_I, x_7_5_A, x_7_5_U, x_62, x_13, x_11, x_7_6_I, x_7_6_A, x_7_6_U, x_4_6, x_39_187, x_4_5, x_48, cb_ri, cb_rl, cb_rv, cb_th, cb_ite, ps_s, ps_n, u_195_0, u_195_16, u_195_34, u_195_72, u_195_99, u_195_100, u_195_111, tn, m4a, e6, wr, b1, b2, Int.reduceEq, Int.reduceLT, Int.reduceLE, reduceIte, Int.reduceAdd, Int.reduceSub, Int.reduceMul, Int.reduceNeg, Int.reduceToNat, Bool.false_eq_true, eq_self, if_pos, if_neg]
theorem pieceLine_m (lv : Nat) {h : Hp} {t : Nat → Int} {e a : Nat} (S : PcS) (T : TX h t e) (ha : a ≤ e) (hf : h 198 0 0 = -1) (hm : h 187 0 = S.1) (G : GP S) : MpR (cl (lv + 8) 197 [aA 12 0] (RD h a)) (pcLine t e S (sk t e a)) h t e := by
  have hb := sk_b t ha
  have hss := sk_sk t ha
  have hr := here_m (lv + 4) T ha
  have ae := T.1
  have hfa : ∀ x, RD h x 198 0 0 = -1 := fun x => by rw [RD_o (by omega)]; exact hf
  have w1 := has_m (lv + 2) 8 wHand T hb.2 rfl (by decide) (by decide)
  have w2 := has_m (lv + 2) 26 wNote T hb.2 rfl (by decide) (by decide)
  have w3 := has_m (lv + 2) 34 wSlip T hb.2 rfl (by decide) (by decide)
  have w4 := has_m (lv + 2) 3 wBeat T hb.2 rfl (by decide) (by decide)
  have w5 := has_m (lv + 2) 29 wPage T hb.2 rfl (by decide) (by decide)
  rw [hss] at w1 w2 w3 w4 w5
  generalize sk t e a = p at hr w1 w2 w3 w4 w5 hb hss
  unfold pcLine
  have up : ∀ {x : PR PcS} {r r' : Option Rs}, r = r' → MpR r' x h t e → MpR r x h t e := fun e m => by rw [e]; exact m
  by_cases c1 : isW t e p wHand = true
  · rw [if_pos c1] at w1 ⊢
    have q := isW_sk hb.2 c1 (by decide)
    have r := handLine_m lv (a := wE t e p) S T q.2 hb.2 q.1 hf hm G
    refine up ?_ r
    have key : ∀ g, cl (lv + 7) 193 [aA 12 0, aI (p : Int)] (RD h (wE t e p)) = rv g → cl (lv + 8) 197 [aA 12 0] (RD h a) = rv g := fun g hg => by
      rw [in_197]
      simp (disch := omega) only [x_6_0, x_79_1_12_d0, x_79_1_12_d1, x_79_1_12_d2, x_79_1_12_d3, x_79_1_12_d4, x_7_1_I, x_7_1_A, x_7_1_U, x_3, x_79_2_12_d0, x_79_2_12_d1, x_79_2_12_d2, x_79_2_12_d3, x_79_2_12_d4, x_68, x_4_1, x_60, x_1, x_79_4_12_d0, x_79_4_12_d1, x_79_4_12_d2, x_79_4_12_d3, x_79_4_12_d4, x_33, x_61, x_83, cb_ri, cb_rl, cb_rv, cb_th, cb_ite, ps_s, ps_n, u_197_0, u_197_22, u_197_39, u_197_60, u_197_80, u_197_102, u_197_110, hr, w1, hg, Int.reduceEq, Int.reduceLT, Int.reduceLE, reduceIte, Int.reduceAdd, Int.reduceSub, Int.reduceMul, Int.reduceNeg, Int.reduceToNat, Bool.false_eq_true, eq_self, if_pos, if_neg]
    unfold MpR at r
    split at r
    · obtain ⟨z, -, r⟩ := r; rw [r]; exact key _ r
    · obtain ⟨a', h', -, -, r, -⟩ := r; rw [r]; exact key _ r
  rw [if_neg c1] at w1 ⊢
  by_cases c2 : isW t e p wNote = true
  · rw [if_pos c2] at w2 ⊢
    have q := isW_sk hb.2 c2 (by decide)
    have r := noteLine_m lv (a := wE t e p) S T q.2 hb.2 q.1 hf hm G
    refine up ?_ r
    have key : ∀ g, cl (lv + 7) 195 [aA 12 0, aI (p : Int)] (RD h (wE t e p)) = rv g → cl (lv + 8) 197 [aA 12 0] (RD h a) = rv g := fun g hg => by
      rw [in_197]
      simp (disch := omega) only [x_6_0, x_79_1_12_d0, x_79_1_12_d1, x_79_1_12_d2, x_79_1_12_d3, x_79_1_12_d4, x_7_1_I, x_7_1_A, x_7_1_U, x_3, x_79_2_12_d0, x_79_2_12_d1, x_79_2_12_d2, x_79_2_12_d3, x_79_2_12_d4, x_68, x_4_1, x_60, x_1, x_79_4_12_d0, x_79_4_12_d1, x_79_4_12_d2, x_79_4_12_d3, x_79_4_12_d4, x_33, x_61, x_83, cb_ri, cb_rl, cb_rv, cb_th, cb_ite, ps_s, ps_n, u_197_0, u_197_22, u_197_39, u_197_60, u_197_80, u_197_102, u_197_110, hr, w1, w2, hg, Int.reduceEq, Int.reduceLT, Int.reduceLE, reduceIte, Int.reduceAdd, Int.reduceSub, Int.reduceMul, Int.reduceNeg, Int.reduceToNat, Bool.false_eq_true, eq_self, if_pos, if_neg]
    unfold MpR at r
    split at r
    · obtain ⟨z, -, r⟩ := r; rw [r]; exact key _ r
    · obtain ⟨a', h', -, -, r, -⟩ := r; rw [r]; exact key _ r
  rw [if_neg c2] at w2 ⊢
  by_cases c3 : isW t e p wSlip = true
  · rw [if_pos c3] at w3 ⊢
    have q := isW_sk hb.2 c3 (by decide)
    have r := tells_m (lv + 2) 7 (a := wE t e p) 100 S T q.2 q.1 hf hm (by omega)
    refine up ?_ r
    have key : ∀ g, cl (lv + 7) 196 [aA 12 0, aI 7, aI 0, aI 100] (RD h (wE t e p)) = rv g → cl (lv + 8) 197 [aA 12 0] (RD h a) = rv g := fun g hg => by
      rw [in_197]
      simp (disch := omega) only [x_6_0, x_79_1_12_d0, x_79_1_12_d1, x_79_1_12_d2, x_79_1_12_d3, x_79_1_12_d4, x_7_1_I, x_7_1_A, x_7_1_U, x_3, x_79_2_12_d0, x_79_2_12_d1, x_79_2_12_d2, x_79_2_12_d3, x_79_2_12_d4, x_68, x_4_1, x_60, x_1, x_79_4_12_d0, x_79_4_12_d1, x_79_4_12_d2, x_79_4_12_d3, x_79_4_12_d4, x_33, x_61, x_83, cb_ri, cb_rl, cb_rv, cb_th, cb_ite, ps_s, ps_n, u_197_0, u_197_22, u_197_39, u_197_60, u_197_80, u_197_102, u_197_110, hr, w1, w2, w3, hg, Int.reduceEq, Int.reduceLT, Int.reduceLE, reduceIte, Int.reduceAdd, Int.reduceSub, Int.reduceMul, Int.reduceNeg, Int.reduceToNat, Bool.false_eq_true, eq_self, if_pos, if_neg]
    unfold MpR at r
    split at r
    · obtain ⟨z, -, r⟩ := r; rw [r]; exact key _ r
    · obtain ⟨a', h', -, -, r, -⟩ := r; rw [r]; exact key _ r
  rw [if_neg c3] at w3 ⊢
  by_cases c4 : isW t e p wBeat = true
  · rw [if_pos c4] at w4 ⊢
    have q := isW_sk hb.2 c4 (by decide)
    have r := tells_m (lv + 2) 5 (a := wE t e p) 11 S T q.2 q.1 hf hm (by omega)
    refine up ?_ r
    have key : ∀ g, cl (lv + 7) 196 [aA 12 0, aI 5, aI 0, aI 11] (RD h (wE t e p)) = rv g → cl (lv + 8) 197 [aA 12 0] (RD h a) = rv g := fun g hg => by
      rw [in_197]
      simp (disch := omega) only [x_6_0, x_79_1_12_d0, x_79_1_12_d1, x_79_1_12_d2, x_79_1_12_d3, x_79_1_12_d4, x_7_1_I, x_7_1_A, x_7_1_U, x_3, x_79_2_12_d0, x_79_2_12_d1, x_79_2_12_d2, x_79_2_12_d3, x_79_2_12_d4, x_68, x_4_1, x_60, x_1, x_79_4_12_d0, x_79_4_12_d1, x_79_4_12_d2, x_79_4_12_d3, x_79_4_12_d4, x_33, x_61, x_83, cb_ri, cb_rl, cb_rv, cb_th, cb_ite, ps_s, ps_n, u_197_0, u_197_22, u_197_39, u_197_60, u_197_80, u_197_102, u_197_110, hr, w1, w2, w3, w4, hg, Int.reduceEq, Int.reduceLT, Int.reduceLE, reduceIte, Int.reduceAdd, Int.reduceSub, Int.reduceMul, Int.reduceNeg, Int.reduceToNat, Bool.false_eq_true, eq_self, if_pos, if_neg]
    unfold MpR at r
    split at r
    · obtain ⟨z, -, r⟩ := r; rw [r]; exact key _ r
    · obtain ⟨a', h', -, -, r, -⟩ := r; rw [r]; exact key _ r
  rw [if_neg c4] at w4 ⊢
  by_cases c5 : isW t e p wPage = true
  · rw [if_pos c5] at w5 ⊢
    have q := isW_sk hb.2 c5 (by decide)
    have r := tells_m (lv + 2) 6 (a := wE t e p) 999 S T q.2 q.1 hf hm (by omega)
    refine up ?_ r
    have key : ∀ g, cl (lv + 7) 196 [aA 12 0, aI 6, aI 0, aI 999] (RD h (wE t e p)) = rv g → cl (lv + 8) 197 [aA 12 0] (RD h a) = rv g := fun g hg => by
      rw [in_197]
      simp (disch := omega) only [x_6_0, x_79_1_12_d0, x_79_1_12_d1, x_79_1_12_d2, x_79_1_12_d3, x_79_1_12_d4, x_7_1_I, x_7_1_A, x_7_1_U, x_3, x_79_2_12_d0, x_79_2_12_d1, x_79_2_12_d2, x_79_2_12_d3, x_79_2_12_d4, x_68, x_4_1, x_60, x_1, x_79_4_12_d0, x_79_4_12_d1, x_79_4_12_d2, x_79_4_12_d3, x_79_4_12_d4, x_33, x_61, x_83, cb_ri, cb_rl, cb_rv, cb_th, cb_ite, ps_s, ps_n, u_197_0, u_197_22, u_197_39, u_197_60, u_197_80, u_197_102, u_197_110, hr, w1, w2, w3, w4, w5, hg, Int.reduceEq, Int.reduceLT, Int.reduceLE, reduceIte, Int.reduceAdd, Int.reduceSub, Int.reduceMul, Int.reduceNeg, Int.reduceToNat, Bool.false_eq_true, eq_self, if_pos, if_neg]
    unfold MpR at r
    split at r
    · obtain ⟨z, -, r⟩ := r; rw [r]; exact key _ r
    · obtain ⟨a', h', -, -, r, -⟩ := r; rw [r]; exact key _ r
  rw [if_neg c5] at w5 ⊢
  have e1 := RD_a h p
  have wr := wrong_m (lv + 6) (RD h p) (p : Int) (hfa p)
  refine ⟨(p : Int), by omega, ?_⟩
  show _ = rv (hset (RD h p) 198 0 0 (p : Int))
  rw [in_197]
  simp (disch := omega) only [x_6_0, x_79_1_12_d0, x_79_1_12_d1, x_79_1_12_d2, x_79_1_12_d3, x_79_1_12_d4, x_7_1_I, x_7_1_A, x_7_1_U, x_3, x_79_2_12_d0, x_79_2_12_d1, x_79_2_12_d2, x_79_2_12_d3, x_79_2_12_d4, x_68, x_4_1, x_60, x_1, x_79_4_12_d0, x_79_4_12_d1, x_79_4_12_d2, x_79_4_12_d3, x_79_4_12_d4, x_33, x_61, x_83, cb_ri, cb_rl, cb_rv, cb_th, cb_ite, ps_s, ps_n, u_197_0, u_197_22, u_197_39, u_197_60, u_197_80, u_197_102, u_197_110, hr, w1, w2, w3, w4, w5, e1, wr, Int.reduceEq, Int.reduceLT, Int.reduceLE, reduceIte, Int.reduceAdd, Int.reduceSub, Int.reduceMul, Int.reduceNeg, Int.reduceToNat, Bool.false_eq_true, eq_self, if_pos, if_neg]
