/-! THE CLASS READS A PIECE: notes, lines, all. -/
theorem readNote_c (lv : Nat) {q : Hp} {t : Nat → Int} {e p : Nat} (S : PcS) (B : Bt q t e) (hp : p < e) (R : RS q 1 S.1 S.2.1 S.2.2) (hN : S.2.2 < 14) : PcR (cl (lv + 8) 45 [aA 6 0] (tpH q t e p)) (pcNote t e S p) q t e := by
  have l0 := nxt_b t hp
  have b1 := behindW_c (lv + 4) 63 B (Nat.le_of_lt hp) (by omega)
  have fin : ∀ (r : Nat) (f : Nat), hset (tpH q t e r) 150 0 0 (f : Int) 150 0 0 = (f : Int) := fun r f => hs_eq _ _ _ _ _
  unfold pcNote
  rw [in_45]
  cases q1 : pNum t e (nxt t e p) 63 with
  | inl f =>
    rw [q1] at b1
    have b1 : _ = ri (-1) _ := b1
    refine ⟨_, ?_, fin (nxt t e p) f, fun tt k j hf => fl_o hf⟩
    simp (disch := omega) only [x_6_0, x_1, x_79_2_6_d0, x_79_2_6_d1, x_79_2_6_d2, x_79_2_6_d3, x_79_2_6_d4, x_7_1_I, x_7_1_A, x_7_1_U, x_4_1, x_62, x_35_0, x_3, x_79_2_8_d0, x_79_2_8_d1, x_79_2_8_d2, x_79_2_8_d3, x_79_2_8_d4, x_69, x_61, x_85, x_33, x_7_2_I, x_7_2_A, x_7_2_U, x_7_3_I, x_7_3_A, x_7_3_U, x_4_3, x_63, x_35_1, x_79_4_7_d0, x_79_4_7_d1, x_79_4_7_d2, x_79_4_7_d3, x_79_4_7_d4, x_68, x_4_2, x_36, x_7_4_I, x_7_4_A, x_7_4_U, x_4_4, cb_ri, cb_rl, cb_rv, cb_th, cb_ite, ps_s, ps_n, u_45_0, u_45_24, u_45_26, u_45_51, u_45_74, u_45_97, u_45_105, b1, Int.reduceEq, Int.reduceLT, Int.reduceLE, reduceIte, Int.reduceAdd, Int.reduceSub, Int.reduceMul, Int.reduceNeg, Int.reduceToNat, Bool.false_eq_true, eq_self, if_pos, if_neg]
  | inr z =>
    obtain ⟨k, p1⟩ := z
    have l1 := pNum_len l0.2 q1
    rw [q1] at b1
    have b1 : _ = ri k (tpH q t e p1) := b1
    dsimp only
    have A1 := TA_tp B.1 B.2.1 B.2.2 l1.2.1
    have w1 := passWord_c (lv + 1) 2 A1 (by decide) (by decide)
    rw [show sTxt.getD 2 [] = wAt from rfl, tp_tp] at w1
    unfold pAft
    by_cases c1 : isW t e p1 wAt = true
    · rw [if_pos c1] at w1 ⊢
      have hn := nxt_b t (isW_lt l1.2.1 c1 (by decide))
      have A2 := TA_tp B.1 B.2.1 B.2.2 hn.2
      have bg : tpH q t e (nxt t e p1) 151 0 0 = ((nxt t e p1 : Nat) : Int) := tp_1 _ _ _ _
      have b2 := passNumber_c (lv + 5) 11 A2 (by omega)
      cases q2 : pNum t e (nxt t e p1) 11 with
      | inl f =>
        rw [q2] at b2
        have b2 : _ = ri (-1) _ := b2
        refine ⟨_, ?_, fin (nxt t e p1) f, fun tt k j hf => fl_o hf⟩
        simp (disch := omega) only [x_6_0, x_1, x_79_2_6_d0, x_79_2_6_d1, x_79_2_6_d2, x_79_2_6_d3, x_79_2_6_d4, x_7_1_I, x_7_1_A, x_7_1_U, x_4_1, x_62, x_35_0, x_3, x_79_2_8_d0, x_79_2_8_d1, x_79_2_8_d2, x_79_2_8_d3, x_79_2_8_d4, x_69, x_61, x_85, x_33, x_7_2_I, x_7_2_A, x_7_2_U, x_7_3_I, x_7_3_A, x_7_3_U, x_4_3, x_63, x_35_1, x_79_4_7_d0, x_79_4_7_d1, x_79_4_7_d2, x_79_4_7_d3, x_79_4_7_d4, x_68, x_4_2, x_36, x_7_4_I, x_7_4_A, x_7_4_U, x_4_4, cb_ri, cb_rl, cb_rv, cb_th, cb_ite, ps_s, ps_n, u_45_0, u_45_24, u_45_26, u_45_51, u_45_74, u_45_97, u_45_105, b1, w1, bg, b2, Int.reduceEq, Int.reduceLT, Int.reduceLE, reduceIte, Int.reduceAdd, Int.reduceSub, Int.reduceMul, Int.reduceNeg, Int.reduceToNat, Bool.false_eq_true, eq_self, if_pos, if_neg]
      | inr z =>
        obtain ⟨b, p2⟩ := z
        have l2 := pNum_len hn.2 q2
        rw [q2] at b2
        have b2 : _ = ri b (tpH (tpH q t e (nxt t e p1)) t e p2) := b2
        rw [tp_tp] at b2
        dsimp only
        have oc := isOccupied_c (lv + 5) 1 S.2.2 S.1 b k (-1) (tpH q t e p2) (RS_tp R).2.1
        by_cases co : anyB (thB S.1 k b (-1)) S.2.2 = true
        · rw [if_pos co] at oc ⊢
          refine ⟨_, ?_, fin p2 (nxt t e p1), fun tt k j hf => fl_o hf⟩
          simp (disch := omega) only [x_6_0, x_1, x_79_2_6_d0, x_79_2_6_d1, x_79_2_6_d2, x_79_2_6_d3, x_79_2_6_d4, x_7_1_I, x_7_1_A, x_7_1_U, x_4_1, x_62, x_35_0, x_3, x_79_2_8_d0, x_79_2_8_d1, x_79_2_8_d2, x_79_2_8_d3, x_79_2_8_d4, x_69, x_61, x_85, x_33, x_7_2_I, x_7_2_A, x_7_2_U, x_7_3_I, x_7_3_A, x_7_3_U, x_4_3, x_63, x_35_1, x_79_4_7_d0, x_79_4_7_d1, x_79_4_7_d2, x_79_4_7_d3, x_79_4_7_d4, x_68, x_4_2, x_36, x_7_4_I, x_7_4_A, x_7_4_U, x_4_4, cb_ri, cb_rl, cb_rv, cb_th, cb_ite, ps_s, ps_n, u_45_0, u_45_24, u_45_26, u_45_51, u_45_74, u_45_97, u_45_105, b1, w1, bg, b2, oc, Int.reduceEq, Int.reduceLT, Int.reduceLE, reduceIte, Int.reduceAdd, Int.reduceSub, Int.reduceMul, Int.reduceNeg, Int.reduceToNat, Bool.false_eq_true, eq_self, if_pos, if_neg]
        · rw [if_neg co] at oc ⊢
          have A3 := TA_tp B.1 B.2.1 B.2.2 l2.2.1
          have w2 := isWord_c (lv + 2) 9 A3 (by decide) (by decide)
          rw [show sTxt.getD 9 [] = wHard from rfl] at w2
          have b3 := behindW_c (lv + 4) 9 B l2.2.1 (by omega)
          obtain ⟨a1, a2, ⟨c, a3, a4, a5⟩, a6⟩ := R.2.1
          have good : ∀ (d : Int) (p3 : Nat), cl (lv + 7) 49 [aA 7 1, aI k, aI b, aI d] (tpH q t e p3) = rv (tpH (adN q 1 S.2.2 c k b d) t e p3) := fun d p3 => by
            have := addNote_c (lv + 6) 1 S.2.2 c k b d (tpH q t e p3) (by rw [tp_o (by unfold tpR; omega)]; exact a1) hN (by rw [tp_o (by unfold tpR; omega)]; exact a3) a4
            rw [adN_tp] at this
            exact this
          have fr : ∀ (d : Int) tt kk j, ¬ stFr 1 tt kk → adN q 1 S.2.2 c k b d tt kk j = q tt kk j := fun d tt kk j hf => by
            unfold stFr stTag at hf
            unfold adN
            rw [hs_o (by omega), hs_o (by omega), hs_o (by omega), hs_o (by omega), hs_o (by omega)]
          unfold pcHard
          by_cases c2 : isW t e p2 wHard = true
          · rw [if_pos c2] at w2 ⊢
            have hn2 := nxt_b t (isW_lt l2.2.1 c2 (by decide))
            cases q3 : pNum t e (nxt t e p2) 9 with
            | inl f =>
              rw [q3] at b3
              have b3 : _ = ri (-1) _ := b3
              refine ⟨_, ?_, fin (nxt t e p2) f, fun tt k j hf => fl_o hf⟩
              simp (disch := omega) only [x_6_0, x_1, x_79_2_6_d0, x_79_2_6_d1, x_79_2_6_d2, x_79_2_6_d3, x_79_2_6_d4, x_7_1_I, x_7_1_A, x_7_1_U, x_4_1, x_62, x_35_0, x_3, x_79_2_8_d0, x_79_2_8_d1, x_79_2_8_d2, x_79_2_8_d3, x_79_2_8_d4, x_69, x_61, x_85, x_33, x_7_2_I, x_7_2_A, x_7_2_U, x_7_3_I, x_7_3_A, x_7_3_U, x_4_3, x_63, x_35_1, x_79_4_7_d0, x_79_4_7_d1, x_79_4_7_d2, x_79_4_7_d3, x_79_4_7_d4, x_68, x_4_2, x_36, x_7_4_I, x_7_4_A, x_7_4_U, x_4_4, cb_ri, cb_rl, cb_rv, cb_th, cb_ite, ps_s, ps_n, u_45_0, u_45_24, u_45_26, u_45_51, u_45_74, u_45_97, u_45_105, b1, w1, bg, b2, oc, w2, b3, Int.reduceEq, Int.reduceLT, Int.reduceLE, reduceIte, Int.reduceAdd, Int.reduceSub, Int.reduceMul, Int.reduceNeg, Int.reduceToNat, Bool.false_eq_true, eq_self, if_pos, if_neg]
            | inr z =>
              obtain ⟨d, p3⟩ := z
              have l3 := pNum_len hn2.2 q3
              rw [q3] at b3
              have b3 : _ = ri d (tpH q t e p3) := b3
              have gd := good d p3
              refine ⟨adN q 1 S.2.2 c k b d, ?_, RS_adN hN a3 R, fr d⟩
              simp (disch := omega) only [x_6_0, x_1, x_79_2_6_d0, x_79_2_6_d1, x_79_2_6_d2, x_79_2_6_d3, x_79_2_6_d4, x_7_1_I, x_7_1_A, x_7_1_U, x_4_1, x_62, x_35_0, x_3, x_79_2_8_d0, x_79_2_8_d1, x_79_2_8_d2, x_79_2_8_d3, x_79_2_8_d4, x_69, x_61, x_85, x_33, x_7_2_I, x_7_2_A, x_7_2_U, x_7_3_I, x_7_3_A, x_7_3_U, x_4_3, x_63, x_35_1, x_79_4_7_d0, x_79_4_7_d1, x_79_4_7_d2, x_79_4_7_d3, x_79_4_7_d4, x_68, x_4_2, x_36, x_7_4_I, x_7_4_A, x_7_4_U, x_4_4, cb_ri, cb_rl, cb_rv, cb_th, cb_ite, ps_s, ps_n, u_45_0, u_45_24, u_45_26, u_45_51, u_45_74, u_45_97, u_45_105, b1, w1, bg, b2, oc, w2, b3, gd, Int.reduceEq, Int.reduceLT, Int.reduceLE, reduceIte, Int.reduceAdd, Int.reduceSub, Int.reduceMul, Int.reduceNeg, Int.reduceToNat, Bool.false_eq_true, eq_self, if_pos, if_neg]
          · rw [if_neg c2] at w2 ⊢
            have gd := good 0 p2
            refine ⟨adN q 1 S.2.2 c k b 0, ?_, RS_adN hN a3 R, fr 0⟩
            simp (disch := omega) only [x_6_0, x_1, x_79_2_6_d0, x_79_2_6_d1, x_79_2_6_d2, x_79_2_6_d3, x_79_2_6_d4, x_7_1_I, x_7_1_A, x_7_1_U, x_4_1, x_62, x_35_0, x_3, x_79_2_8_d0, x_79_2_8_d1, x_79_2_8_d2, x_79_2_8_d3, x_79_2_8_d4, x_69, x_61, x_85, x_33, x_7_2_I, x_7_2_A, x_7_2_U, x_7_3_I, x_7_3_A, x_7_3_U, x_4_3, x_63, x_35_1, x_79_4_7_d0, x_79_4_7_d1, x_79_4_7_d2, x_79_4_7_d3, x_79_4_7_d4, x_68, x_4_2, x_36, x_7_4_I, x_7_4_A, x_7_4_U, x_4_4, cb_ri, cb_rl, cb_rv, cb_th, cb_ite, ps_s, ps_n, u_45_0, u_45_24, u_45_26, u_45_51, u_45_74, u_45_97, u_45_105, b1, w1, bg, b2, oc, w2, gd, Int.reduceEq, Int.reduceLT, Int.reduceLE, reduceIte, Int.reduceAdd, Int.reduceSub, Int.reduceMul, Int.reduceNeg, Int.reduceToNat, Bool.false_eq_true, eq_self, if_pos, if_neg]
    · rw [if_neg c1] at w1 ⊢
      refine ⟨_, ?_, fin p1 p1, fun tt k j hf => fl_o hf⟩
      simp (disch := omega) only [x_6_0, x_1, x_79_2_6_d0, x_79_2_6_d1, x_79_2_6_d2, x_79_2_6_d3, x_79_2_6_d4, x_7_1_I, x_7_1_A, x_7_1_U, x_4_1, x_62, x_35_0, x_3, x_79_2_8_d0, x_79_2_8_d1, x_79_2_8_d2, x_79_2_8_d3, x_79_2_8_d4, x_69, x_61, x_85, x_33, x_7_2_I, x_7_2_A, x_7_2_U, x_7_3_I, x_7_3_A, x_7_3_U, x_4_3, x_63, x_35_1, x_79_4_7_d0, x_79_4_7_d1, x_79_4_7_d2, x_79_4_7_d3, x_79_4_7_d4, x_68, x_4_2, x_36, x_7_4_I, x_7_4_A, x_7_4_U, x_4_4, cb_ri, cb_rl, cb_rv, cb_th, cb_ite, ps_s, ps_n, u_45_0, u_45_24, u_45_26, u_45_51, u_45_74, u_45_97, u_45_105, b1, w1, Int.reduceEq, Int.reduceLT, Int.reduceLE, reduceIte, Int.reduceAdd, Int.reduceSub, Int.reduceMul, Int.reduceNeg, Int.reduceToNat, Bool.false_eq_true, eq_self, if_pos, if_neg]
theorem isW_ne {t : Nat → Int} {e p : Nat} {w w' : List Int} (hn : w.length ≠ w'.length ∨ w.getD 0 0 ≠ w'.getD 0 0) (hl : 1 ≤ w.length) (h : isW t e p w = true) : ¬ isW t e p w' = true := by
  intro h'
  unfold isW at h h'
  rw [Bool.and_eq_true] at h h'
  have h1 := of_decide_eq_true h.1
  have h2 := of_decide_eq_true h'.1
  have hll : w.length = w'.length := by omega
  have key : ∀ (P : Nat → Bool) n, allB P n = true → 0 < n → P 0 = true := by
    intro P n
    induction n with
    | zero => intro _ h; omega
    | succ n ih =>
      intro h _
      have h : (allB P n && P n) = true := h
      rw [Bool.and_eq_true] at h
      by_cases c : n = 0
      · rw [← c]; exact h.2
      · exact ih h.1 (by omega)
  have k1 := of_decide_eq_true (key _ _ h.2 (by omega))
  have k2 := of_decide_eq_true (key _ _ h'.2 (by omega))
  rcases hn with hn | hn
  · exact hn hll
  · exact hn (k1.symm.trans k2)
theorem readLine_c (lv : Nat) {q : Hp} {t : Nat → Int} {e p : Nat} (S : PcS) (B : Bt q t e) (hp : p ≤ e) (R : RS q 1 S.1 S.2.1 S.2.2) : PcR (cl (lv + 9) 41 [aA 6 0] (tpH q t e p)) (pcLine t e S p) q t e := by
  have A := TA_tp B.1 B.2.1 B.2.2 hp
  have w1 := isWord_c (lv + 3) 8 A (by decide) (by decide)
  have w2 := isWord_c (lv + 3) 26 A (by decide) (by decide)
  have w3 := isWord_c (lv + 3) 34 A (by decide) (by decide)
  have w4 := isWord_c (lv + 3) 3 A (by decide) (by decide)
  have w5 := isWord_c (lv + 3) 29 A (by decide) (by decide)
  rw [show sTxt.getD 8 [] = wHand from rfl] at w1
  rw [show sTxt.getD 26 [] = wNote from rfl] at w2
  rw [show sTxt.getD 34 [] = wSlip from rfl] at w3
  rw [show sTxt.getD 3 [] = wBeat from rfl] at w4
  rw [show sTxt.getD 29 [] = wPage from rfl] at w5
  have fl := fail_c (lv + 7) A
  have fin : ∀ (r : Nat) (f : Nat), hset (tpH q t e r) 150 0 0 (f : Int) 150 0 0 = (f : Int) := fun r f => hs_eq _ _ _ _ _
  have h39 : tpH q t e p 139 1 0 = (S.2.1 : Int) := by rw [tp_o (by unfold tpR; omega)]; exact R.1.1
  have h40 : tpH q t e p 140 1 0 = (S.2.2 : Int) := by rw [tp_o (by unfold tpR; omega)]; exact R.2.1.1
  have hH := R.1.2.1
  have hN := R.2.1.2.1
  have gone : ∃ h', ri 0 (hset (tpH q t e p) 150 0 0 (p : Int)) = ri 0 h' ∧ h' 150 0 0 = (p : Int) ∧ ∀ tt k j, ¬ PcF tt k → h' tt k j = q tt k j := ⟨_, rfl, fin p p, fun tt k j hf => fl_o hf⟩
  unfold pcLine
  rw [in_41]
  by_cases c1 : isW t e p wHand = true
  · rw [if_pos c1] at w1 ⊢
    have pe := isW_lt hp c1 (by decide)
    by_cases c6 : S.2.1 < 6
    · rw [if_pos c6]
      have r := readHand_c lv S B pe R c6
      cases x : pcHand t e S p with
      | inl f =>
        rw [x] at r
        obtain ⟨h', r1, r2⟩ := r
        refine ⟨h', ?_, r2⟩
        simp (disch := omega) only [x_6_0, x_35_0, x_3, x_79_2_8_d0, x_79_2_8_d1, x_79_2_8_d2, x_79_2_8_d3, x_79_2_8_d4, x_68, x_35_1, x_33, x_1, x_65, x_79_1_6_d0, x_79_1_6_d1, x_79_1_6_d2, x_79_1_6_d3, x_79_1_6_d4, x_85, x_79_2_6_d0, x_79_2_6_d1, x_79_2_6_d2, x_79_2_6_d3, x_79_2_6_d4, x_36, x_62, x_60, x_61, x_79_1_8_d0, x_79_1_8_d1, x_79_1_8_d2, x_79_1_8_d3, x_79_1_8_d4, cb_ri, cb_rl, cb_rv, cb_th, cb_ite, ps_s, ps_n, u_41_0, u_41_29, u_41_58, u_41_98, u_41_99, u_41_100, u_41_140, u_41_141, u_41_142, u_41_183, u_41_184, u_41_185, w1, h39, r1, Int.reduceEq, Int.reduceLT, Int.reduceLE, reduceIte, Int.reduceAdd, Int.reduceSub, Int.reduceMul, Int.reduceNeg, Int.reduceToNat, Bool.false_eq_true, eq_self, if_pos, if_neg]
      | inr z =>
        obtain ⟨S', p'⟩ := z
        rw [x] at r
        obtain ⟨h', r1, r2⟩ := r
        refine ⟨h', ?_, r2⟩
        simp (disch := omega) only [x_6_0, x_35_0, x_3, x_79_2_8_d0, x_79_2_8_d1, x_79_2_8_d2, x_79_2_8_d3, x_79_2_8_d4, x_68, x_35_1, x_33, x_1, x_65, x_79_1_6_d0, x_79_1_6_d1, x_79_1_6_d2, x_79_1_6_d3, x_79_1_6_d4, x_85, x_79_2_6_d0, x_79_2_6_d1, x_79_2_6_d2, x_79_2_6_d3, x_79_2_6_d4, x_36, x_62, x_60, x_61, x_79_1_8_d0, x_79_1_8_d1, x_79_1_8_d2, x_79_1_8_d3, x_79_1_8_d4, cb_ri, cb_rl, cb_rv, cb_th, cb_ite, ps_s, ps_n, u_41_0, u_41_29, u_41_58, u_41_98, u_41_99, u_41_100, u_41_140, u_41_141, u_41_142, u_41_183, u_41_184, u_41_185, w1, h39, r1, Int.reduceEq, Int.reduceLT, Int.reduceLE, reduceIte, Int.reduceAdd, Int.reduceSub, Int.reduceMul, Int.reduceNeg, Int.reduceToNat, Bool.false_eq_true, eq_self, if_pos, if_neg]
    · rw [if_neg c6]
      rw [if_neg (isW_ne (by decide) (by decide) c1)] at w2 w3 w4 w5
      have := gone
      obtain ⟨h', g1, g2⟩ := this
      refine ⟨h', ?_, g2⟩
      rw [← g1]
      simp (disch := omega) only [x_6_0, x_35_0, x_3, x_79_2_8_d0, x_79_2_8_d1, x_79_2_8_d2, x_79_2_8_d3, x_79_2_8_d4, x_68, x_35_1, x_33, x_1, x_65, x_79_1_6_d0, x_79_1_6_d1, x_79_1_6_d2, x_79_1_6_d3, x_79_1_6_d4, x_85, x_79_2_6_d0, x_79_2_6_d1, x_79_2_6_d2, x_79_2_6_d3, x_79_2_6_d4, x_36, x_62, x_60, x_61, x_79_1_8_d0, x_79_1_8_d1, x_79_1_8_d2, x_79_1_8_d3, x_79_1_8_d4, cb_ri, cb_rl, cb_rv, cb_th, cb_ite, ps_s, ps_n, u_41_0, u_41_29, u_41_58, u_41_98, u_41_99, u_41_100, u_41_140, u_41_141, u_41_142, u_41_183, u_41_184, u_41_185, w1, w2, w3, w4, w5, h39, fl, Int.reduceEq, Int.reduceLT, Int.reduceLE, reduceIte, Int.reduceAdd, Int.reduceSub, Int.reduceMul, Int.reduceNeg, Int.reduceToNat, Bool.false_eq_true, eq_self, if_pos, if_neg]
  rw [if_neg c1] at w1 ⊢
  by_cases c2 : isW t e p wNote = true
  · rw [if_pos c2] at w2 ⊢
    have pe := isW_lt hp c2 (by decide)
    by_cases c6 : S.2.2 < 14
    · rw [if_pos c6]
      have r := readNote_c lv S B pe R c6
      cases x : pcNote t e S p with
      | inl f =>
        rw [x] at r
        obtain ⟨h', r1, r2⟩ := r
        refine ⟨h', ?_, r2⟩
        simp (disch := omega) only [x_6_0, x_35_0, x_3, x_79_2_8_d0, x_79_2_8_d1, x_79_2_8_d2, x_79_2_8_d3, x_79_2_8_d4, x_68, x_35_1, x_33, x_1, x_65, x_79_1_6_d0, x_79_1_6_d1, x_79_1_6_d2, x_79_1_6_d3, x_79_1_6_d4, x_85, x_79_2_6_d0, x_79_2_6_d1, x_79_2_6_d2, x_79_2_6_d3, x_79_2_6_d4, x_36, x_62, x_60, x_61, x_79_1_8_d0, x_79_1_8_d1, x_79_1_8_d2, x_79_1_8_d3, x_79_1_8_d4, cb_ri, cb_rl, cb_rv, cb_th, cb_ite, ps_s, ps_n, u_41_0, u_41_29, u_41_58, u_41_98, u_41_99, u_41_100, u_41_140, u_41_141, u_41_142, u_41_183, u_41_184, u_41_185, w1, w2, h40, r1, Int.reduceEq, Int.reduceLT, Int.reduceLE, reduceIte, Int.reduceAdd, Int.reduceSub, Int.reduceMul, Int.reduceNeg, Int.reduceToNat, Bool.false_eq_true, eq_self, if_pos, if_neg]
      | inr z =>
        obtain ⟨S', p'⟩ := z
        rw [x] at r
        obtain ⟨h', r1, r2⟩ := r
        refine ⟨h', ?_, r2⟩
        simp (disch := omega) only [x_6_0, x_35_0, x_3, x_79_2_8_d0, x_79_2_8_d1, x_79_2_8_d2, x_79_2_8_d3, x_79_2_8_d4, x_68, x_35_1, x_33, x_1, x_65, x_79_1_6_d0, x_79_1_6_d1, x_79_1_6_d2, x_79_1_6_d3, x_79_1_6_d4, x_85, x_79_2_6_d0, x_79_2_6_d1, x_79_2_6_d2, x_79_2_6_d3, x_79_2_6_d4, x_36, x_62, x_60, x_61, x_79_1_8_d0, x_79_1_8_d1, x_79_1_8_d2, x_79_1_8_d3, x_79_1_8_d4, cb_ri, cb_rl, cb_rv, cb_th, cb_ite, ps_s, ps_n, u_41_0, u_41_29, u_41_58, u_41_98, u_41_99, u_41_100, u_41_140, u_41_141, u_41_142, u_41_183, u_41_184, u_41_185, w1, w2, h40, r1, Int.reduceEq, Int.reduceLT, Int.reduceLE, reduceIte, Int.reduceAdd, Int.reduceSub, Int.reduceMul, Int.reduceNeg, Int.reduceToNat, Bool.false_eq_true, eq_self, if_pos, if_neg]
    · rw [if_neg c6]
      rw [if_neg (isW_ne (by decide) (by decide) c2)] at w3 w4 w5
      obtain ⟨h', g1, g2⟩ := gone
      refine ⟨h', ?_, g2⟩
      rw [← g1]
      simp (disch := omega) only [x_6_0, x_35_0, x_3, x_79_2_8_d0, x_79_2_8_d1, x_79_2_8_d2, x_79_2_8_d3, x_79_2_8_d4, x_68, x_35_1, x_33, x_1, x_65, x_79_1_6_d0, x_79_1_6_d1, x_79_1_6_d2, x_79_1_6_d3, x_79_1_6_d4, x_85, x_79_2_6_d0, x_79_2_6_d1, x_79_2_6_d2, x_79_2_6_d3, x_79_2_6_d4, x_36, x_62, x_60, x_61, x_79_1_8_d0, x_79_1_8_d1, x_79_1_8_d2, x_79_1_8_d3, x_79_1_8_d4, cb_ri, cb_rl, cb_rv, cb_th, cb_ite, ps_s, ps_n, u_41_0, u_41_29, u_41_58, u_41_98, u_41_99, u_41_100, u_41_140, u_41_141, u_41_142, u_41_183, u_41_184, u_41_185, w1, w2, w3, w4, w5, h40, fl, Int.reduceEq, Int.reduceLT, Int.reduceLE, reduceIte, Int.reduceAdd, Int.reduceSub, Int.reduceMul, Int.reduceNeg, Int.reduceToNat, Bool.false_eq_true, eq_self, if_pos, if_neg]
  rw [if_neg c2] at w2 ⊢
  -- the three that tell a number
  have tell : ∀ (j tg : Nat) (hi : Int), ((tg = 146 ∧ j = 7) ∨ (tg = 145 ∧ j = 6) ∨ (tg = 144 ∧ j = 5)) → hi ≤ 999 → p < e → match pcTell t e S j hi p with
      | .inl f => ∃ g, cl (lv + 8) 42 [aA 6 0, aI hi] (tpH q t e p) = ri (-1) g ∧ hset g tg 1 0 (-1) 150 0 0 = (f : Int) ∧ ∀ tt k j, ¬ PcF tt k → hset g tg 1 0 (-1) tt k j = q tt k j
      | .inr (S', r) => ∃ v, ¬ v = -1 ∧ cl (lv + 8) 42 [aA 6 0, aI hi] (tpH q t e p) = ri v (tpH q t e r) ∧ hset (tpH q t e r) tg 1 0 v = tpH (hset q tg 1 0 v) t e r ∧ RS (hset q tg 1 0 v) 1 S'.1 S'.2.1 S'.2.2 ∧ ∀ tt k j, ¬ stFr 1 tt k → hset q tg 1 0 v tt k j = q tt k j := by
    intro j tg hi hj hh pe
    have b := behindW_c (lv + 5) hi B hp hh
    have l0 := nxt_b t pe
    unfold pcTell
    cases x : pNum t e (nxt t e p) hi with
    | inl f =>
      rw [x] at b
      refine ⟨_, b, by rw [hs_t (by omega)]; exact fin _ f, fun tt k j hf => ?_⟩
      rw [hs_o (fun z => hf (Or.inl ⟨z.2.1, by unfold stTag; omega⟩))]
      exact fl_o hf
    | inr z =>
      obtain ⟨v, r⟩ := z
      rw [x] at b
      have l := pNum_len l0.2 x
      exact ⟨v, by omega, b, tp_hs (by omega), RS_x v (by omega) R, fun tt k j hf => hs_o (fun z => hf ⟨z.2.1, by unfold stTag; omega⟩)⟩
  by_cases c3 : isW t e p wSlip = true
  · rw [if_pos c3] at w3 ⊢
    have tl := tell 7 146 100 (by omega) (by omega) (isW_lt hp c3 (by decide))
    cases x : pcTell t e S 7 100 p with
    | inl f =>
      rw [x] at tl
      obtain ⟨g, t1, t2, t3⟩ := tl
      refine ⟨_, ?_, t2, t3⟩
      simp (disch := omega) only [x_6_0, x_35_0, x_3, x_79_2_8_d0, x_79_2_8_d1, x_79_2_8_d2, x_79_2_8_d3, x_79_2_8_d4, x_68, x_35_1, x_33, x_1, x_65, x_79_1_6_d0, x_79_1_6_d1, x_79_1_6_d2, x_79_1_6_d3, x_79_1_6_d4, x_85, x_79_2_6_d0, x_79_2_6_d1, x_79_2_6_d2, x_79_2_6_d3, x_79_2_6_d4, x_36, x_62, x_60, x_61, x_79_1_8_d0, x_79_1_8_d1, x_79_1_8_d2, x_79_1_8_d3, x_79_1_8_d4, cb_ri, cb_rl, cb_rv, cb_th, cb_ite, ps_s, ps_n, u_41_0, u_41_29, u_41_58, u_41_98, u_41_99, u_41_100, u_41_140, u_41_141, u_41_142, u_41_183, u_41_184, u_41_185, w1, w2, w3, t1, hs_eq, Int.reduceEq, Int.reduceLT, Int.reduceLE, reduceIte, Int.reduceAdd, Int.reduceSub, Int.reduceMul, Int.reduceNeg, Int.reduceToNat, Bool.false_eq_true, eq_self, if_pos, if_neg]
    | inr z =>
      obtain ⟨S', r⟩ := z
      rw [x] at tl
      obtain ⟨v, t0, t1, t2, t3, t4⟩ := tl
      refine ⟨_, ?_, t3, t4⟩
      rw [← t2]
      simp (disch := omega) only [x_6_0, x_35_0, x_3, x_79_2_8_d0, x_79_2_8_d1, x_79_2_8_d2, x_79_2_8_d3, x_79_2_8_d4, x_68, x_35_1, x_33, x_1, x_65, x_79_1_6_d0, x_79_1_6_d1, x_79_1_6_d2, x_79_1_6_d3, x_79_1_6_d4, x_85, x_79_2_6_d0, x_79_2_6_d1, x_79_2_6_d2, x_79_2_6_d3, x_79_2_6_d4, x_36, x_62, x_60, x_61, x_79_1_8_d0, x_79_1_8_d1, x_79_1_8_d2, x_79_1_8_d3, x_79_1_8_d4, cb_ri, cb_rl, cb_rv, cb_th, cb_ite, ps_s, ps_n, u_41_0, u_41_29, u_41_58, u_41_98, u_41_99, u_41_100, u_41_140, u_41_141, u_41_142, u_41_183, u_41_184, u_41_185, w1, w2, w3, t1, hs_eq, t0, Int.reduceEq, Int.reduceLT, Int.reduceLE, reduceIte, Int.reduceAdd, Int.reduceSub, Int.reduceMul, Int.reduceNeg, Int.reduceToNat, Bool.false_eq_true, eq_self, if_pos, if_neg]
  rw [if_neg c3] at w3 ⊢
  by_cases c4 : isW t e p wBeat = true
  · rw [if_pos c4] at w4 ⊢
    have tl := tell 5 144 11 (by omega) (by omega) (isW_lt hp c4 (by decide))
    cases x : pcTell t e S 5 11 p with
    | inl f =>
      rw [x] at tl
      obtain ⟨g, t1, t2, t3⟩ := tl
      refine ⟨_, ?_, t2, t3⟩
      simp (disch := omega) only [x_6_0, x_35_0, x_3, x_79_2_8_d0, x_79_2_8_d1, x_79_2_8_d2, x_79_2_8_d3, x_79_2_8_d4, x_68, x_35_1, x_33, x_1, x_65, x_79_1_6_d0, x_79_1_6_d1, x_79_1_6_d2, x_79_1_6_d3, x_79_1_6_d4, x_85, x_79_2_6_d0, x_79_2_6_d1, x_79_2_6_d2, x_79_2_6_d3, x_79_2_6_d4, x_36, x_62, x_60, x_61, x_79_1_8_d0, x_79_1_8_d1, x_79_1_8_d2, x_79_1_8_d3, x_79_1_8_d4, cb_ri, cb_rl, cb_rv, cb_th, cb_ite, ps_s, ps_n, u_41_0, u_41_29, u_41_58, u_41_98, u_41_99, u_41_100, u_41_140, u_41_141, u_41_142, u_41_183, u_41_184, u_41_185, w1, w2, w3, w4, t1, hs_eq, Int.reduceEq, Int.reduceLT, Int.reduceLE, reduceIte, Int.reduceAdd, Int.reduceSub, Int.reduceMul, Int.reduceNeg, Int.reduceToNat, Bool.false_eq_true, eq_self, if_pos, if_neg]
    | inr z =>
      obtain ⟨S', r⟩ := z
      rw [x] at tl
      obtain ⟨v, t0, t1, t2, t3, t4⟩ := tl
      refine ⟨_, ?_, t3, t4⟩
      rw [← t2]
      simp (disch := omega) only [x_6_0, x_35_0, x_3, x_79_2_8_d0, x_79_2_8_d1, x_79_2_8_d2, x_79_2_8_d3, x_79_2_8_d4, x_68, x_35_1, x_33, x_1, x_65, x_79_1_6_d0, x_79_1_6_d1, x_79_1_6_d2, x_79_1_6_d3, x_79_1_6_d4, x_85, x_79_2_6_d0, x_79_2_6_d1, x_79_2_6_d2, x_79_2_6_d3, x_79_2_6_d4, x_36, x_62, x_60, x_61, x_79_1_8_d0, x_79_1_8_d1, x_79_1_8_d2, x_79_1_8_d3, x_79_1_8_d4, cb_ri, cb_rl, cb_rv, cb_th, cb_ite, ps_s, ps_n, u_41_0, u_41_29, u_41_58, u_41_98, u_41_99, u_41_100, u_41_140, u_41_141, u_41_142, u_41_183, u_41_184, u_41_185, w1, w2, w3, w4, t1, hs_eq, t0, Int.reduceEq, Int.reduceLT, Int.reduceLE, reduceIte, Int.reduceAdd, Int.reduceSub, Int.reduceMul, Int.reduceNeg, Int.reduceToNat, Bool.false_eq_true, eq_self, if_pos, if_neg]
  rw [if_neg c4] at w4 ⊢
  by_cases c5 : isW t e p wPage = true
  · rw [if_pos c5] at w5 ⊢
    have tl := tell 6 145 999 (by omega) (by omega) (isW_lt hp c5 (by decide))
    cases x : pcTell t e S 6 999 p with
    | inl f =>
      rw [x] at tl
      obtain ⟨g, t1, t2, t3⟩ := tl
      refine ⟨_, ?_, t2, t3⟩
      simp (disch := omega) only [x_6_0, x_35_0, x_3, x_79_2_8_d0, x_79_2_8_d1, x_79_2_8_d2, x_79_2_8_d3, x_79_2_8_d4, x_68, x_35_1, x_33, x_1, x_65, x_79_1_6_d0, x_79_1_6_d1, x_79_1_6_d2, x_79_1_6_d3, x_79_1_6_d4, x_85, x_79_2_6_d0, x_79_2_6_d1, x_79_2_6_d2, x_79_2_6_d3, x_79_2_6_d4, x_36, x_62, x_60, x_61, x_79_1_8_d0, x_79_1_8_d1, x_79_1_8_d2, x_79_1_8_d3, x_79_1_8_d4, cb_ri, cb_rl, cb_rv, cb_th, cb_ite, ps_s, ps_n, u_41_0, u_41_29, u_41_58, u_41_98, u_41_99, u_41_100, u_41_140, u_41_141, u_41_142, u_41_183, u_41_184, u_41_185, w1, w2, w3, w4, w5, t1, hs_eq, Int.reduceEq, Int.reduceLT, Int.reduceLE, reduceIte, Int.reduceAdd, Int.reduceSub, Int.reduceMul, Int.reduceNeg, Int.reduceToNat, Bool.false_eq_true, eq_self, if_pos, if_neg]
    | inr z =>
      obtain ⟨S', r⟩ := z
      rw [x] at tl
      obtain ⟨v, t0, t1, t2, t3, t4⟩ := tl
      refine ⟨_, ?_, t3, t4⟩
      rw [← t2]
      simp (disch := omega) only [x_6_0, x_35_0, x_3, x_79_2_8_d0, x_79_2_8_d1, x_79_2_8_d2, x_79_2_8_d3, x_79_2_8_d4, x_68, x_35_1, x_33, x_1, x_65, x_79_1_6_d0, x_79_1_6_d1, x_79_1_6_d2, x_79_1_6_d3, x_79_1_6_d4, x_85, x_79_2_6_d0, x_79_2_6_d1, x_79_2_6_d2, x_79_2_6_d3, x_79_2_6_d4, x_36, x_62, x_60, x_61, x_79_1_8_d0, x_79_1_8_d1, x_79_1_8_d2, x_79_1_8_d3, x_79_1_8_d4, cb_ri, cb_rl, cb_rv, cb_th, cb_ite, ps_s, ps_n, u_41_0, u_41_29, u_41_58, u_41_98, u_41_99, u_41_100, u_41_140, u_41_141, u_41_142, u_41_183, u_41_184, u_41_185, w1, w2, w3, w4, w5, t1, hs_eq, t0, Int.reduceEq, Int.reduceLT, Int.reduceLE, reduceIte, Int.reduceAdd, Int.reduceSub, Int.reduceMul, Int.reduceNeg, Int.reduceToNat, Bool.false_eq_true, eq_self, if_pos, if_neg]
  rw [if_neg c5] at w5 ⊢
  obtain ⟨h', g1, g2⟩ := gone
  refine ⟨h', ?_, g2⟩
  rw [← g1]
  simp (disch := omega) only [x_6_0, x_35_0, x_3, x_79_2_8_d0, x_79_2_8_d1, x_79_2_8_d2, x_79_2_8_d3, x_79_2_8_d4, x_68, x_35_1, x_33, x_1, x_65, x_79_1_6_d0, x_79_1_6_d1, x_79_1_6_d2, x_79_1_6_d3, x_79_1_6_d4, x_85, x_79_2_6_d0, x_79_2_6_d1, x_79_2_6_d2, x_79_2_6_d3, x_79_2_6_d4, x_36, x_62, x_60, x_61, x_79_1_8_d0, x_79_1_8_d1, x_79_1_8_d2, x_79_1_8_d3, x_79_1_8_d4, cb_ri, cb_rl, cb_rv, cb_th, cb_ite, ps_s, ps_n, u_41_0, u_41_29, u_41_58, u_41_98, u_41_99, u_41_100, u_41_140, u_41_141, u_41_142, u_41_183, u_41_184, u_41_185, w1, w2, w3, w4, w5, fl, Int.reduceEq, Int.reduceLT, Int.reduceLE, reduceIte, Int.reduceAdd, Int.reduceSub, Int.reduceMul, Int.reduceNeg, Int.reduceToNat, Bool.false_eq_true, eq_self, if_pos, if_neg]
