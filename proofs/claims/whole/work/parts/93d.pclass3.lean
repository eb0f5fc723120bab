/-! THE CLASS READS A PIECE, whole. -/
theorem Bt_fr {q q' : Hp} {t : Nat → Int} {e : Nat} (fr : ∀ tt k j, ¬ stFr 1 tt k → q' tt k j = q tt k j) (B : Bt q t e) : Bt q' t e := ⟨by rw [← B.1]; funext j; exact fr _ _ _ (by unfold stFr; omega), by rw [fr _ _ _ (by unfold stFr; omega)]; exact B.2.1, B.2.2⟩
theorem readP_l (lv : Nat) {t : Nat → Int} {e : Nat} : ∀ (n i : Nat) (S : PcS) (p : Nat) (q : Hp), i + n = 14 → p ≤ e → Bt q t e → RS q 1 S.1 S.2.1 S.2.2 → GP S → match pcAll t e n S p with
    | .inl f => ∃ h', run (lv + 9) 40 21 [aA 6 0, aI (i : Int)] [] (tpH q t e p) = ri 0 h' ∧ h' 150 0 0 = (f : Int) ∧ ∀ tt k j, ¬ PcF tt k → h' tt k j = q tt k j
    | .inr S' => ∃ q' r, run (lv + 9) 40 21 [aA 6 0, aI (i : Int)] [] (tpH q t e p) = ri 1 (tpH q' t e r) ∧ RS q' 1 S'.1 S'.2.1 S'.2.2 ∧ ∀ tt k j, ¬ stFr 1 tt k → q' tt k j = q tt k j := by
  intro n
  induction n with
  | zero =>
    intro i S p q hi hp B R G
    have A := TA_tp B.1 B.2.1 B.2.2 hp
    have fl := fail_c (lv + 8) A
    refine ⟨hset (tpH q t e p) 150 0 0 (p : Int), ?_, hs_eq _ _ _ _ _, fun tt k j hf => fl_o hf⟩
    rw [hd_40_21]
    simp (disch := omega) only [x_6_0, x_35_0, x_79_1_8_d0, x_79_1_8_d1, x_79_1_8_d2, x_79_1_8_d3, x_79_1_8_d4, x_68, x_1, x_85, x_7_1_I, x_7_1_A, x_7_1_U, x_61, x_4_1, x_65, x_79_1_6_d0, x_79_1_6_d1, x_79_1_6_d2, x_79_1_6_d3, x_79_1_6_d4, x_69, x_79_2_8_d0, x_79_2_8_d1, x_79_2_8_d2, x_79_2_8_d3, x_79_2_8_d4, x_10_1_I, x_10_1_A, x_10_1_U, x_60, cb_ri, cb_rl, cb_rv, cb_th, cb_ite, ps_s, ps_n, u_40_0, u_40_19, u_40_36, u_40_48, u_40_62, u_40_68, fl, Int.reduceEq, Int.reduceLT, Int.reduceLE, reduceIte, Int.reduceAdd, Int.reduceSub, Int.reduceMul, Int.reduceNeg, Int.reduceToNat, Bool.false_eq_true, eq_self, if_pos, if_neg]
  | succ n ih =>
    intro i S p q hi hp B R G
    have rl := readLine_c lv S B hp R
    show match (match pcLine t e S p with | .inl f => .inl f | .inr (S', r) => if r = e then .inr S' else if isC t e r 59 = true then pcAll t e n S' (nxt t e r) else .inl r : Nat ⊕ PcS) with
      | .inl f => _
      | .inr S' => _
    cases x : pcLine t e S p with
    | inl f =>
      rw [x] at rl
      obtain ⟨h', r1, r2⟩ := rl
      refine ⟨h', ?_, r2⟩
      rw [hd_40_21]
      simp (disch := omega) only [x_6_0, x_35_0, x_79_1_8_d0, x_79_1_8_d1, x_79_1_8_d2, x_79_1_8_d3, x_79_1_8_d4, x_68, x_1, x_85, x_7_1_I, x_7_1_A, x_7_1_U, x_61, x_4_1, x_65, x_79_1_6_d0, x_79_1_6_d1, x_79_1_6_d2, x_79_1_6_d3, x_79_1_6_d4, x_69, x_79_2_8_d0, x_79_2_8_d1, x_79_2_8_d2, x_79_2_8_d3, x_79_2_8_d4, x_10_1_I, x_10_1_A, x_10_1_U, x_60, cb_ri, cb_rl, cb_rv, cb_th, cb_ite, ps_s, ps_n, u_40_0, u_40_19, u_40_36, u_40_48, u_40_62, u_40_68, r1, Int.reduceEq, Int.reduceLT, Int.reduceLE, reduceIte, Int.reduceAdd, Int.reduceSub, Int.reduceMul, Int.reduceNeg, Int.reduceToNat, Bool.false_eq_true, eq_self, if_pos, if_neg]
    | inr z =>
      obtain ⟨S', r⟩ := z
      obtain ⟨g1, g2, g3, g4⟩ := pcLine_ok hp G x
      rw [x] at rl
      obtain ⟨q', r1, r2, r3⟩ := rl
      have B' := Bt_fr r3 B
      have A' := TA_tp B'.1 B'.2.1 B'.2.2 g3
      have ie := isEnd_c (lv + 8) A'
      have ps := passSign_c (lv + 7) 59 A' (by decide) (by decide)
      rw [tp_tp] at ps
      dsimp only
      by_cases h1 : r = e
      · rw [if_pos h1] at ie ⊢
        refine ⟨q', r, ?_, r2, r3⟩
        rw [hd_40_21]
        simp (disch := omega) only [x_6_0, x_35_0, x_79_1_8_d0, x_79_1_8_d1, x_79_1_8_d2, x_79_1_8_d3, x_79_1_8_d4, x_68, x_1, x_85, x_7_1_I, x_7_1_A, x_7_1_U, x_61, x_4_1, x_65, x_79_1_6_d0, x_79_1_6_d1, x_79_1_6_d2, x_79_1_6_d3, x_79_1_6_d4, x_69, x_79_2_8_d0, x_79_2_8_d1, x_79_2_8_d2, x_79_2_8_d3, x_79_2_8_d4, x_10_1_I, x_10_1_A, x_10_1_U, x_60, cb_ri, cb_rl, cb_rv, cb_th, cb_ite, ps_s, ps_n, u_40_0, u_40_19, u_40_36, u_40_48, u_40_62, u_40_68, r1, ie, Int.reduceEq, Int.reduceLT, Int.reduceLE, reduceIte, Int.reduceAdd, Int.reduceSub, Int.reduceMul, Int.reduceNeg, Int.reduceToNat, Bool.false_eq_true, eq_self, if_pos, if_neg]
      · rw [if_neg h1] at ie ⊢
        by_cases h2 : isC t e r 59 = true
        · rw [if_pos h2] at ps ⊢
          have hn := nxt_b t (isC_lt h2)
          have rcc := ih (i + 1) S' (nxt t e r) q' (by omega) hn.2 B' r2 g1
          have st : run (lv + 9) 40 21 [aA 6 0, aI (i : Int)] [] (tpH q t e p) = run (lv + 9) 40 21 [aA 6 0, aI ((i + 1 : Nat) : Int)] [] (tpH q' t e (nxt t e r)) := by
            rw [hd_40_21]
            simp (disch := omega) only [x_6_0, x_35_0, x_79_1_8_d0, x_79_1_8_d1, x_79_1_8_d2, x_79_1_8_d3, x_79_1_8_d4, x_68, x_1, x_85, x_7_1_I, x_7_1_A, x_7_1_U, x_61, x_4_1, x_65, x_79_1_6_d0, x_79_1_6_d1, x_79_1_6_d2, x_79_1_6_d3, x_79_1_6_d4, x_69, x_79_2_8_d0, x_79_2_8_d1, x_79_2_8_d2, x_79_2_8_d3, x_79_2_8_d4, x_10_1_I, x_10_1_A, x_10_1_U, x_60, cb_ri, cb_rl, cb_rv, cb_th, cb_ite, ps_s, ps_n, u_40_0, u_40_19, u_40_36, u_40_48, u_40_62, u_40_68, r1, ie, ps, Int.reduceEq, Int.reduceLT, Int.reduceLE, reduceIte, Int.reduceAdd, Int.reduceSub, Int.reduceMul, Int.reduceNeg, Int.reduceToNat, Bool.false_eq_true, eq_self, if_pos, if_neg, ci, w32_id]
          rw [st]
          cases y : pcAll t e n S' (nxt t e r) with
          | inl f =>
            rw [y] at rcc
            obtain ⟨h', a1, a2, a3⟩ := rcc
            exact ⟨h', a1, a2, fun tt k j hf => by rw [a3 tt k j hf, r3 tt k j (fun z => hf (Or.inl z))]⟩
          | inr S2 =>
            rw [y] at rcc
            obtain ⟨q2, r', a1, a2, a3⟩ := rcc
            exact ⟨q2, r', a1, a2, fun tt k j hf => by rw [a3 tt k j hf, r3 tt k j hf]⟩
        · rw [if_neg h2] at ps ⊢
          refine ⟨hset (tpH q' t e r) 150 0 0 (r : Int), ?_, hs_eq _ _ _ _ _, fun tt k j hf => by rw [fl_o hf, r3 tt k j (fun z => hf (Or.inl z))]⟩
          rw [hd_40_21]
          simp (disch := omega) only [x_6_0, x_35_0, x_79_1_8_d0, x_79_1_8_d1, x_79_1_8_d2, x_79_1_8_d3, x_79_1_8_d4, x_68, x_1, x_85, x_7_1_I, x_7_1_A, x_7_1_U, x_61, x_4_1, x_65, x_79_1_6_d0, x_79_1_6_d1, x_79_1_6_d2, x_79_1_6_d3, x_79_1_6_d4, x_69, x_79_2_8_d0, x_79_2_8_d1, x_79_2_8_d2, x_79_2_8_d3, x_79_2_8_d4, x_10_1_I, x_10_1_A, x_10_1_U, x_60, cb_ri, cb_rl, cb_rv, cb_th, cb_ite, ps_s, ps_n, u_40_0, u_40_19, u_40_36, u_40_48, u_40_62, u_40_68, r1, ie, ps, Int.reduceEq, Int.reduceLT, Int.reduceLE, reduceIte, Int.reduceAdd, Int.reduceSub, Int.reduceMul, Int.reduceNeg, Int.reduceToNat, Bool.false_eq_true, eq_self, if_pos, if_neg]
def PcG (tt k : Nat) : Prop := stFr 1 tt k ∨ (k = 0 ∧ 149 ≤ tt ∧ tt ≤ 155)
theorem readP_c (lv : Nat) {h : Hp} {e : Nat} (S : PcS) (h1 : h 149 0 0 = (e : Int)) (h2 : e ≤ 400) (R : RS h 1 S.1 S.2.1 S.2.2) (G : GP S) : match pcOf (h 148 0) e S with
    | .inl f => ∃ h', cl (lv + 10) 40 [aA 6 0] h = ri 0 h' ∧ h' 150 0 0 = (f : Int) ∧ h' 149 0 0 = 0 ∧ ∀ tt k j, ¬ PcG tt k → h' tt k j = h tt k j
    | .inr S' => ∃ h', cl (lv + 10) 40 [aA 6 0] h = ri 1 h' ∧ h' 150 0 0 = -1 ∧ h' 149 0 0 = 0 ∧ RS h' 1 S'.1 S'.2.1 S'.2.2 ∧ ∀ tt k j, ¬ PcG tt k → h' tt k j = h tt k j := by
  have op := open_c (lv + 7) h1 h2
  have B : Bt (opH h e) (h 148 0) e := op_B h2
  have hb := sk_b (h 148 0) (Nat.zero_le e)
  have oo : ∀ tt k j, ¬ (k = 0 ∧ (tt = 149 ∨ tt = 150 ∨ tt = 152)) → opH h e tt k j = h tt k j := fun tt k j hf => by
    unfold opH
    rw [hs_o (by omega), hs_o (by omega), hs_o (by omega)]
  have o9 : opH h e 149 0 0 = 0 := by unfold opH; rw [hs_t (by omega), hs_t (by omega), hs_eq]
  have o5 : opH h e 150 0 0 = -1 := by unfold opH; rw [hs_eq]
  have R0 : RS (opH h e) 1 S.1 S.2.1 S.2.2 := RS_e (fun t i ht => oo _ _ _ (by unfold stTag at ht; omega)) R
  unfold pcOf
  generalize h 148 0 = t at op B hb
  generalize sk t e 0 = p at op hb
  have A := TA_tp B.1 B.2.1 B.2.2 hb.2
  have ie := isEnd_c (lv + 8) A
  have tpo : ∀ (q : Hp) (r : Nat) tt k j, ¬ PcG tt k → (∀ tt k j, ¬ stFr 1 tt k → q tt k j = opH h e tt k j) → tpH q t e r tt k j = h tt k j := fun q r tt k j hf hq => by
    have n1 : ¬ stFr 1 tt k := fun z => hf (Or.inl z)
    have n2 : ¬ (k = 0 ∧ 149 ≤ tt ∧ tt ≤ 155) := fun z => hf (Or.inr z)
    rw [tp_o (by unfold tpR; omega), hq tt k j n1, oo tt k j (by omega)]
  rw [in_40]
  by_cases c : p = e
  · rw [if_pos c] at ie ⊢
    refine ⟨tpH (opH h e) t e p, ?_, by rw [tp_o (by unfold tpR; omega)]; exact o5, by rw [tp_o (by unfold tpR; omega)]; exact o9, RS_tp R0, fun tt k j hf => tpo _ _ tt k j hf (fun _ _ _ _ => rfl)⟩
    simp (disch := omega) only [x_6_0, x_35_0, x_79_1_8_d0, x_79_1_8_d1, x_79_1_8_d2, x_79_1_8_d3, x_79_1_8_d4, x_68, x_1, x_85, x_7_1_I, x_7_1_A, x_7_1_U, x_61, x_4_1, x_65, x_79_1_6_d0, x_79_1_6_d1, x_79_1_6_d2, x_79_1_6_d3, x_79_1_6_d4, x_69, x_79_2_8_d0, x_79_2_8_d1, x_79_2_8_d2, x_79_2_8_d3, x_79_2_8_d4, x_10_1_I, x_10_1_A, x_10_1_U, x_60, cb_ri, cb_rl, cb_rv, cb_th, cb_ite, ps_s, ps_n, u_40_0, u_40_19, u_40_36, u_40_48, u_40_62, u_40_68, op, ie, Int.reduceEq, Int.reduceLT, Int.reduceLE, reduceIte, Int.reduceAdd, Int.reduceSub, Int.reduceMul, Int.reduceNeg, Int.reduceToNat, Bool.false_eq_true, eq_self, if_pos, if_neg]
  · rw [if_neg c] at ie ⊢
    have rl := readP_l lv (t := t) (e := e) 14 0 S p (opH h e) rfl hb.2 B R0 G
    have st : run (lv + 9) 40 0 [aA 6 0, none] [] h = run (lv + 9) 40 21 [aA 6 0, aI ((0 : Nat) : Int)] [] (tpH (opH h e) t e p) := by
      simp (disch := omega) only [x_6_0, x_35_0, x_79_1_8_d0, x_79_1_8_d1, x_79_1_8_d2, x_79_1_8_d3, x_79_1_8_d4, x_68, x_1, x_85, x_7_1_I, x_7_1_A, x_7_1_U, x_61, x_4_1, x_65, x_79_1_6_d0, x_79_1_6_d1, x_79_1_6_d2, x_79_1_6_d3, x_79_1_6_d4, x_69, x_79_2_8_d0, x_79_2_8_d1, x_79_2_8_d2, x_79_2_8_d3, x_79_2_8_d4, x_10_1_I, x_10_1_A, x_10_1_U, x_60, cb_ri, cb_rl, cb_rv, cb_th, cb_ite, ps_s, ps_n, u_40_0, u_40_19, u_40_36, u_40_48, u_40_62, u_40_68, op, ie, Int.reduceEq, Int.reduceLT, Int.reduceLE, reduceIte, Int.reduceAdd, Int.reduceSub, Int.reduceMul, Int.reduceNeg, Int.reduceToNat, Bool.false_eq_true, eq_self, if_pos, if_neg]
      rfl
    rw [st]
    cases x : pcAll t e 14 S p with
    | inl f =>
      rw [x] at rl
      obtain ⟨h', a1, a2, a3⟩ := rl
      refine ⟨h', a1, a2, by rw [a3 _ _ _ (by unfold PcF stFr; omega)]; exact o9, fun tt k j hf => ?_⟩
      have n2 : ¬ (k = 0 ∧ 149 ≤ tt ∧ tt ≤ 155) := fun z => hf (Or.inr z)
      rw [a3 tt k j (fun z => hf (z.elim Or.inl (fun z => Or.inr (by omega)))), oo tt k j (by omega)]
    | inr S' =>
      rw [x] at rl
      obtain ⟨q', r, a1, a2, a3⟩ := rl
      exact ⟨tpH q' t e r, a1, by rw [tp_o (by unfold tpR; omega), a3 _ _ _ (by unfold stFr; omega)]; exact o5, by rw [tp_o (by unfold tpR; omega), a3 _ _ _ (by unfold stFr; omega)]; exact o9, RS_tp a2, fun tt k j hf => tpo _ _ tt k j hf a3⟩
