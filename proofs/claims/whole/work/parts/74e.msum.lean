theorem isC_sk {t : Nat → Int} {e p : Nat} {c : Int} (h : isC t e p c = true) (hc1 : ¬ isL c = true) (hc2 : ¬ isD c = true) : sk t e (p + 1) = nxt t e p ∧ p + 1 ≤ e := by
  unfold isC at h
  have h' := of_decide_eq_true h
  have e1 : tE t e p = p + 1 := by unfold tE; rw [if_pos h'.1, h'.2, if_neg hc1, if_neg hc2]
  unfold nxt
  rw [e1]
  exact ⟨rfl, h'.1⟩
/-- what the left hand is told by is a truth value -/
def FZ (F : Nat → Int) : Prop := 0 ≤ F 7 ∧ F 7 ≤ 1
theorem sumL_m (lv : Nat) {h : Hp} {t : Nat → Int} {e : Nat} {F : Nat → Int} (T : TX h t e) (hf : h 198 0 0 = -1) (hF : FC h F) (hO : FZ F) : ∀ (n : Nat) (a : CN) (p a' : Nat), a' ≤ e → sk t e a' = p → e < p + n → MRes (run (lv + 6) 204 5 [aA 12 0, aI (a.2 F)] [] (RD h a')) (pSumL t e n a p) (fun b => b.2 F) h t e := by
  have te := T.1
  intro n
  induction n with
  | zero => intro a p a' h1 h2 h3; have := (sk_b t h1).2; omega
  | succ n ih =>
    intro a p a' h1 h2 h3
    have hpb := sk_b t h1
    have hs := sign_m (lv + 3) 43 T h1
    rw [h2] at hs hpb
    have hfa : RD h a' 198 0 0 = -1 := by rw [RD_o (by omega)]; exact hf
    have e1 := RD_a h p
    unfold pSumL
    by_cases hc : isC t e p 43 = true
    · rw [if_pos hc] at hs ⊢
      have q := isC_sk hc (by decide) (by decide)
      have hn := nxt_b t (isC_lt hc)
      have st := RD_RD h p (p + 1)
      have nm := num_m lv (a := p + 1) T q.2 hf hF
      rw [q.1] at nm
      have cc : ((p : Int) + 1) = ((p + 1 : Nat) : Int) := by omega
      cases hq : pPart t e (nxt t e p) with
      | inl f =>
        rw [hq] at nm
        obtain ⟨v, a2, hz, nm⟩ := nm
        refine ⟨w32 (a.2 F + v), a2, hz, ?_⟩
        have ef : hset (RZ h a2) 198 0 0 (f : Int) 198 0 0 = (f : Int) := hs_eq _ _ _ _ _
        rw [hd_204_5]
        simp (disch := omega) only [x_6_0, x_79_1_12_d0, x_79_1_12_d1, x_79_1_12_d2, x_79_1_12_d3, x_79_1_12_d4, x_7_1_I, x_7_1_A, x_7_1_U, x_61, x_33, x_1, x_63, x_79_2_12_d0, x_79_2_12_d1, x_79_2_12_d2, x_79_2_12_d3, x_79_2_12_d4, x_68, x_47_I, x_47_A, x_11, x_36, x_4_1, x_60, x_82, cb_ri, cb_rl, cb_rv, cb_th, cb_ite, ps_s, ps_n, u_204_0, u_204_42, hfa, hs, e1, w32_id, cc, st, nm, Int.reduceEq, Int.reduceLT, Int.reduceLE, reduceIte, Int.reduceAdd, Int.reduceSub, Int.reduceMul, Int.reduceNeg, Int.reduceToNat, Bool.false_eq_true, eq_self, if_pos, if_neg]
        rw [hd_204_5]
        simp (disch := omega) only [x_6_0, x_79_1_12_d0, x_79_1_12_d1, x_79_1_12_d2, x_79_1_12_d3, x_79_1_12_d4, x_7_1_I, x_7_1_A, x_7_1_U, x_61, x_33, x_1, x_63, x_79_2_12_d0, x_79_2_12_d1, x_79_2_12_d2, x_79_2_12_d3, x_79_2_12_d4, x_68, x_47_I, x_47_A, x_11, x_36, x_4_1, x_60, x_82, cb_ri, cb_rl, cb_rv, cb_th, cb_ite, ps_s, ps_n, u_204_0, u_204_42, ef, Int.reduceEq, Int.reduceLT, Int.reduceLE, reduceIte, Int.reduceAdd, Int.reduceSub, Int.reduceMul, Int.reduceNeg, Int.reduceToNat, Bool.false_eq_true, eq_self, if_pos, if_neg]
      | inr z =>
        obtain ⟨op, q2⟩ := z
        rw [hq] at nm
        obtain ⟨a2, n1, n2, nm⟩ := nm
        have hl := pPart_len hn.2 hq
        have ho := pPart_op hn.2 hq
        rw [hd_204_5]
        simp (disch := omega) only [x_6_0, x_79_1_12_d0, x_79_1_12_d1, x_79_1_12_d2, x_79_1_12_d3, x_79_1_12_d4, x_7_1_I, x_7_1_A, x_7_1_U, x_61, x_33, x_1, x_63, x_79_2_12_d0, x_79_2_12_d1, x_79_2_12_d2, x_79_2_12_d3, x_79_2_12_d4, x_68, x_47_I, x_47_A, x_11, x_36, x_4_1, x_60, x_82, cb_ri, cb_rl, cb_rv, cb_th, cb_ite, ps_s, ps_n, u_204_0, u_204_42, hfa, hs, e1, w32_id, cc, st, nm, Int.reduceEq, Int.reduceLT, Int.reduceLE, reduceIte, Int.reduceAdd, Int.reduceSub, Int.reduceMul, Int.reduceNeg, Int.reduceToNat, Bool.false_eq_true, eq_self, if_pos, if_neg]
        exact ih (a.1 ++ [op, 10], fun F => w32 (a.2 F + dn F op)) q2 a2 n1 n2 (by omega)
    · rw [if_neg hc] at hs ⊢
      refine ⟨p, hpb.2, by rw [← h2]; exact sk_sk t h1, ?_⟩
      rw [hd_204_5]
      simp (disch := omega) only [x_6_0, x_79_1_12_d0, x_79_1_12_d1, x_79_1_12_d2, x_79_1_12_d3, x_79_1_12_d4, x_7_1_I, x_7_1_A, x_7_1_U, x_61, x_33, x_1, x_63, x_79_2_12_d0, x_79_2_12_d1, x_79_2_12_d2, x_79_2_12_d3, x_79_2_12_d4, x_68, x_47_I, x_47_A, x_11, x_36, x_4_1, x_60, x_82, cb_ri, cb_rl, cb_rv, cb_th, cb_ite, ps_s, ps_n, u_204_0, u_204_42, hfa, hs, Int.reduceEq, Int.reduceLT, Int.reduceLE, reduceIte, Int.reduceAdd, Int.reduceSub, Int.reduceMul, Int.reduceNeg, Int.reduceToNat, Bool.false_eq_true, eq_self, if_pos, if_neg]
theorem msum_m (lv : Nat) {h : Hp} {t : Nat → Int} {e a : Nat} {F : Nat → Int} (T : TX h t e) (ha : a ≤ e) (hf : h 198 0 0 = -1) (hF : FC h F) (hO : FZ F) : MRes (cl (lv + 7) 204 [aA 12 0] (RD h a)) (pSum t e (sk t e a)) (fun b => b.2 F) h t e := by
  have hb := sk_b t ha
  have nm := num_m lv T ha hf hF
  unfold pSum
  cases hq : pPart t e (sk t e a) with
  | inl f =>
    rw [hq] at nm
    obtain ⟨v, a2, hz, nm⟩ := nm
    refine ⟨v, a2, hz, ?_⟩
    have ef : hset (RZ h a2) 198 0 0 (f : Int) 198 0 0 = (f : Int) := hs_eq _ _ _ _ _
    rw [in_204]
    simp (disch := omega) only [x_6_0, x_79_1_12_d0, x_79_1_12_d1, x_79_1_12_d2, x_79_1_12_d3, x_79_1_12_d4, x_7_1_I, x_7_1_A, x_7_1_U, x_61, x_33, x_1, x_63, x_79_2_12_d0, x_79_2_12_d1, x_79_2_12_d2, x_79_2_12_d3, x_79_2_12_d4, x_68, x_47_I, x_47_A, x_11, x_36, x_4_1, x_60, x_82, cb_ri, cb_rl, cb_rv, cb_th, cb_ite, ps_s, ps_n, u_204_0, u_204_42, nm, Int.reduceEq, Int.reduceLT, Int.reduceLE, reduceIte, Int.reduceAdd, Int.reduceSub, Int.reduceMul, Int.reduceNeg, Int.reduceToNat, Bool.false_eq_true, eq_self, if_pos, if_neg]
    rw [hd_204_5]
    simp (disch := omega) only [x_6_0, x_79_1_12_d0, x_79_1_12_d1, x_79_1_12_d2, x_79_1_12_d3, x_79_1_12_d4, x_7_1_I, x_7_1_A, x_7_1_U, x_61, x_33, x_1, x_63, x_79_2_12_d0, x_79_2_12_d1, x_79_2_12_d2, x_79_2_12_d3, x_79_2_12_d4, x_68, x_47_I, x_47_A, x_11, x_36, x_4_1, x_60, x_82, cb_ri, cb_rl, cb_rv, cb_th, cb_ite, ps_s, ps_n, u_204_0, u_204_42, ef, Int.reduceEq, Int.reduceLT, Int.reduceLE, reduceIte, Int.reduceAdd, Int.reduceSub, Int.reduceMul, Int.reduceNeg, Int.reduceToNat, Bool.false_eq_true, eq_self, if_pos, if_neg]
  | inr z =>
    obtain ⟨op, q⟩ := z
    rw [hq] at nm
    obtain ⟨a2, n1, n2, nm⟩ := nm
    have hl := pPart_len hb.2 hq
    have ho := pPart_op hb.2 hq
    rw [in_204]
    simp (disch := omega) only [x_6_0, x_79_1_12_d0, x_79_1_12_d1, x_79_1_12_d2, x_79_1_12_d3, x_79_1_12_d4, x_7_1_I, x_7_1_A, x_7_1_U, x_61, x_33, x_1, x_63, x_79_2_12_d0, x_79_2_12_d1, x_79_2_12_d2, x_79_2_12_d3, x_79_2_12_d4, x_68, x_47_I, x_47_A, x_11, x_36, x_4_1, x_60, x_82, cb_ri, cb_rl, cb_rv, cb_th, cb_ite, ps_s, ps_n, u_204_0, u_204_42, nm, Int.reduceEq, Int.reduceLT, Int.reduceLE, reduceIte, Int.reduceAdd, Int.reduceSub, Int.reduceMul, Int.reduceNeg, Int.reduceToNat, Bool.false_eq_true, eq_self, if_pos, if_neg]
    exact sumL_m lv T hf hF hO (e + 1 - q) ([op], fun F => dn F op) q a2 n1 n2 (by omega)
def BRes (r : Option Rs) (x : PR CB2) (F : Nat → Int) (h : Hp) (t : Nat → Int) (e : Nat) (B : Int) : Prop := match x with
  | .inl f => ∃ v z, (v = 0 ∨ v = 1) ∧ (0 ≤ z ∧ z ≤ B) ∧ r = ri v (hset (RZ h z) 198 0 0 (f : Int))
  | .inr (b, q) => ∃ a', a' ≤ e ∧ sk t e a' = q ∧ r = ri (boI (b.2 F)) (RD h a')
theorem mplain_m (lv : Nat) {h : Hp} {t : Nat → Int} {e p : Nat} {F : Nat → Int} (T : TX h t e) (hp : p ≤ e) (hsk : sk t e p = p) (hf : h 198 0 0 = -1) (hF : FC h F) (hO : FZ F) : BRes (cl (lv + 8) 205 [aA 12 0] (RD h p)) (pPlain t e p) F h t e (e : Int) := by
  have w1 := has_m (lv + 2) 12 wLeft T hp rfl (by decide) (by decide)
  have w2 := has_m (lv + 2) 13 wLow T hp rfl (by decide) (by decide)
  have sm := msum_m lv T hp hf hF hO
  rw [hsk] at w1 w2 sm
  have o7 := hO.1
  have o7' := hO.2
  unfold pPlain
  rw [in_205]
  by_cases h1 : isW t e p wLeft = true
  · rw [if_pos h1] at w1 ⊢
    have q := isW_sk hp h1 (by decide)
    refine ⟨wE t e p, q.2, q.1, ?_⟩
    have e1 : RD h (wE t e p) 201 0 0 = F 7 := by rw [RD_o (by omega)]; exact hF.2.1
    by_cases c : F 7 = 0
    · rw [c] at e1
      simp (disch := omega) only [x_6_0, x_3, x_79_2_12_d0, x_79_2_12_d1, x_79_2_12_d2, x_79_2_12_d3, x_79_2_12_d4, x_68, x_33, x_85, x_34, x_1, x_38_200, x_65, x_60, x_61, x_79_1_12_d0, x_79_1_12_d1, x_79_1_12_d2, x_79_1_12_d3, x_79_1_12_d4, x_7_1_I, x_7_1_A, x_7_1_U, x_62, x_7_2_I, x_7_2_A, x_7_2_U, x_4_2, x_69, x_47_I, x_47_A, x_11, x_36, x_7_3_I, x_7_3_A, x_7_3_U, x_4_1, x_4_3, x_67, cb_ri, cb_rl, cb_rv, cb_th, cb_ite, ps_s, ps_n, u_205_0, u_205_14, u_205_38, u_205_39, u_205_40, u_205_55, u_205_85, u_205_113, u_205_117, u_205_126, u_205_127, w1, e1, Int.reduceEq, Int.reduceLT, Int.reduceLE, reduceIte, Int.reduceAdd, Int.reduceSub, Int.reduceMul, Int.reduceNeg, Int.reduceToNat, Bool.false_eq_true, eq_self, if_pos, if_neg]
      simp [boI, c]
    · have c : F 7 = 1 := by omega
      rw [c] at e1
      simp (disch := omega) only [x_6_0, x_3, x_79_2_12_d0, x_79_2_12_d1, x_79_2_12_d2, x_79_2_12_d3, x_79_2_12_d4, x_68, x_33, x_85, x_34, x_1, x_38_200, x_65, x_60, x_61, x_79_1_12_d0, x_79_1_12_d1, x_79_1_12_d2, x_79_1_12_d3, x_79_1_12_d4, x_7_1_I, x_7_1_A, x_7_1_U, x_62, x_7_2_I, x_7_2_A, x_7_2_U, x_4_2, x_69, x_47_I, x_47_A, x_11, x_36, x_7_3_I, x_7_3_A, x_7_3_U, x_4_1, x_4_3, x_67, cb_ri, cb_rl, cb_rv, cb_th, cb_ite, ps_s, ps_n, u_205_0, u_205_14, u_205_38, u_205_39, u_205_40, u_205_55, u_205_85, u_205_113, u_205_117, u_205_126, u_205_127, w1, e1, Int.reduceEq, Int.reduceLT, Int.reduceLE, reduceIte, Int.reduceAdd, Int.reduceSub, Int.reduceMul, Int.reduceNeg, Int.reduceToNat, Bool.false_eq_true, eq_self, if_pos, if_neg]
      simp [boI, c]
  rw [if_neg h1] at w1 ⊢
  by_cases h2 : isW t e p wLow = true
  · rw [if_pos h2] at w2 ⊢
    have q := isW_sk hp h2 (by decide)
    refine ⟨wE t e p, q.2, q.1, ?_⟩
    have e1 : RD h (wE t e p) 200 0 1 = F 1 := by rw [RD_o (by omega)]; exact hF.1 1 (by omega)
    have f8 := hF.2.2
    by_cases c : F 1 < 32
    · rw [if_pos c] at f8
      simp (disch := omega) only [x_6_0, x_3, x_79_2_12_d0, x_79_2_12_d1, x_79_2_12_d2, x_79_2_12_d3, x_79_2_12_d4, x_68, x_33, x_85, x_34, x_1, x_38_200, x_65, x_60, x_61, x_79_1_12_d0, x_79_1_12_d1, x_79_1_12_d2, x_79_1_12_d3, x_79_1_12_d4, x_7_1_I, x_7_1_A, x_7_1_U, x_62, x_7_2_I, x_7_2_A, x_7_2_U, x_4_2, x_69, x_47_I, x_47_A, x_11, x_36, x_7_3_I, x_7_3_A, x_7_3_U, x_4_1, x_4_3, x_67, cb_ri, cb_rl, cb_rv, cb_th, cb_ite, ps_s, ps_n, u_205_0, u_205_14, u_205_38, u_205_39, u_205_40, u_205_55, u_205_85, u_205_113, u_205_117, u_205_126, u_205_127, w1, w2, e1, Int.reduceEq, Int.reduceLT, Int.reduceLE, reduceIte, Int.reduceAdd, Int.reduceSub, Int.reduceMul, Int.reduceNeg, Int.reduceToNat, Bool.false_eq_true, eq_self, if_pos, if_neg]
      simp [boI, ← f8]
    · rw [if_neg c] at f8
      simp (disch := omega) only [x_6_0, x_3, x_79_2_12_d0, x_79_2_12_d1, x_79_2_12_d2, x_79_2_12_d3, x_79_2_12_d4, x_68, x_33, x_85, x_34, x_1, x_38_200, x_65, x_60, x_61, x_79_1_12_d0, x_79_1_12_d1, x_79_1_12_d2, x_79_1_12_d3, x_79_1_12_d4, x_7_1_I, x_7_1_A, x_7_1_U, x_62, x_7_2_I, x_7_2_A, x_7_2_U, x_4_2, x_69, x_47_I, x_47_A, x_11, x_36, x_7_3_I, x_7_3_A, x_7_3_U, x_4_1, x_4_3, x_67, cb_ri, cb_rl, cb_rv, cb_th, cb_ite, ps_s, ps_n, u_205_0, u_205_14, u_205_38, u_205_39, u_205_40, u_205_55, u_205_85, u_205_113, u_205_117, u_205_126, u_205_127, w1, w2, e1, Int.reduceEq, Int.reduceLT, Int.reduceLE, reduceIte, Int.reduceAdd, Int.reduceSub, Int.reduceMul, Int.reduceNeg, Int.reduceToNat, Bool.false_eq_true, eq_self, if_pos, if_neg]
      simp [boI, ← f8]
  rw [if_neg h2] at w2 ⊢
  have l1 := pSum_len (t := t) hp
  cases hs : pSum t e p with
  | inl f =>
    rw [hs] at sm
    obtain ⟨v, a2, hz, sm⟩ := sm
    have ef : hset (RZ h a2) 198 0 0 (f : Int) 198 0 0 = (f : Int) := hs_eq _ _ _ _ _
    refine ⟨0, a2, Or.inl rfl, hz, ?_⟩
    simp (disch := omega) only [x_6_0, x_3, x_79_2_12_d0, x_79_2_12_d1, x_79_2_12_d2, x_79_2_12_d3, x_79_2_12_d4, x_68, x_33, x_85, x_34, x_1, x_38_200, x_65, x_60, x_61, x_79_1_12_d0, x_79_1_12_d1, x_79_1_12_d2, x_79_1_12_d3, x_79_1_12_d4, x_7_1_I, x_7_1_A, x_7_1_U, x_62, x_7_2_I, x_7_2_A, x_7_2_U, x_4_2, x_69, x_47_I, x_47_A, x_11, x_36, x_7_3_I, x_7_3_A, x_7_3_U, x_4_1, x_4_3, x_67, cb_ri, cb_rl, cb_rv, cb_th, cb_ite, ps_s, ps_n, u_205_0, u_205_14, u_205_38, u_205_39, u_205_40, u_205_55, u_205_85, u_205_113, u_205_117, u_205_126, u_205_127, w1, w2, sm, ef, Int.reduceEq, Int.reduceLT, Int.reduceLE, reduceIte, Int.reduceAdd, Int.reduceSub, Int.reduceMul, Int.reduceNeg, Int.reduceToNat, Bool.false_eq_true, eq_self, if_pos, if_neg]
  | inr z =>
    obtain ⟨a, q⟩ := z
    rw [hs] at sm l1
    have l1 : p + a.1.length ≤ q ∧ p < q ∧ q ≤ e := l1
    obtain ⟨a2, n1, n2, sm⟩ := sm
    have hfa : RD h a2 198 0 0 = -1 := by rw [RD_o (by omega)]; exact hf
    have hfq : RD h q 198 0 0 = -1 := by rw [RD_o (by omega)]; exact hf
    have qq : sk t e q = q := by rw [← n2]; exact sk_sk t n1
    have s1 := sign_m (lv + 4) 60 T n1
    have s2 := sign_m (lv + 4) 62 T l1.2.2
    rw [n2] at s1
    rw [qq] at s2
    have e1 := RD_a h q
    have wr := wrong_m (lv + 6) (RD h q) (q : Int) hfq
    have cc : ((q : Int) + 1) = ((q + 1 : Nat) : Int) := by omega
    have st := RD_RD h q (q + 1)
    have te := T.1
    by_cases h3 : isC t e q 60 = true
    · have qs := isC_sk h3 (by decide) (by decide)
      have sn := msum_m lv (a := q + 1) T qs.2 hf hF hO
      rw [qs.1] at sn
      rw [if_pos h3] at s1
      simp only [h3, true_or, if_pos]
      cases hu : pSum t e (nxt t e q) with
      | inl f =>
        rw [hu] at sn
        obtain ⟨v, a3, hz, sn⟩ := sn
        by_cases c : a.2 F < v
        · refine ⟨1, a3, Or.inr rfl, hz, ?_⟩
          simp (disch := omega) only [x_6_0, x_3, x_79_2_12_d0, x_79_2_12_d1, x_79_2_12_d2, x_79_2_12_d3, x_79_2_12_d4, x_68, x_33, x_85, x_34, x_1, x_38_200, x_65, x_60, x_61, x_79_1_12_d0, x_79_1_12_d1, x_79_1_12_d2, x_79_1_12_d3, x_79_1_12_d4, x_7_1_I, x_7_1_A, x_7_1_U, x_62, x_7_2_I, x_7_2_A, x_7_2_U, x_4_2, x_69, x_47_I, x_47_A, x_11, x_36, x_7_3_I, x_7_3_A, x_7_3_U, x_4_1, x_4_3, x_67, cb_ri, cb_rl, cb_rv, cb_th, cb_ite, ps_s, ps_n, u_205_0, u_205_14, u_205_38, u_205_39, u_205_40, u_205_55, u_205_85, u_205_113, u_205_117, u_205_126, u_205_127, w1, w2, sm, hfa, s1, e1, w32_id, cc, st, sn, c, Int.reduceEq, Int.reduceLT, Int.reduceLE, reduceIte, Int.reduceAdd, Int.reduceSub, Int.reduceMul, Int.reduceNeg, Int.reduceToNat, Bool.false_eq_true, eq_self, if_pos, if_neg]
        · refine ⟨0, a3, Or.inl rfl, hz, ?_⟩
          simp (disch := omega) only [x_6_0, x_3, x_79_2_12_d0, x_79_2_12_d1, x_79_2_12_d2, x_79_2_12_d3, x_79_2_12_d4, x_68, x_33, x_85, x_34, x_1, x_38_200, x_65, x_60, x_61, x_79_1_12_d0, x_79_1_12_d1, x_79_1_12_d2, x_79_1_12_d3, x_79_1_12_d4, x_7_1_I, x_7_1_A, x_7_1_U, x_62, x_7_2_I, x_7_2_A, x_7_2_U, x_4_2, x_69, x_47_I, x_47_A, x_11, x_36, x_7_3_I, x_7_3_A, x_7_3_U, x_4_1, x_4_3, x_67, cb_ri, cb_rl, cb_rv, cb_th, cb_ite, ps_s, ps_n, u_205_0, u_205_14, u_205_38, u_205_39, u_205_40, u_205_55, u_205_85, u_205_113, u_205_117, u_205_126, u_205_127, w1, w2, sm, hfa, s1, e1, w32_id, cc, st, sn, c, Int.reduceEq, Int.reduceLT, Int.reduceLE, reduceIte, Int.reduceAdd, Int.reduceSub, Int.reduceMul, Int.reduceNeg, Int.reduceToNat, Bool.false_eq_true, eq_self, if_pos, if_neg]
      | inr y =>
        obtain ⟨b, r⟩ := y
        rw [hu] at sn
        obtain ⟨a3, m1, m2, sn⟩ := sn
        refine ⟨a3, m1, m2, ?_⟩
        by_cases c : a.2 F < b.2 F
        · simp (disch := omega) only [x_6_0, x_3, x_79_2_12_d0, x_79_2_12_d1, x_79_2_12_d2, x_79_2_12_d3, x_79_2_12_d4, x_68, x_33, x_85, x_34, x_1, x_38_200, x_65, x_60, x_61, x_79_1_12_d0, x_79_1_12_d1, x_79_1_12_d2, x_79_1_12_d3, x_79_1_12_d4, x_7_1_I, x_7_1_A, x_7_1_U, x_62, x_7_2_I, x_7_2_A, x_7_2_U, x_4_2, x_69, x_47_I, x_47_A, x_11, x_36, x_7_3_I, x_7_3_A, x_7_3_U, x_4_1, x_4_3, x_67, cb_ri, cb_rl, cb_rv, cb_th, cb_ite, ps_s, ps_n, u_205_0, u_205_14, u_205_38, u_205_39, u_205_40, u_205_55, u_205_85, u_205_113, u_205_117, u_205_126, u_205_127, w1, w2, sm, hfa, s1, e1, w32_id, cc, st, sn, c, Int.reduceEq, Int.reduceLT, Int.reduceLE, reduceIte, Int.reduceAdd, Int.reduceSub, Int.reduceMul, Int.reduceNeg, Int.reduceToNat, Bool.false_eq_true, eq_self, if_pos, if_neg]
          simp [boI]
        · simp (disch := omega) only [x_6_0, x_3, x_79_2_12_d0, x_79_2_12_d1, x_79_2_12_d2, x_79_2_12_d3, x_79_2_12_d4, x_68, x_33, x_85, x_34, x_1, x_38_200, x_65, x_60, x_61, x_79_1_12_d0, x_79_1_12_d1, x_79_1_12_d2, x_79_1_12_d3, x_79_1_12_d4, x_7_1_I, x_7_1_A, x_7_1_U, x_62, x_7_2_I, x_7_2_A, x_7_2_U, x_4_2, x_69, x_47_I, x_47_A, x_11, x_36, x_7_3_I, x_7_3_A, x_7_3_U, x_4_1, x_4_3, x_67, cb_ri, cb_rl, cb_rv, cb_th, cb_ite, ps_s, ps_n, u_205_0, u_205_14, u_205_38, u_205_39, u_205_40, u_205_55, u_205_85, u_205_113, u_205_117, u_205_126, u_205_127, w1, w2, sm, hfa, s1, e1, w32_id, cc, st, sn, c, Int.reduceEq, Int.reduceLT, Int.reduceLE, reduceIte, Int.reduceAdd, Int.reduceSub, Int.reduceMul, Int.reduceNeg, Int.reduceToNat, Bool.false_eq_true, eq_self, if_pos, if_neg]
          simp [boI]
    · rw [if_neg h3] at s1
      by_cases h4 : isC t e q 62 = true
      · have qs := isC_sk h4 (by decide) (by decide)
        have sn := msum_m lv (a := q + 1) T qs.2 hf hF hO
        rw [qs.1] at sn
        rw [if_pos h4] at s2
        simp only [h3, h4, or_true, if_pos, Bool.false_eq_true, if_false]
        cases hu : pSum t e (nxt t e q) with
        | inl f =>
          rw [hu] at sn
          obtain ⟨v, a3, hz, sn⟩ := sn
          by_cases c : v < a.2 F
          · refine ⟨1, a3, Or.inr rfl, hz, ?_⟩
            simp (disch := omega) only [x_6_0, x_3, x_79_2_12_d0, x_79_2_12_d1, x_79_2_12_d2, x_79_2_12_d3, x_79_2_12_d4, x_68, x_33, x_85, x_34, x_1, x_38_200, x_65, x_60, x_61, x_79_1_12_d0, x_79_1_12_d1, x_79_1_12_d2, x_79_1_12_d3, x_79_1_12_d4, x_7_1_I, x_7_1_A, x_7_1_U, x_62, x_7_2_I, x_7_2_A, x_7_2_U, x_4_2, x_69, x_47_I, x_47_A, x_11, x_36, x_7_3_I, x_7_3_A, x_7_3_U, x_4_1, x_4_3, x_67, cb_ri, cb_rl, cb_rv, cb_th, cb_ite, ps_s, ps_n, u_205_0, u_205_14, u_205_38, u_205_39, u_205_40, u_205_55, u_205_85, u_205_113, u_205_117, u_205_126, u_205_127, w1, w2, sm, hfa, s1, s2, e1, w32_id, cc, st, sn, Int.reduceEq, Int.reduceLT, Int.reduceLE, reduceIte, Int.reduceAdd, Int.reduceSub, Int.reduceMul, Int.reduceNeg, Int.reduceToNat, Bool.false_eq_true, eq_self, if_pos, if_neg]
          · refine ⟨0, a3, Or.inl rfl, hz, ?_⟩
            simp (disch := omega) only [x_6_0, x_3, x_79_2_12_d0, x_79_2_12_d1, x_79_2_12_d2, x_79_2_12_d3, x_79_2_12_d4, x_68, x_33, x_85, x_34, x_1, x_38_200, x_65, x_60, x_61, x_79_1_12_d0, x_79_1_12_d1, x_79_1_12_d2, x_79_1_12_d3, x_79_1_12_d4, x_7_1_I, x_7_1_A, x_7_1_U, x_62, x_7_2_I, x_7_2_A, x_7_2_U, x_4_2, x_69, x_47_I, x_47_A, x_11, x_36, x_7_3_I, x_7_3_A, x_7_3_U, x_4_1, x_4_3, x_67, cb_ri, cb_rl, cb_rv, cb_th, cb_ite, ps_s, ps_n, u_205_0, u_205_14, u_205_38, u_205_39, u_205_40, u_205_55, u_205_85, u_205_113, u_205_117, u_205_126, u_205_127, w1, w2, sm, hfa, s1, s2, e1, w32_id, cc, st, sn, Int.reduceEq, Int.reduceLT, Int.reduceLE, reduceIte, Int.reduceAdd, Int.reduceSub, Int.reduceMul, Int.reduceNeg, Int.reduceToNat, Bool.false_eq_true, eq_self, if_pos, if_neg]
        | inr y =>
          obtain ⟨b, r⟩ := y
          rw [hu] at sn
          obtain ⟨a3, m1, m2, sn⟩ := sn
          refine ⟨a3, m1, m2, ?_⟩
          by_cases c : b.2 F < a.2 F
          · simp (disch := omega) only [x_6_0, x_3, x_79_2_12_d0, x_79_2_12_d1, x_79_2_12_d2, x_79_2_12_d3, x_79_2_12_d4, x_68, x_33, x_85, x_34, x_1, x_38_200, x_65, x_60, x_61, x_79_1_12_d0, x_79_1_12_d1, x_79_1_12_d2, x_79_1_12_d3, x_79_1_12_d4, x_7_1_I, x_7_1_A, x_7_1_U, x_62, x_7_2_I, x_7_2_A, x_7_2_U, x_4_2, x_69, x_47_I, x_47_A, x_11, x_36, x_7_3_I, x_7_3_A, x_7_3_U, x_4_1, x_4_3, x_67, cb_ri, cb_rl, cb_rv, cb_th, cb_ite, ps_s, ps_n, u_205_0, u_205_14, u_205_38, u_205_39, u_205_40, u_205_55, u_205_85, u_205_113, u_205_117, u_205_126, u_205_127, w1, w2, sm, hfa, s1, s2, e1, w32_id, cc, st, sn, Int.reduceEq, Int.reduceLT, Int.reduceLE, reduceIte, Int.reduceAdd, Int.reduceSub, Int.reduceMul, Int.reduceNeg, Int.reduceToNat, Bool.false_eq_true, eq_self, if_pos, if_neg]
            simp [boI, c]
          · simp (disch := omega) only [x_6_0, x_3, x_79_2_12_d0, x_79_2_12_d1, x_79_2_12_d2, x_79_2_12_d3, x_79_2_12_d4, x_68, x_33, x_85, x_34, x_1, x_38_200, x_65, x_60, x_61, x_79_1_12_d0, x_79_1_12_d1, x_79_1_12_d2, x_79_1_12_d3, x_79_1_12_d4, x_7_1_I, x_7_1_A, x_7_1_U, x_62, x_7_2_I, x_7_2_A, x_7_2_U, x_4_2, x_69, x_47_I, x_47_A, x_11, x_36, x_7_3_I, x_7_3_A, x_7_3_U, x_4_1, x_4_3, x_67, cb_ri, cb_rl, cb_rv, cb_th, cb_ite, ps_s, ps_n, u_205_0, u_205_14, u_205_38, u_205_39, u_205_40, u_205_55, u_205_85, u_205_113, u_205_117, u_205_126, u_205_127, w1, w2, sm, hfa, s1, s2, e1, w32_id, cc, st, sn, Int.reduceEq, Int.reduceLT, Int.reduceLE, reduceIte, Int.reduceAdd, Int.reduceSub, Int.reduceMul, Int.reduceNeg, Int.reduceToNat, Bool.false_eq_true, eq_self, if_pos, if_neg]
            simp [boI, c]
      · rw [if_neg h4] at s2
        have h5 : ¬ (isC t e q 60 = true ∨ isC t e q 62 = true) := by rintro (z | z); exact h3 z; exact h4 z
        simp only [h5, if_false]
        refine ⟨0, (q : Int), Or.inl rfl, by omega, ?_⟩
        show _ = ri _ (hset (RD h q) 198 0 0 _)
        simp (disch := omega) only [x_6_0, x_3, x_79_2_12_d0, x_79_2_12_d1, x_79_2_12_d2, x_79_2_12_d3, x_79_2_12_d4, x_68, x_33, x_85, x_34, x_1, x_38_200, x_65, x_60, x_61, x_79_1_12_d0, x_79_1_12_d1, x_79_1_12_d2, x_79_1_12_d3, x_79_1_12_d4, x_7_1_I, x_7_1_A, x_7_1_U, x_62, x_7_2_I, x_7_2_A, x_7_2_U, x_4_2, x_69, x_47_I, x_47_A, x_11, x_36, x_7_3_I, x_7_3_A, x_7_3_U, x_4_1, x_4_3, x_67, cb_ri, cb_rl, cb_rv, cb_th, cb_ite, ps_s, ps_n, u_205_0, u_205_14, u_205_38, u_205_39, u_205_40, u_205_55, u_205_85, u_205_113, u_205_117, u_205_126, u_205_127, w1, w2, sm, hfa, s1, s2, e1, wr, Int.reduceEq, Int.reduceLT, Int.reduceLE, reduceIte, Int.reduceAdd, Int.reduceSub, Int.reduceMul, Int.reduceNeg, Int.reduceToNat, Bool.false_eq_true, eq_self, if_pos, if_neg]
