/-! THE REFERENCE READS A PIECE. -/
theorem figs_p (lv : Nat) {h : Hp} {t : Nat → Int} {e a : Nat} (hi : Int) (T : TX h t e) (ha : a ≤ e) (hf : h 198 0 0 = -1) : match pNum t e (sk t e a) hi with
    | .inl f => ∃ x z, (0 ≤ z ∧ z ≤ (e : Int)) ∧ cl (lv + 4) 191 [aA 12 0, aI 0, aI hi] (RD h a) = ri x (hset (RZ h z) 198 0 0 (f : Int))
    | .inr (v, q) => ∃ a', a' ≤ e ∧ sk t e a' = q ∧ cl (lv + 4) 191 [aA 12 0, aI 0, aI hi] (RD h a) = ri v (RD h a') := by
  have fg := figs_m lv 0 hi T ha hf
  have hb := sk_b t ha
  generalize sk t e a = p at fg hb
  unfold pNum
  by_cases c : (p < dE t e p ∧ dE t e p ≤ p + 3) ∧ nv t p (dE t e p - p) ≤ hi
  · have hv := nu_b (t := t) hb.2 c.1.1 c.1.2
    rw [if_pos ⟨c.1, hv.1, c.2⟩] at fg
    rw [if_pos c]
    have q := isD_sk hb.2 c.1.1
    exact ⟨dE t e p, q.2.1, q.1, fg⟩
  · rw [if_neg (fun z => c ⟨z.1, z.2.2⟩)] at fg
    rw [if_neg c]
    exact fg
theorem figs_f (lv : Nat) (lo hi : Int) (g : Hp) (hf : ¬ g 198 0 0 = -1) : cl (lv + 1) 191 [aA 12 0, aI lo, aI hi] g = ri 0 g := by
  rw [in_191]
  simp (disch := omega) only [x_6_0, x_33, x_1, x_62, x_82, x_79_1_12_d0, x_79_1_12_d1, x_79_1_12_d2, x_79_1_12_d3, x_79_1_12_d4, x_7_3_I, x_7_3_A, x_7_3_U, x_7_4_I, x_7_4_A, x_7_4_U, x_61, x_65, x_79_2_12_d0, x_79_2_12_d1, x_79_2_12_d2, x_79_2_12_d3, x_79_2_12_d4, x_80_3_d0, x_80_3_d1, x_80_3_d2, x_80_3_d3, x_80_3_d4, x_68, x_4_3, x_12, x_66, x_4_4, x_13, x_11, x_47_I, x_47_A, x_36, x_60, x_4_1, x_64, x_4_2, x_67, cb_ri, cb_rl, cb_rv, cb_th, cb_ite, ps_s, ps_n, u_191_0, u_191_10, u_191_89, u_191_119, u_191_124, hf, Int.reduceEq, Int.reduceLT, Int.reduceLE, reduceIte, Int.reduceAdd, Int.reduceSub, Int.reduceMul, Int.reduceNeg, Int.reduceToNat, Bool.false_eq_true, eq_self, if_pos, if_neg]
theorem after_f (lv s : Nat) (lo hi : Int) (g : Hp) (hf : ¬ g 198 0 0 = -1) : cl (lv + 2) 192 [aA 12 0, aA 20 s, aI lo, aI hi] g = ri 0 g := by
  have fg := figs_f lv lo hi g hf
  rw [in_192]
  simp (disch := omega) only [x_6_0, x_33, x_1, x_63, x_6_1, x_79_2_12_d0, x_79_2_12_d1, x_79_2_12_d2, x_79_2_12_d3, x_79_2_12_d4, x_69, x_61, x_4_2, x_4_3, x_79_3_12_d0, x_79_3_12_d1, x_79_3_12_d2, x_79_3_12_d3, x_79_3_12_d4, x_82, cb_ri, cb_rl, cb_rv, cb_th, cb_ite, ps_s, ps_n, u_192_0, u_192_24, hf, fg, Int.reduceEq, Int.reduceLT, Int.reduceLE, reduceIte, Int.reduceAdd, Int.reduceSub, Int.reduceMul, Int.reduceNeg, Int.reduceToNat, Bool.false_eq_true, eq_self, if_pos, if_neg]
theorem after_m (lv s : Nat) (w : List Int) {h : Hp} {t : Nat → Int} {e a : Nat} (hi : Int) (T : TX h t e) (ha : a ≤ e) (hf : h 198 0 0 = -1) (hw : sTxt.getD s [] = w) (hs : s < 46) (hl : 1 ≤ w.length ∧ w.length ≤ 20) : match pAft t e w hi (sk t e a) with
    | .inl f => ∃ x z, (0 ≤ z ∧ z ≤ (e : Int)) ∧ cl (lv + 6) 192 [aA 12 0, aA 20 s, aI 0, aI hi] (RD h a) = ri x (hset (RZ h z) 198 0 0 (f : Int))
    | .inr (v, q) => ∃ a', a' ≤ e ∧ sk t e a' = q ∧ cl (lv + 6) 192 [aA 12 0, aA 20 s, aI 0, aI hi] (RD h a) = ri v (RD h a') := by
  have hs1 := has_m lv s w T ha hw hs hl
  have hb := sk_b t ha
  have hfa : ∀ x, RD h x 198 0 0 = -1 := fun x => by rw [RD_o (by omega)]; exact hf
  have f0 := hfa a
  generalize sk t e a = p at hs1 hb
  unfold pAft
  rw [in_192]
  by_cases c : isW t e p w = true
  · rw [if_pos c] at hs1 ⊢
    have q := isW_sk hb.2 c hl.1
    have fg := figs_p (lv + 1) (a := wE t e p) hi T q.2 hf
    rw [q.1] at fg
    cases x : pNum t e (nxt t e p) hi with
    | inl f =>
      rw [x] at fg
      obtain ⟨v, z, hz, fg⟩ := fg
      refine ⟨v, z, hz, ?_⟩
      simp (disch := omega) only [x_6_0, x_33, x_1, x_63, x_6_1, x_79_2_12_d0, x_79_2_12_d1, x_79_2_12_d2, x_79_2_12_d3, x_79_2_12_d4, x_69, x_61, x_4_2, x_4_3, x_79_3_12_d0, x_79_3_12_d1, x_79_3_12_d2, x_79_3_12_d3, x_79_3_12_d4, x_82, cb_ri, cb_rl, cb_rv, cb_th, cb_ite, ps_s, ps_n, u_192_0, u_192_24, f0, hs1, fg, Int.reduceEq, Int.reduceLT, Int.reduceLE, reduceIte, Int.reduceAdd, Int.reduceSub, Int.reduceMul, Int.reduceNeg, Int.reduceToNat, Bool.false_eq_true, eq_self, if_pos, if_neg]
    | inr y =>
      obtain ⟨v, r⟩ := y
      rw [x] at fg
      obtain ⟨a', g1, g2, fg⟩ := fg
      refine ⟨a', g1, g2, ?_⟩
      simp (disch := omega) only [x_6_0, x_33, x_1, x_63, x_6_1, x_79_2_12_d0, x_79_2_12_d1, x_79_2_12_d2, x_79_2_12_d3, x_79_2_12_d4, x_69, x_61, x_4_2, x_4_3, x_79_3_12_d0, x_79_3_12_d1, x_79_3_12_d2, x_79_3_12_d3, x_79_3_12_d4, x_82, cb_ri, cb_rl, cb_rv, cb_th, cb_ite, ps_s, ps_n, u_192_0, u_192_24, f0, hs1, fg, Int.reduceEq, Int.reduceLT, Int.reduceLE, reduceIte, Int.reduceAdd, Int.reduceSub, Int.reduceMul, Int.reduceNeg, Int.reduceToNat, Bool.false_eq_true, eq_self, if_pos, if_neg]
  · rw [if_neg c] at hs1 ⊢
    have e1 := RD_a h p
    have wr := wrong_m (lv + 4) (RD h p) (p : Int) (hfa p)
    have fg := figs_f (lv + 4) 0 hi (hset (RD h p) 198 0 0 (p : Int)) (by rw [hs_eq]; omega)
    refine ⟨0, (p : Int), by omega, ?_⟩
    show _ = ri 0 (hset (RD h p) 198 0 0 (p : Int))
    simp (disch := omega) only [x_6_0, x_33, x_1, x_63, x_6_1, x_79_2_12_d0, x_79_2_12_d1, x_79_2_12_d2, x_79_2_12_d3, x_79_2_12_d4, x_69, x_61, x_4_2, x_4_3, x_79_3_12_d0, x_79_3_12_d1, x_79_3_12_d2, x_79_3_12_d3, x_79_3_12_d4, x_82, cb_ri, cb_rl, cb_rv, cb_th, cb_ite, ps_s, ps_n, u_192_0, u_192_24, f0, hs1, e1, wr, fg, Int.reduceEq, Int.reduceLT, Int.reduceLE, reduceIte, Int.reduceAdd, Int.reduceSub, Int.reduceMul, Int.reduceNeg, Int.reduceToNat, Bool.false_eq_true, eq_self, if_pos, if_neg]
/-- what a line makes of the memory -/
def MpR (r : Option Rs) (x : PR PcS) (h : Hp) (t : Nat → Int) (e : Nat) : Prop := match x with
  | .inl f => ∃ z, (0 ≤ z ∧ z ≤ (e : Int)) ∧ r = rv (hset (RZ h z) 198 0 0 (f : Int))
  | .inr (S, q) => ∃ a h', a ≤ e ∧ sk t e a = q ∧ r = rv (RD h' a) ∧ h' 187 0 = S.1 ∧ ∀ tt k j, ¬ (tt = 187 ∧ k = 0) → h' tt k j = h tt k j
theorem RD_hs {h : Hp} {a j : Nat} {v : Int} : hset (RD h a) 187 0 j v = RD (hset h 187 0 j v) a := by
  unfold RD RZ
  funext tt k i
  by_cases c : tt = 187 ∧ k = 0 ∧ i = j
  · obtain ⟨rfl, rfl, rfl⟩ := c; rw [hs_eq, hs_t (by omega), hs_eq]
  · rw [hs_o c]
    by_cases c2 : tt = 197 ∧ k = 0 ∧ i = 0
    · obtain ⟨rfl, rfl, rfl⟩ := c2; rw [hs_eq, hs_eq]
    · rw [hs_o c2, hs_o c2, hs_o c]
theorem tells_m (lv j : Nat) {h : Hp} {t : Nat → Int} {e a p : Nat} (hi : Int) (S : PcS) (T : TX h t e) (ha : a ≤ e) (hp : sk t e a = nxt t e p) (hf : h 198 0 0 = -1) (hm : h 187 0 = S.1) (hj : j < 346) : MpR (cl (lv + 5) 196 [aA 12 0, aI (j : Int), aI 0, aI hi] (RD h a)) (pcTell t e S j hi p) h t e := by
  have fg := figs_p lv hi T ha hf
  rw [hp] at fg
  have hfa : ∀ x, RD h x 198 0 0 = -1 := fun x => by rw [RD_o (by omega)]; exact hf
  unfold pcTell
  rw [in_196]
  cases x : pNum t e (nxt t e p) hi with
  | inl f =>
    rw [x] at fg
    obtain ⟨v, z, hz, fg⟩ := fg
    have ef : hset (RZ h z) 198 0 0 (f : Int) 198 0 0 = (f : Int) := hs_eq _ _ _ _ _
    refine ⟨z, hz, ?_⟩
    simp (disch := omega) only [x_6_0, x_4_2, x_4_3, x_79_3_12_d0, x_79_3_12_d1, x_79_3_12_d2, x_79_3_12_d3, x_79_3_12_d4, x_7_4_I, x_7_4_A, x_7_4_U, x_33, x_1, x_63, x_34, x_4_1, x_4_4, x_39_187, x_61, x_83, cb_ri, cb_rl, cb_rv, cb_th, cb_ite, ps_s, ps_n, u_196_0, u_196_24, fg, ef, Int.reduceEq, Int.reduceLT, Int.reduceLE, reduceIte, Int.reduceAdd, Int.reduceSub, Int.reduceMul, Int.reduceNeg, Int.reduceToNat, Bool.false_eq_true, eq_self, if_pos, if_neg]
  | inr y =>
    obtain ⟨v, r⟩ := y
    rw [x] at fg
    obtain ⟨a', g1, g2, fg⟩ := fg
    have f1 := hfa a'
    refine ⟨a', hset h 187 0 j v, g1, g2, ?_, by rw [hs_187, hm], fun tt k i hn => hs_o (by omega)⟩
    rw [← RD_hs]
    simp (disch := omega) only [x_6_0, x_4_2, x_4_3, x_79_3_12_d0, x_79_3_12_d1, x_79_3_12_d2, x_79_3_12_d3, x_79_3_12_d4, x_7_4_I, x_7_4_A, x_7_4_U, x_33, x_1, x_63, x_34, x_4_1, x_4_4, x_39_187, x_61, x_83, cb_ri, cb_rl, cb_rv, cb_th, cb_ite, ps_s, ps_n, u_196_0, u_196_24, fg, f1, tn, Int.reduceEq, Int.reduceLT, Int.reduceLE, reduceIte, Int.reduceAdd, Int.reduceSub, Int.reduceMul, Int.reduceNeg, Int.reduceToNat, Bool.false_eq_true, eq_self, if_pos, if_neg]
