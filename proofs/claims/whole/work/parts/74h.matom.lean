theorem RD_9 (h : Hp) (a : Nat) (v : Int) : hset (RD h a) 199 0 0 v = RD (hset h 199 0 0 v) a := by
  funext tt k i
  unfold RD RZ hset
  by_cases c1 : tt = 197 ∧ k = 0 ∧ i = 0
  · simp [c1]
  · simp [c1]
theorem RD_99 (h : Hp) (a : Nat) (v w : Int) (hw : h 199 0 0 = w) : hset (RD (hset h 199 0 0 v) a) 199 0 0 w = RD h a := by
  funext tt k i
  unfold RD RZ hset
  by_cases c1 : tt = 199 ∧ k = 0 ∧ i = 0
  · simp [c1, hw]
  · simp [c1]
theorem RZ_98 (h : Hp) (z v w f : Int) (hw : h 199 0 0 = w) : hset (hset (RZ (hset h 199 0 0 v) z) 198 0 0 f) 199 0 0 w = hset (RZ h z) 198 0 0 f := by
  funext tt k i
  unfold RZ hset
  by_cases c1 : tt = 199 ∧ k = 0 ∧ i = 0
  · simp [c1, hw]
  · simp [c1]
theorem hs_RZ (h : Hp) (z f y : Int) : hset (hset (RZ h z) 198 0 0 f) 197 0 0 y = hset (RZ h y) 198 0 0 f := by
  funext tt k i
  unfold RZ hset
  by_cases c1 : tt = 197 ∧ k = 0 ∧ i = 0
  · simp [c1]
  · simp [c1]
theorem TX_9 {h : Hp} {t : Nat → Int} {e : Nat} (T : TX h t e) (v : Int) : TX (hset h 199 0 0 v) t e := by
  obtain ⟨t1, t2, t3⟩ := T
  refine ⟨t1, by rw [hs_o (by omega)]; exact t2, ?_⟩
  rcases t3 with ⟨u, w⟩ | ⟨u, w⟩
  · left; exact ⟨by rw [hs_o (by omega)]; exact u, fun i hi => by rw [hs_o (by omega)]; exact w i hi⟩
  · right; exact ⟨by rw [hs_o (by omega)]; exact u, fun i hi => by rw [hs_o (by omega)]; exact w i hi⟩
theorem FC_9 {h : Hp} {F : Nat → Int} (hF : FC h F) (v : Int) : FC (hset h 199 0 0 v) F := ⟨fun i hi => by rw [hs_o (by omega)]; exact hF.1 i hi, by rw [hs_o (by omega)]; exact hF.2.1, hF.2.2⟩
theorem matom_m {t : Nat → Int} {e : Nat} {F : Nat → Int} (hO : FZ F) : ∀ (d lv : Nat) (D : Int) (h : Hp), TX h t e → h 198 0 0 = -1 → FC h F → h 199 0 0 = D → D = 6 - (d : Int) → d ≤ 6 → ∀ a, a ≤ e → BRes (cl (lv + 3 * d + 9) 206 [aA 12 0] (RD h a)) (pAtom t e d (sk t e a)) F h t e ((e : Int) + (d : Int)) := by
  intro d
  induction d with
  | zero =>
    intro lv D h T hf hF hD hDD hd a ha
    have te := T.1
    have hb := sk_b t ha
    have hss := sk_sk t ha
    have hr := here_m (lv + 5) T ha
    have hfa : ∀ x, RD h x 198 0 0 = -1 := fun x => by rw [RD_o (by omega)]; exact hf
    have hda : ∀ x, RD h x 199 0 0 = 6 := fun x => by rw [RD_o (by omega), hD]; omega
    generalize sk t e a = p at hr hb hss
    have w := has_m (lv + 3) 25 wNot T hb.2 rfl (by decide) (by decide)
    have s := sign_m (lv + 5) 40 T hb.2
    rw [hss] at w s
    unfold pAtom
    rw [show lv + 3 * 0 + 9 = lv + 8 + 1 from rfl, in_206]
    have f1 := hfa a
    by_cases h1 : isW t e p wNot = true
    · rw [if_pos h1] at w
      simp only [h1, true_or, if_pos]
      have wr := wrong_m (lv + 7) (RD h (wE t e p)) (p : Int) (hfa _)
      have dd := hda (wE t e p)
      refine ⟨0, ((wE t e p : Nat) : Int), Or.inl rfl, by have := (wE_b t hb.2).2; omega, ?_⟩
      show _ = ri _ (hset (RD h (wE t e p)) 198 0 0 _)
      simp (disch := omega) only [x_6_0, x_33, x_1, x_62, x_85, x_79_1_12_d0, x_79_1_12_d1, x_79_1_12_d2, x_79_1_12_d3, x_79_1_12_d4, x_7_1_I, x_7_1_A, x_7_1_U, x_3, x_79_2_12_d0, x_79_2_12_d1, x_79_2_12_d2, x_79_2_12_d3, x_79_2_12_d4, x_7_2_I, x_7_2_A, x_7_2_U, x_4_2, x_69, x_63, x_4_1, x_47_I, x_47_A, x_11, x_36, x_7_3_I, x_7_3_A, x_7_3_U, x_68, x_60, x_61, x_12, x_4_3, cb_ri, cb_rl, cb_rv, cb_th, cb_ite, ps_s, ps_n, u_206_0, u_206_10, u_206_40, u_206_56, u_206_83, u_206_84, u_206_88, u_206_128, u_206_138, f1, hr, w, wr, dd, Int.reduceEq, Int.reduceLT, Int.reduceLE, reduceIte, Int.reduceAdd, Int.reduceSub, Int.reduceMul, Int.reduceNeg, Int.reduceToNat, Bool.false_eq_true, eq_self, if_pos, if_neg]
    · rw [if_neg h1] at w
      by_cases h2 : isC t e p 40 = true
      · rw [if_pos h2] at s
        simp only [h2, or_true, if_pos]
        have wr := wrong_m (lv + 7) (RD h p) (p : Int) (hfa _)
        have dd := hda p
        refine ⟨0, (p : Int), Or.inl rfl, by omega, ?_⟩
        show _ = ri _ (hset (RD h p) 198 0 0 _)
        simp (disch := omega) only [x_6_0, x_33, x_1, x_62, x_85, x_79_1_12_d0, x_79_1_12_d1, x_79_1_12_d2, x_79_1_12_d3, x_79_1_12_d4, x_7_1_I, x_7_1_A, x_7_1_U, x_3, x_79_2_12_d0, x_79_2_12_d1, x_79_2_12_d2, x_79_2_12_d3, x_79_2_12_d4, x_7_2_I, x_7_2_A, x_7_2_U, x_4_2, x_69, x_63, x_4_1, x_47_I, x_47_A, x_11, x_36, x_7_3_I, x_7_3_A, x_7_3_U, x_68, x_60, x_61, x_12, x_4_3, cb_ri, cb_rl, cb_rv, cb_th, cb_ite, ps_s, ps_n, u_206_0, u_206_10, u_206_40, u_206_56, u_206_83, u_206_84, u_206_88, u_206_128, u_206_138, f1, hr, w, s, wr, dd, Int.reduceEq, Int.reduceLT, Int.reduceLE, reduceIte, Int.reduceAdd, Int.reduceSub, Int.reduceMul, Int.reduceNeg, Int.reduceToNat, Bool.false_eq_true, eq_self, if_pos, if_neg]
      · rw [if_neg h2] at s
        have h3 : ¬ (isW t e p wNot = true ∨ isC t e p 40 = true) := by rintro (z | z); exact h1 z; exact h2 z
        rw [if_neg h3]
        have pl := mplain_m lv T hb.2 hss hf hF hO
        cases hq : pPlain t e p with
        | inl f =>
          rw [hq] at pl
          obtain ⟨v, a2, hv, hz, pl⟩ := pl
          refine ⟨v, a2, hv, by omega, ?_⟩
          simp (disch := omega) only [x_6_0, x_33, x_1, x_62, x_85, x_79_1_12_d0, x_79_1_12_d1, x_79_1_12_d2, x_79_1_12_d3, x_79_1_12_d4, x_7_1_I, x_7_1_A, x_7_1_U, x_3, x_79_2_12_d0, x_79_2_12_d1, x_79_2_12_d2, x_79_2_12_d3, x_79_2_12_d4, x_7_2_I, x_7_2_A, x_7_2_U, x_4_2, x_69, x_63, x_4_1, x_47_I, x_47_A, x_11, x_36, x_7_3_I, x_7_3_A, x_7_3_U, x_68, x_60, x_61, x_12, x_4_3, cb_ri, cb_rl, cb_rv, cb_th, cb_ite, ps_s, ps_n, u_206_0, u_206_10, u_206_40, u_206_56, u_206_83, u_206_84, u_206_88, u_206_128, u_206_138, f1, hr, w, s, pl, Int.reduceEq, Int.reduceLT, Int.reduceLE, reduceIte, Int.reduceAdd, Int.reduceSub, Int.reduceMul, Int.reduceNeg, Int.reduceToNat, Bool.false_eq_true, eq_self, if_pos, if_neg]
        | inr z =>
          obtain ⟨b, q⟩ := z
          rw [hq] at pl
          obtain ⟨a2, n1, n2, pl⟩ := pl
          refine ⟨a2, n1, n2, ?_⟩
          have := boI_b (b.2 F)
          simp (disch := omega) only [x_6_0, x_33, x_1, x_62, x_85, x_79_1_12_d0, x_79_1_12_d1, x_79_1_12_d2, x_79_1_12_d3, x_79_1_12_d4, x_7_1_I, x_7_1_A, x_7_1_U, x_3, x_79_2_12_d0, x_79_2_12_d1, x_79_2_12_d2, x_79_2_12_d3, x_79_2_12_d4, x_7_2_I, x_7_2_A, x_7_2_U, x_4_2, x_69, x_63, x_4_1, x_47_I, x_47_A, x_11, x_36, x_7_3_I, x_7_3_A, x_7_3_U, x_68, x_60, x_61, x_12, x_4_3, cb_ri, cb_rl, cb_rv, cb_th, cb_ite, ps_s, ps_n, u_206_0, u_206_10, u_206_40, u_206_56, u_206_83, u_206_84, u_206_88, u_206_128, u_206_138, f1, hr, w, s, pl, Int.reduceEq, Int.reduceLT, Int.reduceLE, reduceIte, Int.reduceAdd, Int.reduceSub, Int.reduceMul, Int.reduceNeg, Int.reduceToNat, Bool.false_eq_true, eq_self, if_pos, if_neg]
  | succ d ih =>
    intro lv D h T hf hF hD hDD hd a ha
    have te := T.1
    have hb := sk_b t ha
    have hss := sk_sk t ha
    have hr := here_m (lv + 3 * d + 8) T ha
    have hfa : ∀ x, RD h x 198 0 0 = -1 := fun x => by rw [RD_o (by omega)]; exact hf
    have hda : ∀ x, RD h x 199 0 0 = D := fun x => by rw [RD_o (by omega), hD]
    have T' := TX_9 T (D + 1)
    have hf' : hset h 199 0 0 (D + 1) 198 0 0 = -1 := by rw [hs_o (by omega)]; exact hf
    have hF' := FC_9 hF (D + 1)
    have hD' : hset h 199 0 0 (D + 1) 199 0 0 = D + 1 := hs_eq _ _ _ _ _
    have hd9 : ∀ x, RD (hset h 199 0 0 (D + 1)) x 199 0 0 = D + 1 := fun x => by rw [RD_o (by omega), hD']
    have hf9 : ∀ x, RD (hset h 199 0 0 (D + 1)) x 198 0 0 = -1 := fun x => by rw [RD_o (by omega)]; exact hf'
    have r9 := fun x => RD_9 h x (D + 1)
    have r99 := fun x => RD_99 h x (D + 1) D hD
    have r98 := fun x f => RZ_98 h x (D + 1) D f hD
    have dsub : D + 1 - 1 = D := by omega
    generalize sk t e a = p at hr hb hss
    have w := has_m (lv + 3 * d + 6) 25 wNot T hb.2 rfl (by decide) (by decide)
    have s := sign_m (lv + 3 * d + 8) 40 T hb.2
    rw [hss] at w s
    unfold pAtom
    rw [show lv + 3 * (d + 1) + 9 = lv + 3 * d + 11 + 1 by omega, in_206]
    have f1 := hfa a
    by_cases h1 : isW t e p wNot = true
    · rw [if_pos h1] at w ⊢
      have q := isW_sk hb.2 h1 (by decide)
      have x1 := ih (lv + 2) (D + 1) (hset h 199 0 0 (D + 1)) T' hf' hF' hD' (by omega) (by omega) (wE t e p) q.2
      rw [q.1, show lv + 2 + 3 * d + 9 = lv + 3 * d + 11 by omega] at x1
      have dd := hda (wE t e p)
      cases hq : pAtom t e d (nxt t e p) with
      | inl f =>
        rw [hq] at x1
        obtain ⟨v, a2, hv, hz, x1⟩ := x1
        have ef : hset (RZ (hset h 199 0 0 (D + 1)) a2) 198 0 0 (f : Int) 199 0 0 = D + 1 := by rw [hs_o (by omega), RZ_o (by omega)]; exact hD'
        rcases hv with hv | hv
        · subst hv
          refine ⟨1, a2, Or.inr rfl, by omega, ?_⟩
          simp (disch := omega) only [x_6_0, x_33, x_1, x_62, x_85, x_79_1_12_d0, x_79_1_12_d1, x_79_1_12_d2, x_79_1_12_d3, x_79_1_12_d4, x_7_1_I, x_7_1_A, x_7_1_U, x_3, x_79_2_12_d0, x_79_2_12_d1, x_79_2_12_d2, x_79_2_12_d3, x_79_2_12_d4, x_7_2_I, x_7_2_A, x_7_2_U, x_4_2, x_69, x_63, x_4_1, x_47_I, x_47_A, x_11, x_36, x_7_3_I, x_7_3_A, x_7_3_U, x_68, x_60, x_61, x_12, x_4_3, cb_ri, cb_rl, cb_rv, cb_th, cb_ite, ps_s, ps_n, u_206_0, u_206_10, u_206_40, u_206_56, u_206_83, u_206_84, u_206_88, u_206_128, u_206_138, f1, hr, w, dd, w32_id, r9, x1, ef, dsub, r98, Int.reduceEq, Int.reduceLT, Int.reduceLE, reduceIte, Int.reduceAdd, Int.reduceSub, Int.reduceMul, Int.reduceNeg, Int.reduceToNat, Bool.false_eq_true, eq_self, if_pos, if_neg]
        · subst hv
          refine ⟨0, a2, Or.inl rfl, by omega, ?_⟩
          simp (disch := omega) only [x_6_0, x_33, x_1, x_62, x_85, x_79_1_12_d0, x_79_1_12_d1, x_79_1_12_d2, x_79_1_12_d3, x_79_1_12_d4, x_7_1_I, x_7_1_A, x_7_1_U, x_3, x_79_2_12_d0, x_79_2_12_d1, x_79_2_12_d2, x_79_2_12_d3, x_79_2_12_d4, x_7_2_I, x_7_2_A, x_7_2_U, x_4_2, x_69, x_63, x_4_1, x_47_I, x_47_A, x_11, x_36, x_7_3_I, x_7_3_A, x_7_3_U, x_68, x_60, x_61, x_12, x_4_3, cb_ri, cb_rl, cb_rv, cb_th, cb_ite, ps_s, ps_n, u_206_0, u_206_10, u_206_40, u_206_56, u_206_83, u_206_84, u_206_88, u_206_128, u_206_138, f1, hr, w, dd, w32_id, r9, x1, ef, dsub, r98, Int.reduceEq, Int.reduceLT, Int.reduceLE, reduceIte, Int.reduceAdd, Int.reduceSub, Int.reduceMul, Int.reduceNeg, Int.reduceToNat, Bool.false_eq_true, eq_self, if_pos, if_neg]
      | inr z =>
        obtain ⟨b, q2⟩ := z
        rw [hq] at x1
        obtain ⟨a2, n1, n2, x1⟩ := x1
        refine ⟨a2, n1, n2, ?_⟩
        have ef := hd9 a2
        show _ = ri (boI (!b.2 F)) _
        generalize b.2 F = bv at x1
        cases bv with
        | true =>
          have x1 : _ = ri 1 _ := x1
          simp (disch := omega) only [x_6_0, x_33, x_1, x_62, x_85, x_79_1_12_d0, x_79_1_12_d1, x_79_1_12_d2, x_79_1_12_d3, x_79_1_12_d4, x_7_1_I, x_7_1_A, x_7_1_U, x_3, x_79_2_12_d0, x_79_2_12_d1, x_79_2_12_d2, x_79_2_12_d3, x_79_2_12_d4, x_7_2_I, x_7_2_A, x_7_2_U, x_4_2, x_69, x_63, x_4_1, x_47_I, x_47_A, x_11, x_36, x_7_3_I, x_7_3_A, x_7_3_U, x_68, x_60, x_61, x_12, x_4_3, cb_ri, cb_rl, cb_rv, cb_th, cb_ite, ps_s, ps_n, u_206_0, u_206_10, u_206_40, u_206_56, u_206_83, u_206_84, u_206_88, u_206_128, u_206_138, f1, hr, w, dd, w32_id, r9, x1, ef, dsub, r99, boI, Bool.not_true, Int.reduceEq, Int.reduceLT, Int.reduceLE, reduceIte, Int.reduceAdd, Int.reduceSub, Int.reduceMul, Int.reduceNeg, Int.reduceToNat, Bool.false_eq_true, eq_self, if_pos, if_neg]
        | false =>
          have x1 : _ = ri 0 _ := x1
          simp (disch := omega) only [x_6_0, x_33, x_1, x_62, x_85, x_79_1_12_d0, x_79_1_12_d1, x_79_1_12_d2, x_79_1_12_d3, x_79_1_12_d4, x_7_1_I, x_7_1_A, x_7_1_U, x_3, x_79_2_12_d0, x_79_2_12_d1, x_79_2_12_d2, x_79_2_12_d3, x_79_2_12_d4, x_7_2_I, x_7_2_A, x_7_2_U, x_4_2, x_69, x_63, x_4_1, x_47_I, x_47_A, x_11, x_36, x_7_3_I, x_7_3_A, x_7_3_U, x_68, x_60, x_61, x_12, x_4_3, cb_ri, cb_rl, cb_rv, cb_th, cb_ite, ps_s, ps_n, u_206_0, u_206_10, u_206_40, u_206_56, u_206_83, u_206_84, u_206_88, u_206_128, u_206_138, f1, hr, w, dd, w32_id, r9, x1, ef, dsub, r99, boI, Bool.not_false, Int.reduceEq, Int.reduceLT, Int.reduceLE, reduceIte, Int.reduceAdd, Int.reduceSub, Int.reduceMul, Int.reduceNeg, Int.reduceToNat, Bool.false_eq_true, eq_self, if_pos, if_neg]
    · rw [if_neg h1] at w ⊢
      by_cases h2 : isC t e p 40 = true
      · rw [if_pos h2] at s ⊢
        have q := isC_sk h2 (by decide) (by decide)
        have ha1 := fun a ha => ih lv (D + 1) (hset h 199 0 0 (D + 1)) T' hf' hF' hD' (by omega) (by omega) a ha
        have hb1 := fun a ha => every_m (lv + 3 * d + 4) (pAtom t e d) T' hf' ha1 (pAtom_len d) a ha
        have x1 := some_m (lv + 3 * d + 5) (pAll t e (pAtom t e d)) T' hf' hb1 (fun p hp => pSeq_len (by decide) (pAtom_len d) p hp) (p + 1) q.2
        have l1 := pAny_len (t := t) (X := pAtom t e d) (pAtom_len d) _ (nxt_b t (isC_lt h2)).2
        rw [q.1] at x1
        unfold pAny at l1 ⊢
        have dd := hda p
        have e1 : RD (hset h 199 0 0 (D + 1)) p 197 0 0 = (p : Int) := RD_a _ _
        have cc : ((p : Int) + 1) = ((p + 1 : Nat) : Int) := by omega
        have st := RD_RD (hset h 199 0 0 (D + 1)) p (p + 1)
        cases hq : pSeq t e (pAll t e (pAtom t e d)) wOr 14 (fun a b => a || b) (nxt t e p) with
        | inl f =>
          rw [hq] at x1
          obtain ⟨v, a2, hv, hz, x1⟩ := x1
          have ef : hset (RZ (hset h 199 0 0 (D + 1)) a2) 198 0 0 (f : Int) 198 0 0 = (f : Int) := hs_eq _ _ _ _ _
          have eg : hset (RZ (hset h 199 0 0 (D + 1)) a2) 198 0 0 (f : Int) 197 0 0 = a2 := by rw [hs_o (by omega)]; exact RZ_a _ _
          have ek : ∀ z, hset (RZ (hset h 199 0 0 (D + 1)) z) 198 0 0 (f : Int) 199 0 0 = D + 1 := fun z => by rw [hs_o (by omega), RZ_o (by omega)]; exact hD'
          have u1 : w32 ((p + 1 : Nat) : Int) = ((p + 1 : Nat) : Int) := w32_id (by omega) (by omega)
          have u2 : w32 (D + 1) = D + 1 := w32_id (by omega) (by omega)
          have u3 : w32 D = D := w32_id (by omega) (by omega)
          refine ⟨v, w32 (a2 + 1), hv, by rw [w32_id (by omega) (by omega)]; omega, ?_⟩
          rcases hv with hv | hv
          · subst hv
            simp (disch := omega) only [x_6_0, x_33, x_1, x_62, x_85, x_79_1_12_d0, x_79_1_12_d1, x_79_1_12_d2, x_79_1_12_d3, x_79_1_12_d4, x_7_1_I, x_7_1_A, x_7_1_U, x_3, x_79_2_12_d0, x_79_2_12_d1, x_79_2_12_d2, x_79_2_12_d3, x_79_2_12_d4, x_7_2_I, x_7_2_A, x_7_2_U, x_4_2, x_69, x_63, x_4_1, x_47_I, x_47_A, x_11, x_36, x_7_3_I, x_7_3_A, x_7_3_U, x_68, x_60, x_61, x_12, x_4_3, cb_ri, cb_rl, cb_rv, cb_th, cb_ite, ps_s, ps_n, u_206_0, u_206_10, u_206_40, u_206_56, u_206_83, u_206_84, u_206_88, u_206_128, u_206_138, f1, hr, w, s, dd, r9, e1, u1, u2, cc, st, x1, ef, eg, hs_RZ, ek, dsub, u3, r98, Int.reduceEq, Int.reduceLT, Int.reduceLE, reduceIte, Int.reduceAdd, Int.reduceSub, Int.reduceMul, Int.reduceNeg, Int.reduceToNat, Bool.false_eq_true, eq_self, if_pos, if_neg]
          · subst hv
            simp (disch := omega) only [x_6_0, x_33, x_1, x_62, x_85, x_79_1_12_d0, x_79_1_12_d1, x_79_1_12_d2, x_79_1_12_d3, x_79_1_12_d4, x_7_1_I, x_7_1_A, x_7_1_U, x_3, x_79_2_12_d0, x_79_2_12_d1, x_79_2_12_d2, x_79_2_12_d3, x_79_2_12_d4, x_7_2_I, x_7_2_A, x_7_2_U, x_4_2, x_69, x_63, x_4_1, x_47_I, x_47_A, x_11, x_36, x_7_3_I, x_7_3_A, x_7_3_U, x_68, x_60, x_61, x_12, x_4_3, cb_ri, cb_rl, cb_rv, cb_th, cb_ite, ps_s, ps_n, u_206_0, u_206_10, u_206_40, u_206_56, u_206_83, u_206_84, u_206_88, u_206_128, u_206_138, f1, hr, w, s, dd, r9, e1, u1, u2, cc, st, x1, ef, eg, hs_RZ, ek, dsub, u3, r98, Int.reduceEq, Int.reduceLT, Int.reduceLE, reduceIte, Int.reduceAdd, Int.reduceSub, Int.reduceMul, Int.reduceNeg, Int.reduceToNat, Bool.false_eq_true, eq_self, if_pos, if_neg]
        | inr z =>
          obtain ⟨b, q2⟩ := z
          rw [hq] at x1 l1
          obtain ⟨a2, n1, n2, x1⟩ := x1
          have l1 : nxt t e p + b.1.length ≤ q2 ∧ nxt t e p < q2 ∧ q2 ≤ e := l1
          have fa := hf9 a2
          have s2 := sign_m (lv + 3 * d + 8) 41 T' n1
          rw [n2] at s2
          have e2 : RD (hset h 199 0 0 (D + 1)) q2 197 0 0 = (q2 : Int) := RD_a _ _
          have c2 : ((q2 : Int) + 1) = ((q2 + 1 : Nat) : Int) := by omega
          have st2 := RD_RD (hset h 199 0 0 (D + 1)) q2 (q2 + 1)
          have wr := wrong_m (lv + 3 * d + 10) (RD (hset h 199 0 0 (D + 1)) q2) (q2 : Int) (hf9 q2)
          have ed := hd9 (q2 + 1)
          have bb := boI_b (b.2 F)
          dsimp only
          by_cases h3 : isC t e q2 41 = true
          · rw [if_pos h3] at s2
            simp only [h3, if_pos]
            have qq := isC_sk h3 (by decide) (by decide)
            refine ⟨q2 + 1, qq.2, qq.1, ?_⟩
            simp (disch := omega) only [x_6_0, x_33, x_1, x_62, x_85, x_79_1_12_d0, x_79_1_12_d1, x_79_1_12_d2, x_79_1_12_d3, x_79_1_12_d4, x_7_1_I, x_7_1_A, x_7_1_U, x_3, x_79_2_12_d0, x_79_2_12_d1, x_79_2_12_d2, x_79_2_12_d3, x_79_2_12_d4, x_7_2_I, x_7_2_A, x_7_2_U, x_4_2, x_69, x_63, x_4_1, x_47_I, x_47_A, x_11, x_36, x_7_3_I, x_7_3_A, x_7_3_U, x_68, x_60, x_61, x_12, x_4_3, cb_ri, cb_rl, cb_rv, cb_th, cb_ite, ps_s, ps_n, u_206_0, u_206_10, u_206_40, u_206_56, u_206_83, u_206_84, u_206_88, u_206_128, u_206_138, f1, hr, w, s, dd, r9, e1, w32_id, cc, st, x1, fa, s2, e2, c2, st2, ed, dsub, r99, Int.reduceEq, Int.reduceLT, Int.reduceLE, reduceIte, Int.reduceAdd, Int.reduceSub, Int.reduceMul, Int.reduceNeg, Int.reduceToNat, Bool.false_eq_true, eq_self, if_pos, if_neg]
          · rw [if_neg h3] at s2
            simp only [h3, if_false, Bool.false_eq_true]
            refine ⟨boI (b.2 F), ((q2 + 1 : Nat) : Int), bb, by omega, ?_⟩
            have wr : _ = rv (hset (RZ (hset h 199 0 0 (D + 1)) (q2 : Int)) 198 0 0 (q2 : Int)) := wr
            have eg : hset (RZ (hset h 199 0 0 (D + 1)) (q2 : Int)) 198 0 0 (q2 : Int) 197 0 0 = (q2 : Int) := by rw [hs_o (by omega)]; exact RZ_a _ _
            have ek : ∀ z, hset (RZ (hset h 199 0 0 (D + 1)) z) 198 0 0 (q2 : Int) 199 0 0 = D + 1 := fun z => by rw [hs_o (by omega), RZ_o (by omega)]; exact hD'
            simp (disch := omega) only [x_6_0, x_33, x_1, x_62, x_85, x_79_1_12_d0, x_79_1_12_d1, x_79_1_12_d2, x_79_1_12_d3, x_79_1_12_d4, x_7_1_I, x_7_1_A, x_7_1_U, x_3, x_79_2_12_d0, x_79_2_12_d1, x_79_2_12_d2, x_79_2_12_d3, x_79_2_12_d4, x_7_2_I, x_7_2_A, x_7_2_U, x_4_2, x_69, x_63, x_4_1, x_47_I, x_47_A, x_11, x_36, x_7_3_I, x_7_3_A, x_7_3_U, x_68, x_60, x_61, x_12, x_4_3, cb_ri, cb_rl, cb_rv, cb_th, cb_ite, ps_s, ps_n, u_206_0, u_206_10, u_206_40, u_206_56, u_206_83, u_206_84, u_206_88, u_206_128, u_206_138, f1, hr, w, s, dd, r9, e1, w32_id, cc, st, x1, fa, s2, e2, wr, eg, c2, hs_RZ, ek, dsub, r98, Int.reduceEq, Int.reduceLT, Int.reduceLE, reduceIte, Int.reduceAdd, Int.reduceSub, Int.reduceMul, Int.reduceNeg, Int.reduceToNat, Bool.false_eq_true, eq_self, if_pos, if_neg]
      · rw [if_neg h2] at s ⊢
        have pl := mplain_m (lv + 3 * d + 3) T hb.2 hss hf hF hO
        cases hq : pPlain t e p with
        | inl f =>
          rw [hq] at pl
          obtain ⟨v, a2, hv, hz, pl⟩ := pl
          refine ⟨v, a2, hv, by omega, ?_⟩
          simp (disch := omega) only [x_6_0, x_33, x_1, x_62, x_85, x_79_1_12_d0, x_79_1_12_d1, x_79_1_12_d2, x_79_1_12_d3, x_79_1_12_d4, x_7_1_I, x_7_1_A, x_7_1_U, x_3, x_79_2_12_d0, x_79_2_12_d1, x_79_2_12_d2, x_79_2_12_d3, x_79_2_12_d4, x_7_2_I, x_7_2_A, x_7_2_U, x_4_2, x_69, x_63, x_4_1, x_47_I, x_47_A, x_11, x_36, x_7_3_I, x_7_3_A, x_7_3_U, x_68, x_60, x_61, x_12, x_4_3, cb_ri, cb_rl, cb_rv, cb_th, cb_ite, ps_s, ps_n, u_206_0, u_206_10, u_206_40, u_206_56, u_206_83, u_206_84, u_206_88, u_206_128, u_206_138, f1, hr, w, s, pl, Int.reduceEq, Int.reduceLT, Int.reduceLE, reduceIte, Int.reduceAdd, Int.reduceSub, Int.reduceMul, Int.reduceNeg, Int.reduceToNat, Bool.false_eq_true, eq_self, if_pos, if_neg]
        | inr z =>
          obtain ⟨b, q⟩ := z
          rw [hq] at pl
          obtain ⟨a2, n1, n2, pl⟩ := pl
          refine ⟨a2, n1, n2, ?_⟩
          have := boI_b (b.2 F)
          simp (disch := omega) only [x_6_0, x_33, x_1, x_62, x_85, x_79_1_12_d0, x_79_1_12_d1, x_79_1_12_d2, x_79_1_12_d3, x_79_1_12_d4, x_7_1_I, x_7_1_A, x_7_1_U, x_3, x_79_2_12_d0, x_79_2_12_d1, x_79_2_12_d2, x_79_2_12_d3, x_79_2_12_d4, x_7_2_I, x_7_2_A, x_7_2_U, x_4_2, x_69, x_63, x_4_1, x_47_I, x_47_A, x_11, x_36, x_7_3_I, x_7_3_A, x_7_3_U, x_68, x_60, x_61, x_12, x_4_3, cb_ri, cb_rl, cb_rv, cb_th, cb_ite, ps_s, ps_n, u_206_0, u_206_10, u_206_40, u_206_56, u_206_83, u_206_84, u_206_88, u_206_128, u_206_138, f1, hr, w, s, pl, Int.reduceEq, Int.reduceLT, Int.reduceLE, reduceIte, Int.reduceAdd, Int.reduceSub, Int.reduceMul, Int.reduceNeg, Int.reduceToNat, Bool.false_eq_true, eq_self, if_pos, if_neg]
