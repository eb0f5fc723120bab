/-! THE REFERENCE READS A LINE OF THE LAW. -/
theorem mkind_m (lv : Nat) {h : Hp} {t : Nat → Int} {e a : Nat} (T : TX h t e) (ha : a ≤ e) : cl (lv + 6) 209 [aA 12 0] (RD h a) = run (lv + 5) 209 40 [aA 12 0, none, none, none] [aI (knd t e (sk t e a))] (RD h (if knd t e (sk t e a) = -1 then sk t e a else wE t e (sk t e a))) := by
  have hb := sk_b t ha
  have hss := sk_sk t ha
  have w1 := has_m lv 7 wFar T ha rfl (by decide) (by decide)
  have w2 := has_m lv 14 wNear T hb.2 rfl (by decide) (by decide)
  have w3 := has_m lv 36 wTake T hb.2 rfl (by decide) (by decide)
  rw [hss] at w2 w3
  generalize sk t e a = p at w1 w2 w3 hb hss
  rw [in_209]
  unfold knd
  by_cases h1 : isW t e p wFar = true
  · rw [if_pos h1] at w1
    simp (disch := omega) only [x_6_0, x_3, x_79_2_12_d0, x_79_2_12_d1, x_79_2_12_d2, x_79_2_12_d3, x_79_2_12_d4, x_68, x_1, x_60, x_61, x_7_1_I, x_7_1_A, x_7_1_U, x_4_1, x_63, x_33, x_83, x_79_3_12_d0, x_79_3_12_d1, x_79_3_12_d2, x_79_3_12_d3, x_79_3_12_d4, x_7_2_I, x_7_2_A, x_7_2_U, x_62, x_79_1_12_d0, x_79_1_12_d1, x_79_1_12_d2, x_79_1_12_d3, x_79_1_12_d4, x_7_3_I, x_7_3_A, x_7_3_U, x_69, x_37, x_4_3, x_47_I, x_47_A, x_4_2, x_16, x_11, x_36, cb_ri, cb_rl, cb_rv, cb_th, cb_ite, ps_s, ps_n, u_209_0, u_209_13, u_209_26, u_209_39, u_209_55, u_209_64, u_209_71, u_209_81, u_209_97, u_209_101, u_209_102, u_209_112, u_209_125, u_209_129, u_209_130, u_209_138, u_209_151, u_209_155, u_209_156, u_209_172, u_209_182, u_209_183, w1, h1, Int.reduceEq, Int.reduceLT, Int.reduceLE, reduceIte, Int.reduceAdd, Int.reduceSub, Int.reduceMul, Int.reduceNeg, Int.reduceToNat, Bool.false_eq_true, eq_self, if_pos, if_neg]
  rw [if_neg h1] at w1
  by_cases h2 : isW t e p wNear = true
  · rw [if_pos h2] at w2
    simp (disch := omega) only [x_6_0, x_3, x_79_2_12_d0, x_79_2_12_d1, x_79_2_12_d2, x_79_2_12_d3, x_79_2_12_d4, x_68, x_1, x_60, x_61, x_7_1_I, x_7_1_A, x_7_1_U, x_4_1, x_63, x_33, x_83, x_79_3_12_d0, x_79_3_12_d1, x_79_3_12_d2, x_79_3_12_d3, x_79_3_12_d4, x_7_2_I, x_7_2_A, x_7_2_U, x_62, x_79_1_12_d0, x_79_1_12_d1, x_79_1_12_d2, x_79_1_12_d3, x_79_1_12_d4, x_7_3_I, x_7_3_A, x_7_3_U, x_69, x_37, x_4_3, x_47_I, x_47_A, x_4_2, x_16, x_11, x_36, cb_ri, cb_rl, cb_rv, cb_th, cb_ite, ps_s, ps_n, u_209_0, u_209_13, u_209_26, u_209_39, u_209_55, u_209_64, u_209_71, u_209_81, u_209_97, u_209_101, u_209_102, u_209_112, u_209_125, u_209_129, u_209_130, u_209_138, u_209_151, u_209_155, u_209_156, u_209_172, u_209_182, u_209_183, w1, w2, h1, h2, Int.reduceEq, Int.reduceLT, Int.reduceLE, reduceIte, Int.reduceAdd, Int.reduceSub, Int.reduceMul, Int.reduceNeg, Int.reduceToNat, Bool.false_eq_true, eq_self, if_pos, if_neg]
  rw [if_neg h2] at w2
  by_cases h3 : isW t e p wTake = true
  · rw [if_pos h3] at w3
    simp (disch := omega) only [x_6_0, x_3, x_79_2_12_d0, x_79_2_12_d1, x_79_2_12_d2, x_79_2_12_d3, x_79_2_12_d4, x_68, x_1, x_60, x_61, x_7_1_I, x_7_1_A, x_7_1_U, x_4_1, x_63, x_33, x_83, x_79_3_12_d0, x_79_3_12_d1, x_79_3_12_d2, x_79_3_12_d3, x_79_3_12_d4, x_7_2_I, x_7_2_A, x_7_2_U, x_62, x_79_1_12_d0, x_79_1_12_d1, x_79_1_12_d2, x_79_1_12_d3, x_79_1_12_d4, x_7_3_I, x_7_3_A, x_7_3_U, x_69, x_37, x_4_3, x_47_I, x_47_A, x_4_2, x_16, x_11, x_36, cb_ri, cb_rl, cb_rv, cb_th, cb_ite, ps_s, ps_n, u_209_0, u_209_13, u_209_26, u_209_39, u_209_55, u_209_64, u_209_71, u_209_81, u_209_97, u_209_101, u_209_102, u_209_112, u_209_125, u_209_129, u_209_130, u_209_138, u_209_151, u_209_155, u_209_156, u_209_172, u_209_182, u_209_183, w1, w2, w3, h1, h2, h3, Int.reduceEq, Int.reduceLT, Int.reduceLE, reduceIte, Int.reduceAdd, Int.reduceSub, Int.reduceMul, Int.reduceNeg, Int.reduceToNat, Bool.false_eq_true, eq_self, if_pos, if_neg]
  · rw [if_neg h3] at w3
    simp (disch := omega) only [x_6_0, x_3, x_79_2_12_d0, x_79_2_12_d1, x_79_2_12_d2, x_79_2_12_d3, x_79_2_12_d4, x_68, x_1, x_60, x_61, x_7_1_I, x_7_1_A, x_7_1_U, x_4_1, x_63, x_33, x_83, x_79_3_12_d0, x_79_3_12_d1, x_79_3_12_d2, x_79_3_12_d3, x_79_3_12_d4, x_7_2_I, x_7_2_A, x_7_2_U, x_62, x_79_1_12_d0, x_79_1_12_d1, x_79_1_12_d2, x_79_1_12_d3, x_79_1_12_d4, x_7_3_I, x_7_3_A, x_7_3_U, x_69, x_37, x_4_3, x_47_I, x_47_A, x_4_2, x_16, x_11, x_36, cb_ri, cb_rl, cb_rv, cb_th, cb_ite, ps_s, ps_n, u_209_0, u_209_13, u_209_26, u_209_39, u_209_55, u_209_64, u_209_71, u_209_81, u_209_97, u_209_101, u_209_102, u_209_112, u_209_125, u_209_129, u_209_130, u_209_138, u_209_151, u_209_155, u_209_156, u_209_172, u_209_182, u_209_183, w1, w2, w3, h1, h2, h3, Int.reduceEq, Int.reduceLT, Int.reduceLE, reduceIte, Int.reduceAdd, Int.reduceSub, Int.reduceMul, Int.reduceNeg, Int.reduceToNat, Bool.false_eq_true, eq_self, if_pos, if_neg]
theorem knd_v {t : Nat → Int} {e p : Nat} (hp : p ≤ e) (h : ¬ knd t e p = -1) : (knd t e p = 0 ∨ knd t e p = 1 ∨ knd t e p = 2) ∧ sk t e (wE t e p) = nxt t e p ∧ wE t e p ≤ e := by
  unfold knd at h ⊢
  by_cases h1 : isW t e p wFar = true
  · rw [if_pos h1]; exact ⟨by simp, isW_sk hp h1 (by decide)⟩
  rw [if_neg h1] at h ⊢
  by_cases h2 : isW t e p wNear = true
  · rw [if_pos h2]; exact ⟨by simp, isW_sk hp h2 (by decide)⟩
  rw [if_neg h2] at h ⊢
  by_cases h3 : isW t e p wTake = true
  · rw [if_pos h3]; exact ⟨by simp, isW_sk hp h3 (by decide)⟩
  rw [if_neg h3] at h
  exact absurd rfl h
theorem mcond_m (lv : Nat) {h : Hp} {t : Nat → Int} {e a : Nat} {F : Nat → Int} (T : TX h t e) (ha : a ≤ e) (hf : h 198 0 0 = -1) (hF : FC h F) (hO : FZ F) (hD : h 199 0 0 = 0) (k v : Int) : match pCond t e (sk t e a) with
    | .inl f => ∃ z, (0 ≤ z ∧ z ≤ (e : Int) + 6) ∧ run (lv + 29) 209 81 [aA 12 0, aI k, aI v, none] [] (RD h a) = rv (hset (RZ h z) 198 0 0 (f : Int))
    | .inr (b, q) => ∃ a', a' ≤ e ∧ sk t e a' = q ∧ run (lv + 29) 209 81 [aA 12 0, aI k, aI v, none] [] (RD h a) = run (lv + 29) 209 112 [aA 12 0, aI k, aI v, aI (boI (b.2 F))] [] (RD h a') := by
  have hb := sk_b t ha
  have hss := sk_sk t ha
  have w := has_m (lv + 24) 10 wIf T ha rfl (by decide) (by decide)
  have hfa : ∀ x, RD h x 198 0 0 = -1 := fun x => by rw [RD_o (by omega)]; exact hf
  have ha1 := fun a ha => matom_m hO 6 lv 0 h T hf hF hD (by omega) (by omega) a ha
  have hb1 := fun a ha => every_m (lv + 22) (pAtom t e 6) T hf ha1 (pAtom_len 6) a ha
  have ho := fun a ha => some_m (lv + 23) (pAll t e (pAtom t e 6)) T hf hb1 (fun p hp => pSeq_len (by decide) (pAtom_len 6) p hp) a ha
  generalize sk t e a = p at w hb hss
  unfold pCond
  by_cases h1 : isW t e p wIf = true
  · rw [if_pos h1] at w ⊢
    have q := isW_sk hb.2 h1 (by decide)
    have x1 := ho (wE t e p) q.2
    rw [q.1] at x1
    unfold pAny
    cases hq : pSeq t e (pAll t e (pAtom t e 6)) wOr 14 (fun a b => a || b) (nxt t e p) with
    | inl f =>
      rw [hq] at x1
      obtain ⟨u, z, hu, hz, x1⟩ := x1
      refine ⟨z, hz, ?_⟩
      have ef : hset (RZ h z) 198 0 0 (f : Int) 198 0 0 = (f : Int) := hs_eq _ _ _ _ _
      rcases hu with hu | hu
      · subst hu
        simp (disch := omega) only [x_6_0, x_3, x_79_2_12_d0, x_79_2_12_d1, x_79_2_12_d2, x_79_2_12_d3, x_79_2_12_d4, x_68, x_1, x_60, x_61, x_7_1_I, x_7_1_A, x_7_1_U, x_4_1, x_63, x_33, x_83, x_79_3_12_d0, x_79_3_12_d1, x_79_3_12_d2, x_79_3_12_d3, x_79_3_12_d4, x_7_2_I, x_7_2_A, x_7_2_U, x_62, x_79_1_12_d0, x_79_1_12_d1, x_79_1_12_d2, x_79_1_12_d3, x_79_1_12_d4, x_7_3_I, x_7_3_A, x_7_3_U, x_69, x_37, x_4_3, x_47_I, x_47_A, x_4_2, x_16, x_11, x_36, cb_ri, cb_rl, cb_rv, cb_th, cb_ite, ps_s, ps_n, u_209_0, u_209_13, u_209_26, u_209_39, u_209_40, u_209_55, u_209_64, u_209_71, u_209_81, u_209_97, u_209_101, u_209_102, u_209_112, u_209_125, u_209_129, u_209_130, u_209_138, u_209_151, u_209_155, u_209_156, u_209_172, u_209_182, u_209_183, w, x1, ef, Int.reduceEq, Int.reduceLT, Int.reduceLE, reduceIte, Int.reduceAdd, Int.reduceSub, Int.reduceMul, Int.reduceNeg, Int.reduceToNat, Bool.false_eq_true, eq_self, if_pos, if_neg]
      · subst hu
        simp (disch := omega) only [x_6_0, x_3, x_79_2_12_d0, x_79_2_12_d1, x_79_2_12_d2, x_79_2_12_d3, x_79_2_12_d4, x_68, x_1, x_60, x_61, x_7_1_I, x_7_1_A, x_7_1_U, x_4_1, x_63, x_33, x_83, x_79_3_12_d0, x_79_3_12_d1, x_79_3_12_d2, x_79_3_12_d3, x_79_3_12_d4, x_7_2_I, x_7_2_A, x_7_2_U, x_62, x_79_1_12_d0, x_79_1_12_d1, x_79_1_12_d2, x_79_1_12_d3, x_79_1_12_d4, x_7_3_I, x_7_3_A, x_7_3_U, x_69, x_37, x_4_3, x_47_I, x_47_A, x_4_2, x_16, x_11, x_36, cb_ri, cb_rl, cb_rv, cb_th, cb_ite, ps_s, ps_n, u_209_0, u_209_13, u_209_26, u_209_39, u_209_40, u_209_55, u_209_64, u_209_71, u_209_81, u_209_97, u_209_101, u_209_102, u_209_112, u_209_125, u_209_129, u_209_130, u_209_138, u_209_151, u_209_155, u_209_156, u_209_172, u_209_182, u_209_183, w, x1, ef, Int.reduceEq, Int.reduceLT, Int.reduceLE, reduceIte, Int.reduceAdd, Int.reduceSub, Int.reduceMul, Int.reduceNeg, Int.reduceToNat, Bool.false_eq_true, eq_self, if_pos, if_neg]
    | inr y =>
      obtain ⟨b, q2⟩ := y
      rw [hq] at x1
      obtain ⟨a2, n1, n2, x1⟩ := x1
      refine ⟨a2, n1, n2, ?_⟩
      have f2 := hfa a2
      generalize b.2 F = bv at x1
      cases bv with
      | true =>
        have x1 : _ = ri 1 _ := x1
        simp (disch := omega) only [x_6_0, x_3, x_79_2_12_d0, x_79_2_12_d1, x_79_2_12_d2, x_79_2_12_d3, x_79_2_12_d4, x_68, x_1, x_60, x_61, x_7_1_I, x_7_1_A, x_7_1_U, x_4_1, x_63, x_33, x_83, x_79_3_12_d0, x_79_3_12_d1, x_79_3_12_d2, x_79_3_12_d3, x_79_3_12_d4, x_7_2_I, x_7_2_A, x_7_2_U, x_62, x_79_1_12_d0, x_79_1_12_d1, x_79_1_12_d2, x_79_1_12_d3, x_79_1_12_d4, x_7_3_I, x_7_3_A, x_7_3_U, x_69, x_37, x_4_3, x_47_I, x_47_A, x_4_2, x_16, x_11, x_36, cb_ri, cb_rl, cb_rv, cb_th, cb_ite, ps_s, ps_n, u_209_0, u_209_13, u_209_26, u_209_39, u_209_40, u_209_55, u_209_64, u_209_71, u_209_81, u_209_97, u_209_101, u_209_102, u_209_125, u_209_129, u_209_130, u_209_138, u_209_151, u_209_155, u_209_156, u_209_172, u_209_182, u_209_183, w, x1, f2, boI, Int.reduceEq, Int.reduceLT, Int.reduceLE, reduceIte, Int.reduceAdd, Int.reduceSub, Int.reduceMul, Int.reduceNeg, Int.reduceToNat, Bool.false_eq_true, eq_self, if_pos, if_neg]
      | false =>
        have x1 : _ = ri 0 _ := x1
        simp (disch := omega) only [x_6_0, x_3, x_79_2_12_d0, x_79_2_12_d1, x_79_2_12_d2, x_79_2_12_d3, x_79_2_12_d4, x_68, x_1, x_60, x_61, x_7_1_I, x_7_1_A, x_7_1_U, x_4_1, x_63, x_33, x_83, x_79_3_12_d0, x_79_3_12_d1, x_79_3_12_d2, x_79_3_12_d3, x_79_3_12_d4, x_7_2_I, x_7_2_A, x_7_2_U, x_62, x_79_1_12_d0, x_79_1_12_d1, x_79_1_12_d2, x_79_1_12_d3, x_79_1_12_d4, x_7_3_I, x_7_3_A, x_7_3_U, x_69, x_37, x_4_3, x_47_I, x_47_A, x_4_2, x_16, x_11, x_36, cb_ri, cb_rl, cb_rv, cb_th, cb_ite, ps_s, ps_n, u_209_0, u_209_13, u_209_26, u_209_39, u_209_40, u_209_55, u_209_64, u_209_71, u_209_81, u_209_97, u_209_101, u_209_102, u_209_125, u_209_129, u_209_130, u_209_138, u_209_151, u_209_155, u_209_156, u_209_172, u_209_182, u_209_183, w, x1, f2, boI, Int.reduceEq, Int.reduceLT, Int.reduceLE, reduceIte, Int.reduceAdd, Int.reduceSub, Int.reduceMul, Int.reduceNeg, Int.reduceToNat, Bool.false_eq_true, eq_self, if_pos, if_neg]
  · rw [if_neg h1] at w ⊢
    refine ⟨p, hb.2, hss, ?_⟩
    have f2 := hfa p
    simp (disch := omega) only [x_6_0, x_3, x_79_2_12_d0, x_79_2_12_d1, x_79_2_12_d2, x_79_2_12_d3, x_79_2_12_d4, x_68, x_1, x_60, x_61, x_7_1_I, x_7_1_A, x_7_1_U, x_4_1, x_63, x_33, x_83, x_79_3_12_d0, x_79_3_12_d1, x_79_3_12_d2, x_79_3_12_d3, x_79_3_12_d4, x_7_2_I, x_7_2_A, x_7_2_U, x_62, x_79_1_12_d0, x_79_1_12_d1, x_79_1_12_d2, x_79_1_12_d3, x_79_1_12_d4, x_7_3_I, x_7_3_A, x_7_3_U, x_69, x_37, x_4_3, x_47_I, x_47_A, x_4_2, x_16, x_11, x_36, cb_ri, cb_rl, cb_rv, cb_th, cb_ite, ps_s, ps_n, u_209_0, u_209_13, u_209_26, u_209_39, u_209_40, u_209_55, u_209_64, u_209_71, u_209_81, u_209_97, u_209_101, u_209_102, u_209_125, u_209_129, u_209_130, u_209_138, u_209_151, u_209_155, u_209_156, u_209_172, u_209_182, u_209_183, w, f2, boI, Int.reduceEq, Int.reduceLT, Int.reduceLE, reduceIte, Int.reduceAdd, Int.reduceSub, Int.reduceMul, Int.reduceNeg, Int.reduceToNat, Bool.false_eq_true, eq_self, if_pos, if_neg]
