theorem isD_sk {t : Nat → Int} {e p : Nat} (hp : p ≤ e) (h : p < dE t e p) : sk t e (dE t e p) = nxt t e p ∧ dE t e p ≤ e ∧ p < e ∧ isD (t p) = true := by
  have hb := dE_b t hp
  have hD := dE_all t e _ p rfl hp p (Nat.le_refl _) h
  have hL : ¬ isL (t p) = true := fun z => by have := isL_t z; have := isD_t hD; omega
  have e1 : tE t e p = dE t e p := by unfold tE; rw [if_pos (by omega), if_neg hL, if_pos hD]
  unfold nxt
  rw [e1]
  exact ⟨rfl, hb.2, by omega, hD⟩
/-- how a reading method of the reference ends -/
def MRes {β : Type} (r : Option Rs) (x : PR β) (val : β → Int) (h : Hp) (t : Nat → Int) (e : Nat) : Prop := match x with
  | .inl f => ∃ v z, (0 ≤ z ∧ z ≤ (e : Int)) ∧ r = ri v (hset (RZ h z) 198 0 0 (f : Int))
  | .inr (b, q) => ∃ a', a' ≤ e ∧ sk t e a' = q ∧ r = ri (val b) (RD h a')
theorem nm_m (lv : Nat) {h : Hp} {t : Nat → Int} {e p : Nat} (T : TX h t e) (hp : p ≤ e) (hs : sk t e p = p) (x : AV) : run (lv + 5) 203 52 [aA 12 0, x] [] (RD h p) = run (lv + 5) 203 145 [aA 12 0, x] [aI (nmAt t e p)] (RD h (if nmAt t e p = -1 then p else wE t e p)) := by
  have w1 := has_m lv 8 wHand T hp rfl (by decide) (by decide)
  have w2 := has_m lv 11 wKey T hp rfl (by decide) (by decide)
  have w3 := has_m lv 9 wHard T hp rfl (by decide) (by decide)
  have w4 := has_m lv 44 wTired T hp rfl (by decide) (by decide)
  have w5 := has_m lv 30 wPlayer T hp rfl (by decide) (by decide)
  have w6 := has_m lv 3 wBeat T hp rfl (by decide) (by decide)
  have w7 := has_m lv 29 wPage T hp rfl (by decide) (by decide)
  rw [hs] at w1 w2 w3 w4 w5 w6 w7
  unfold nmAt
  by_cases h1 : isW t e p wHand = true
  · rw [if_pos h1] at w1
    simp (disch := omega) only [x_6_0, x_33, x_1, x_62, x_82, x_79_1_12_d0, x_79_1_12_d1, x_79_1_12_d2, x_79_1_12_d3, x_79_1_12_d4, x_65, x_79_2_12_d0, x_79_2_12_d1, x_79_2_12_d2, x_79_2_12_d3, x_79_2_12_d4, x_80_3_d0, x_80_3_d1, x_80_3_d2, x_80_3_d3, x_80_3_d4, x_68, x_79_3_12_d0, x_79_3_12_d1, x_79_3_12_d2, x_79_3_12_d3, x_79_3_12_d4, x_3, x_60, x_61, x_7_1_I, x_7_1_A, x_7_1_U, x_4_1, x_63, x_34, x_38_200, cb_ri, cb_rl, cb_rv, cb_th, cb_ite, ps_s, ps_n, u_203_0, u_203_10, u_203_52, u_203_65, u_203_78, u_203_91, u_203_104, u_203_117, u_203_130, u_203_144, u_203_161, w1, h1, Int.reduceEq, Int.reduceLT, Int.reduceLE, reduceIte, Int.reduceAdd, Int.reduceSub, Int.reduceMul, Int.reduceNeg, Int.reduceToNat, Bool.false_eq_true, eq_self, if_pos, if_neg]
  rw [if_neg h1] at w1
  by_cases h2 : isW t e p wKey = true
  · rw [if_pos h2] at w2
    simp (disch := omega) only [x_6_0, x_33, x_1, x_62, x_82, x_79_1_12_d0, x_79_1_12_d1, x_79_1_12_d2, x_79_1_12_d3, x_79_1_12_d4, x_65, x_79_2_12_d0, x_79_2_12_d1, x_79_2_12_d2, x_79_2_12_d3, x_79_2_12_d4, x_80_3_d0, x_80_3_d1, x_80_3_d2, x_80_3_d3, x_80_3_d4, x_68, x_79_3_12_d0, x_79_3_12_d1, x_79_3_12_d2, x_79_3_12_d3, x_79_3_12_d4, x_3, x_60, x_61, x_7_1_I, x_7_1_A, x_7_1_U, x_4_1, x_63, x_34, x_38_200, cb_ri, cb_rl, cb_rv, cb_th, cb_ite, ps_s, ps_n, u_203_0, u_203_10, u_203_52, u_203_65, u_203_78, u_203_91, u_203_104, u_203_117, u_203_130, u_203_144, u_203_161, w1, w2, h1, h2, Int.reduceEq, Int.reduceLT, Int.reduceLE, reduceIte, Int.reduceAdd, Int.reduceSub, Int.reduceMul, Int.reduceNeg, Int.reduceToNat, Bool.false_eq_true, eq_self, if_pos, if_neg]
  rw [if_neg h2] at w2
  by_cases h3 : isW t e p wHard = true
  · rw [if_pos h3] at w3
    simp (disch := omega) only [x_6_0, x_33, x_1, x_62, x_82, x_79_1_12_d0, x_79_1_12_d1, x_79_1_12_d2, x_79_1_12_d3, x_79_1_12_d4, x_65, x_79_2_12_d0, x_79_2_12_d1, x_79_2_12_d2, x_79_2_12_d3, x_79_2_12_d4, x_80_3_d0, x_80_3_d1, x_80_3_d2, x_80_3_d3, x_80_3_d4, x_68, x_79_3_12_d0, x_79_3_12_d1, x_79_3_12_d2, x_79_3_12_d3, x_79_3_12_d4, x_3, x_60, x_61, x_7_1_I, x_7_1_A, x_7_1_U, x_4_1, x_63, x_34, x_38_200, cb_ri, cb_rl, cb_rv, cb_th, cb_ite, ps_s, ps_n, u_203_0, u_203_10, u_203_52, u_203_65, u_203_78, u_203_91, u_203_104, u_203_117, u_203_130, u_203_144, u_203_161, w1, w2, w3, h1, h2, h3, Int.reduceEq, Int.reduceLT, Int.reduceLE, reduceIte, Int.reduceAdd, Int.reduceSub, Int.reduceMul, Int.reduceNeg, Int.reduceToNat, Bool.false_eq_true, eq_self, if_pos, if_neg]
  rw [if_neg h3] at w3
  by_cases h4 : isW t e p wTired = true
  · rw [if_pos h4] at w4
    simp (disch := omega) only [x_6_0, x_33, x_1, x_62, x_82, x_79_1_12_d0, x_79_1_12_d1, x_79_1_12_d2, x_79_1_12_d3, x_79_1_12_d4, x_65, x_79_2_12_d0, x_79_2_12_d1, x_79_2_12_d2, x_79_2_12_d3, x_79_2_12_d4, x_80_3_d0, x_80_3_d1, x_80_3_d2, x_80_3_d3, x_80_3_d4, x_68, x_79_3_12_d0, x_79_3_12_d1, x_79_3_12_d2, x_79_3_12_d3, x_79_3_12_d4, x_3, x_60, x_61, x_7_1_I, x_7_1_A, x_7_1_U, x_4_1, x_63, x_34, x_38_200, cb_ri, cb_rl, cb_rv, cb_th, cb_ite, ps_s, ps_n, u_203_0, u_203_10, u_203_52, u_203_65, u_203_78, u_203_91, u_203_104, u_203_117, u_203_130, u_203_144, u_203_161, w1, w2, w3, w4, h1, h2, h3, h4, Int.reduceEq, Int.reduceLT, Int.reduceLE, reduceIte, Int.reduceAdd, Int.reduceSub, Int.reduceMul, Int.reduceNeg, Int.reduceToNat, Bool.false_eq_true, eq_self, if_pos, if_neg]
  rw [if_neg h4] at w4
  by_cases h5 : isW t e p wPlayer = true
  · rw [if_pos h5] at w5
    simp (disch := omega) only [x_6_0, x_33, x_1, x_62, x_82, x_79_1_12_d0, x_79_1_12_d1, x_79_1_12_d2, x_79_1_12_d3, x_79_1_12_d4, x_65, x_79_2_12_d0, x_79_2_12_d1, x_79_2_12_d2, x_79_2_12_d3, x_79_2_12_d4, x_80_3_d0, x_80_3_d1, x_80_3_d2, x_80_3_d3, x_80_3_d4, x_68, x_79_3_12_d0, x_79_3_12_d1, x_79_3_12_d2, x_79_3_12_d3, x_79_3_12_d4, x_3, x_60, x_61, x_7_1_I, x_7_1_A, x_7_1_U, x_4_1, x_63, x_34, x_38_200, cb_ri, cb_rl, cb_rv, cb_th, cb_ite, ps_s, ps_n, u_203_0, u_203_10, u_203_52, u_203_65, u_203_78, u_203_91, u_203_104, u_203_117, u_203_130, u_203_144, u_203_161, w1, w2, w3, w4, w5, h1, h2, h3, h4, h5, Int.reduceEq, Int.reduceLT, Int.reduceLE, reduceIte, Int.reduceAdd, Int.reduceSub, Int.reduceMul, Int.reduceNeg, Int.reduceToNat, Bool.false_eq_true, eq_self, if_pos, if_neg]
  rw [if_neg h5] at w5
  by_cases h6 : isW t e p wBeat = true
  · rw [if_pos h6] at w6
    simp (disch := omega) only [x_6_0, x_33, x_1, x_62, x_82, x_79_1_12_d0, x_79_1_12_d1, x_79_1_12_d2, x_79_1_12_d3, x_79_1_12_d4, x_65, x_79_2_12_d0, x_79_2_12_d1, x_79_2_12_d2, x_79_2_12_d3, x_79_2_12_d4, x_80_3_d0, x_80_3_d1, x_80_3_d2, x_80_3_d3, x_80_3_d4, x_68, x_79_3_12_d0, x_79_3_12_d1, x_79_3_12_d2, x_79_3_12_d3, x_79_3_12_d4, x_3, x_60, x_61, x_7_1_I, x_7_1_A, x_7_1_U, x_4_1, x_63, x_34, x_38_200, cb_ri, cb_rl, cb_rv, cb_th, cb_ite, ps_s, ps_n, u_203_0, u_203_10, u_203_52, u_203_65, u_203_78, u_203_91, u_203_104, u_203_117, u_203_130, u_203_144, u_203_161, w1, w2, w3, w4, w5, w6, h1, h2, h3, h4, h5, h6, Int.reduceEq, Int.reduceLT, Int.reduceLE, reduceIte, Int.reduceAdd, Int.reduceSub, Int.reduceMul, Int.reduceNeg, Int.reduceToNat, Bool.false_eq_true, eq_self, if_pos, if_neg]
  rw [if_neg h6] at w6
  by_cases h7 : isW t e p wPage = true
  · rw [if_pos h7] at w7
    simp (disch := omega) only [x_6_0, x_33, x_1, x_62, x_82, x_79_1_12_d0, x_79_1_12_d1, x_79_1_12_d2, x_79_1_12_d3, x_79_1_12_d4, x_65, x_79_2_12_d0, x_79_2_12_d1, x_79_2_12_d2, x_79_2_12_d3, x_79_2_12_d4, x_80_3_d0, x_80_3_d1, x_80_3_d2, x_80_3_d3, x_80_3_d4, x_68, x_79_3_12_d0, x_79_3_12_d1, x_79_3_12_d2, x_79_3_12_d3, x_79_3_12_d4, x_3, x_60, x_61, x_7_1_I, x_7_1_A, x_7_1_U, x_4_1, x_63, x_34, x_38_200, cb_ri, cb_rl, cb_rv, cb_th, cb_ite, ps_s, ps_n, u_203_0, u_203_10, u_203_52, u_203_65, u_203_78, u_203_91, u_203_104, u_203_117, u_203_130, u_203_144, u_203_161, w1, w2, w3, w4, w5, w6, w7, h1, h2, h3, h4, h5, h6, h7, Int.reduceEq, Int.reduceLT, Int.reduceLE, reduceIte, Int.reduceAdd, Int.reduceSub, Int.reduceMul, Int.reduceNeg, Int.reduceToNat, Bool.false_eq_true, eq_self, if_pos, if_neg]
  · rw [if_neg h7] at w7
    simp (disch := omega) only [x_6_0, x_33, x_1, x_62, x_82, x_79_1_12_d0, x_79_1_12_d1, x_79_1_12_d2, x_79_1_12_d3, x_79_1_12_d4, x_65, x_79_2_12_d0, x_79_2_12_d1, x_79_2_12_d2, x_79_2_12_d3, x_79_2_12_d4, x_80_3_d0, x_80_3_d1, x_80_3_d2, x_80_3_d3, x_80_3_d4, x_68, x_79_3_12_d0, x_79_3_12_d1, x_79_3_12_d2, x_79_3_12_d3, x_79_3_12_d4, x_3, x_60, x_61, x_7_1_I, x_7_1_A, x_7_1_U, x_4_1, x_63, x_34, x_38_200, cb_ri, cb_rl, cb_rv, cb_th, cb_ite, ps_s, ps_n, u_203_0, u_203_10, u_203_52, u_203_65, u_203_78, u_203_91, u_203_104, u_203_117, u_203_130, u_203_144, u_203_161, w1, w2, w3, w4, w5, w6, w7, h1, h2, h3, h4, h5, h6, h7, Int.reduceEq, Int.reduceLT, Int.reduceLE, reduceIte, Int.reduceAdd, Int.reduceSub, Int.reduceMul, Int.reduceNeg, Int.reduceToNat, Bool.false_eq_true, eq_self, if_pos, if_neg]
theorem nmAt_v {t : Nat → Int} {e p : Nat} (hp : p ≤ e) (h : ¬ nmAt t e p = -1) : 0 ≤ nmAt t e p ∧ nmAt t e p ≤ 6 ∧ sk t e (wE t e p) = nxt t e p ∧ wE t e p ≤ e := by
  unfold nmAt at h ⊢
  by_cases h1 : isW t e p wHand = true
  · rw [if_pos h1]; exact ⟨by decide, by decide, isW_sk hp h1 (by decide)⟩
  rw [if_neg h1] at h ⊢
  by_cases h1 : isW t e p wKey = true
  · rw [if_pos h1]; exact ⟨by decide, by decide, isW_sk hp h1 (by decide)⟩
  rw [if_neg h1] at h ⊢
  by_cases h1 : isW t e p wHard = true
  · rw [if_pos h1]; exact ⟨by decide, by decide, isW_sk hp h1 (by decide)⟩
  rw [if_neg h1] at h ⊢
  by_cases h1 : isW t e p wTired = true
  · rw [if_pos h1]; exact ⟨by decide, by decide, isW_sk hp h1 (by decide)⟩
  rw [if_neg h1] at h ⊢
  by_cases h1 : isW t e p wPlayer = true
  · rw [if_pos h1]; exact ⟨by decide, by decide, isW_sk hp h1 (by decide)⟩
  rw [if_neg h1] at h ⊢
  by_cases h1 : isW t e p wBeat = true
  · rw [if_pos h1]; exact ⟨by decide, by decide, isW_sk hp h1 (by decide)⟩
  rw [if_neg h1] at h ⊢
  by_cases h1 : isW t e p wPage = true
  · rw [if_pos h1]; exact ⟨by decide, by decide, isW_sk hp h1 (by decide)⟩
  rw [if_neg h1] at h
  exact absurd rfl h
/-- the facts that the reference holds -/
def FC (h : Hp) (F : Nat → Int) : Prop := (∀ i, i < 7 → h 200 0 i = F i) ∧ h 201 0 0 = F 7 ∧ (if F 1 < 32 then 1 else 0) = F 8
theorem num_m (lv : Nat) {h : Hp} {t : Nat → Int} {e a : Nat} {F : Nat → Int} (T : TX h t e) (ha : a ≤ e) (hf : h 198 0 0 = -1) (hF : FC h F) : MRes (cl (lv + 6) 203 [aA 12 0] (RD h a)) (pPart t e (sk t e a)) (dn F) h t e := by
  have te := T.1
  have sm := skip_m (lv + 3) T ha
  have hb := sk_b t ha
  have hss := sk_sk t ha
  have hfa : RD h a 198 0 0 = -1 := by rw [RD_o (by omega)]; exact hf
  generalize sk t e a = p at sm hb hss
  have fg := figs_m (lv + 1) 0 999 T hb.2 hf
  rw [hss] at fg
  have e1 := RD_a h p
  have e2 := (RD_TX T p).2.1
  unfold pPart
  by_cases h1 : p < e ∧ isD (t p) = true
  · rw [if_pos h1]
    have l := letter_m (lv + 4) (i := p) (RD_TX T p) (by omega)
    have c2 := isD_t h1.2
    have hnn := fun (q : p < dE t e p) (r : dE t e p ≤ p + 3) => nu_b (t := t) hb.2 q r
    unfold pNum
    by_cases c : (p < dE t e p ∧ dE t e p ≤ p + 3) ∧ nv t p (dE t e p - p) ≤ 999
    · rw [if_pos c]
      rw [if_pos ⟨c.1, (hnn c.1.1 c.1.2).1, c.2⟩] at fg
      have q := isD_sk hb.2 c.1.1
      refine ⟨dE t e p, q.2.1, q.1, ?_⟩
      have hv := (hnn c.1.1 c.1.2).1
      have ed : dn F (16 + nv t p (dE t e p - p)) = nv t p (dE t e p - p) := by unfold dn; rw [if_pos (by omega)]; omega
      rw [ed, in_203]
      generalize t p = y at l c2
      simp (disch := omega) only [x_6_0, x_33, x_1, x_62, x_82, x_79_1_12_d0, x_79_1_12_d1, x_79_1_12_d2, x_79_1_12_d3, x_79_1_12_d4, x_65, x_79_2_12_d0, x_79_2_12_d1, x_79_2_12_d2, x_79_2_12_d3, x_79_2_12_d4, x_80_3_d0, x_80_3_d1, x_80_3_d2, x_80_3_d3, x_80_3_d4, x_68, x_79_3_12_d0, x_79_3_12_d1, x_79_3_12_d2, x_79_3_12_d3, x_79_3_12_d4, x_3, x_60, x_61, x_7_1_I, x_7_1_A, x_7_1_U, x_4_1, x_63, x_34, x_38_200, cb_ri, cb_rl, cb_rv, cb_th, cb_ite, ps_s, ps_n, u_203_0, u_203_10, u_203_52, u_203_65, u_203_78, u_203_91, u_203_104, u_203_117, u_203_130, u_203_144, u_203_145, u_203_161, hfa, sm, e1, e2, l, isIn_c, fg, Int.reduceEq, Int.reduceLT, Int.reduceLE, reduceIte, Int.reduceAdd, Int.reduceSub, Int.reduceMul, Int.reduceNeg, Int.reduceToNat, Bool.false_eq_true, eq_self, if_pos, if_neg]
    · rw [if_neg c]
      rw [if_neg (fun z => c ⟨z.1, z.2.2⟩)] at fg
      obtain ⟨x, a', hz, fg⟩ := fg
      refine ⟨x, a', hz, ?_⟩
      rw [in_203]
      generalize t p = y at l c2
      simp (disch := omega) only [x_6_0, x_33, x_1, x_62, x_82, x_79_1_12_d0, x_79_1_12_d1, x_79_1_12_d2, x_79_1_12_d3, x_79_1_12_d4, x_65, x_79_2_12_d0, x_79_2_12_d1, x_79_2_12_d2, x_79_2_12_d3, x_79_2_12_d4, x_80_3_d0, x_80_3_d1, x_80_3_d2, x_80_3_d3, x_80_3_d4, x_68, x_79_3_12_d0, x_79_3_12_d1, x_79_3_12_d2, x_79_3_12_d3, x_79_3_12_d4, x_3, x_60, x_61, x_7_1_I, x_7_1_A, x_7_1_U, x_4_1, x_63, x_34, x_38_200, cb_ri, cb_rl, cb_rv, cb_th, cb_ite, ps_s, ps_n, u_203_0, u_203_10, u_203_52, u_203_65, u_203_78, u_203_91, u_203_104, u_203_117, u_203_130, u_203_144, u_203_145, u_203_161, hfa, sm, e1, e2, l, isIn_c, fg, Int.reduceEq, Int.reduceLT, Int.reduceLE, reduceIte, Int.reduceAdd, Int.reduceSub, Int.reduceMul, Int.reduceNeg, Int.reduceToNat, Bool.false_eq_true, eq_self, if_pos, if_neg]
  · rw [if_neg h1]
    have nm := nm_m lv T hb.2 hss none
    have st : cl (lv + 6) 203 [aA 12 0] (RD h a) = run (lv + 5) 203 52 [aA 12 0, none] [] (RD h p) := by
      rw [in_203]
      by_cases c1 : p < e
      · have l := letter_m (lv + 4) (i := p) (RD_TX T p) (by omega)
        have c2 : ¬ (48 ≤ t p ∧ t p ≤ 57) := fun z => h1 ⟨c1, by unfold isD; exact decide_eq_true z⟩
        generalize t p = y at l c2
        simp (disch := omega) only [x_6_0, x_33, x_1, x_62, x_82, x_79_1_12_d0, x_79_1_12_d1, x_79_1_12_d2, x_79_1_12_d3, x_79_1_12_d4, x_65, x_79_2_12_d0, x_79_2_12_d1, x_79_2_12_d2, x_79_2_12_d3, x_79_2_12_d4, x_80_3_d0, x_80_3_d1, x_80_3_d2, x_80_3_d3, x_80_3_d4, x_68, x_79_3_12_d0, x_79_3_12_d1, x_79_3_12_d2, x_79_3_12_d3, x_79_3_12_d4, x_3, x_60, x_61, x_7_1_I, x_7_1_A, x_7_1_U, x_4_1, x_63, x_34, x_38_200, cb_ri, cb_rl, cb_rv, cb_th, cb_ite, ps_s, ps_n, u_203_0, u_203_10, u_203_65, u_203_78, u_203_91, u_203_104, u_203_117, u_203_130, u_203_144, u_203_145, u_203_161, hfa, sm, e1, e2, l, isIn_c, Int.reduceEq, Int.reduceLT, Int.reduceLE, reduceIte, Int.reduceAdd, Int.reduceSub, Int.reduceMul, Int.reduceNeg, Int.reduceToNat, Bool.false_eq_true, eq_self, if_pos, if_neg]
      · simp (disch := omega) only [x_6_0, x_33, x_1, x_62, x_82, x_79_1_12_d0, x_79_1_12_d1, x_79_1_12_d2, x_79_1_12_d3, x_79_1_12_d4, x_65, x_79_2_12_d0, x_79_2_12_d1, x_79_2_12_d2, x_79_2_12_d3, x_79_2_12_d4, x_80_3_d0, x_80_3_d1, x_80_3_d2, x_80_3_d3, x_80_3_d4, x_68, x_79_3_12_d0, x_79_3_12_d1, x_79_3_12_d2, x_79_3_12_d3, x_79_3_12_d4, x_3, x_60, x_61, x_7_1_I, x_7_1_A, x_7_1_U, x_4_1, x_63, x_34, x_38_200, cb_ri, cb_rl, cb_rv, cb_th, cb_ite, ps_s, ps_n, u_203_0, u_203_10, u_203_65, u_203_78, u_203_91, u_203_104, u_203_117, u_203_130, u_203_144, u_203_145, u_203_161, hfa, sm, e1, e2, Int.reduceEq, Int.reduceLT, Int.reduceLE, reduceIte, Int.reduceAdd, Int.reduceSub, Int.reduceMul, Int.reduceNeg, Int.reduceToNat, Bool.false_eq_true, eq_self, if_pos, if_neg]
    rw [st, nm]
    by_cases h2 : nmAt t e p = -1
    · rw [if_pos h2, if_pos h2]
      have hfp : RD h p 198 0 0 = -1 := by rw [RD_o (by omega)]; exact hf
      have wr := wrong_m (lv + 4) (RD h p) (p : Int) hfp
      refine ⟨0, (p : Int), by omega, ?_⟩
      show _ = ri _ (hset (RD h p) 198 0 0 _)
      rw [h2]
      simp (disch := omega) only [x_6_0, x_33, x_1, x_62, x_82, x_79_1_12_d0, x_79_1_12_d1, x_79_1_12_d2, x_79_1_12_d3, x_79_1_12_d4, x_65, x_79_2_12_d0, x_79_2_12_d1, x_79_2_12_d2, x_79_2_12_d3, x_79_2_12_d4, x_80_3_d0, x_80_3_d1, x_80_3_d2, x_80_3_d3, x_80_3_d4, x_68, x_79_3_12_d0, x_79_3_12_d1, x_79_3_12_d2, x_79_3_12_d3, x_79_3_12_d4, x_3, x_60, x_61, x_7_1_I, x_7_1_A, x_7_1_U, x_4_1, x_63, x_34, x_38_200, cb_ri, cb_rl, cb_rv, cb_th, cb_ite, ps_s, ps_n, u_203_0, u_203_10, u_203_52, u_203_65, u_203_78, u_203_91, u_203_104, u_203_117, u_203_130, u_203_144, u_203_145, u_203_161, e1, wr, Int.reduceEq, Int.reduceLT, Int.reduceLE, reduceIte, Int.reduceAdd, Int.reduceSub, Int.reduceMul, Int.reduceNeg, Int.reduceToNat, Bool.false_eq_true, eq_self, if_pos, if_neg]
    · rw [if_neg h2, if_neg h2]
      have q := nmAt_v hb.2 h2
      refine ⟨wE t e p, q.2.2.2, q.2.2.1, ?_⟩
      have ed : dn F (nmAt t e p) = F (nmAt t e p).toNat := by unfold dn; rw [if_neg (by omega)]
      have ef : RD h (wE t e p) 200 0 (nmAt t e p).toNat = F (nmAt t e p).toNat := by rw [RD_o (by omega)]; exact hF.1 _ (by omega)
      rw [ed]
      simp (disch := omega) only [x_6_0, x_33, x_1, x_62, x_82, x_79_1_12_d0, x_79_1_12_d1, x_79_1_12_d2, x_79_1_12_d3, x_79_1_12_d4, x_65, x_79_2_12_d0, x_79_2_12_d1, x_79_2_12_d2, x_79_2_12_d3, x_79_2_12_d4, x_80_3_d0, x_80_3_d1, x_80_3_d2, x_80_3_d3, x_80_3_d4, x_68, x_79_3_12_d0, x_79_3_12_d1, x_79_3_12_d2, x_79_3_12_d3, x_79_3_12_d4, x_3, x_60, x_61, x_7_1_I, x_7_1_A, x_7_1_U, x_4_1, x_63, x_34, x_38_200, cb_ri, cb_rl, cb_rv, cb_th, cb_ite, ps_s, ps_n, u_203_0, u_203_10, u_203_52, u_203_65, u_203_78, u_203_91, u_203_104, u_203_117, u_203_130, u_203_144, u_203_145, u_203_161, ef, Int.reduceEq, Int.reduceLT, Int.reduceLE, reduceIte, Int.reduceAdd, Int.reduceSub, Int.reduceMul, Int.reduceNeg, Int.reduceToNat, Bool.false_eq_true, eq_self, if_pos, if_neg]
