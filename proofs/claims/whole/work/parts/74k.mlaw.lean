theorem mL_o {h : Hp} {A B : Bool} {g : Int} {tt k i : Nat} (ht : tt ≠ 202 ∧ tt ≠ 203 ∧ tt ≠ 204) : mL h A B g tt k i = h tt k i := by
  unfold mL; rw [hs_o (by omega), hs_o (by omega), hs_o (by omega)]
theorem mL_TX {h : Hp} {t : Nat → Int} {e : Nat} {A B : Bool} {g : Int} (T : TX h t e) : TX (mL h A B g) t e := by
  obtain ⟨t1, t2, t3⟩ := T
  refine ⟨t1, by rw [mL_o (by omega)]; exact t2, ?_⟩
  rcases t3 with ⟨u, w⟩ | ⟨u, w⟩
  · left; exact ⟨by rw [mL_o (by omega)]; exact u, fun i hi => by rw [mL_o (by omega)]; exact w i hi⟩
  · right; exact ⟨by rw [mL_o (by omega)]; exact u, fun i hi => by rw [mL_o (by omega)]; exact w i hi⟩
theorem mL_FC {h : Hp} {F : Nat → Int} {A B : Bool} {g : Int} (hF : FC h F) : FC (mL h A B g) F := ⟨fun i hi => by rw [mL_o (by omega)]; exact hF.1 i hi, by rw [mL_o (by omega)]; exact hF.2.1, hF.2.2⟩
theorem mline_m (lv : Nat) {h : Hp} {t : Nat → Int} {e a : Nat} {F : Nat → Int} (A B : Bool) (g : Int) (T : TX h t e) (ha : a ≤ e) (hf : h 198 0 0 = -1) (hF : FC h F) (hO : FZ F) (hD : h 199 0 0 = 0) (hg : -1000 ≤ g ∧ g ≤ 1000) : match pLine t e (sk t e a) with
    | .inl f => ∃ z, (0 ≤ z ∧ z ≤ (e : Int) + 6) ∧ cl (lv + 30) 209 [aA 12 0] (RD (mL h A B g) a) = rv (hset (RZ (mL h A B g) z) 198 0 0 (f : Int))
    | .inr (x, q) => ∃ a', a' ≤ e ∧ sk t e a' = q ∧ cl (lv + 30) 209 [aA 12 0] (RD (mL h A B g) a) = rv (RD (mL h (A || decide (x.1 = 2)) (B || tk1 F x) (g + gn1 F x)) a') := by
  have T' : TX (mL h A B g) t e := mL_TX T
  have hF' : FC (mL h A B g) F := mL_FC hF
  have hf' : mL h A B g 198 0 0 = -1 := by rw [mL_o (by omega)]; exact hf
  have hD' : mL h A B g 199 0 0 = 0 := by rw [mL_o (by omega)]; exact hD
  have hfa : ∀ x, RD (mL h A B g) x 198 0 0 = -1 := fun x => by rw [RD_o (by omega)]; exact hf'
  have mk := mkind_m (lv + 24) T' ha
  have hb := sk_b t ha
  rw [mk]
  generalize sk t e a = p at hb
  unfold pLine
  by_cases hk : knd t e p = -1
  · rw [if_pos hk, if_pos hk, hk]
    have e1 := RD_a (mL h A B g) p
    have wr := wrong_m (lv + 28) (RD (mL h A B g) p) (p : Int) (hfa p)
    refine ⟨(p : Int), by omega, ?_⟩
    show _ = rv (hset (RD (mL h A B g) p) 198 0 0 _)
    simp (disch := omega) only [x_6_0, x_3, x_79_2_12_d0, x_79_2_12_d1, x_79_2_12_d2, x_79_2_12_d3, x_79_2_12_d4, x_68, x_1, x_60, x_61, x_7_1_I, x_7_1_A, x_7_1_U, x_4_1, x_63, x_33, x_83, x_79_3_12_d0, x_79_3_12_d1, x_79_3_12_d2, x_79_3_12_d3, x_79_3_12_d4, x_7_2_I, x_7_2_A, x_7_2_U, x_62, x_79_1_12_d0, x_79_1_12_d1, x_79_1_12_d2, x_79_1_12_d3, x_79_1_12_d4, x_7_3_I, x_7_3_A, x_7_3_U, x_69, x_37, x_4_3, x_47_I, x_47_A, x_4_2, x_16, x_11, x_36, cb_ri, cb_rl, cb_rv, cb_th, cb_ite, ps_s, ps_n, u_209_0, u_209_13, u_209_26, u_209_39, u_209_40, u_209_55, u_209_64, u_209_71, u_209_81, u_209_97, u_209_101, u_209_102, u_209_112, u_209_125, u_209_129, u_209_130, u_209_138, u_209_151, u_209_155, u_209_156, u_209_172, u_209_182, u_209_183, e1, wr, Int.reduceEq, Int.reduceLT, Int.reduceLE, reduceIte, Int.reduceAdd, Int.reduceSub, Int.reduceMul, Int.reduceNeg, Int.reduceToNat, Bool.false_eq_true, eq_self, if_pos, if_neg]
  rw [if_neg hk, if_neg hk]
  obtain ⟨kv, k1, k2⟩ := knd_v hb.2 hk
  by_cases h2 : knd t e p = 2
  · simp only [h2, if_pos]
    have mc := mcond_m lv (a := wE t e p) T' k2 hf' hF' hO hD' 2 0
    rw [k1] at mc
    have f1 := hfa (wE t e p)
    have st : run (lv + 24 + 5) 209 40 [aA 12 0, none, none, none] [aI 2] (RD (mL h A B g) (wE t e p)) = run (lv + 29) 209 81 [aA 12 0, aI 2, aI 0, none] [] (RD (mL h A B g) (wE t e p)) := by
      simp (disch := omega) only [x_6_0, x_3, x_79_2_12_d0, x_79_2_12_d1, x_79_2_12_d2, x_79_2_12_d3, x_79_2_12_d4, x_68, x_1, x_60, x_61, x_7_1_I, x_7_1_A, x_7_1_U, x_4_1, x_63, x_33, x_83, x_79_3_12_d0, x_79_3_12_d1, x_79_3_12_d2, x_79_3_12_d3, x_79_3_12_d4, x_7_2_I, x_7_2_A, x_7_2_U, x_62, x_79_1_12_d0, x_79_1_12_d1, x_79_1_12_d2, x_79_1_12_d3, x_79_1_12_d4, x_7_3_I, x_7_3_A, x_7_3_U, x_69, x_37, x_4_3, x_47_I, x_47_A, x_4_2, x_16, x_11, x_36, cb_ri, cb_rl, cb_rv, cb_th, cb_ite, ps_s, ps_n, u_209_0, u_209_13, u_209_26, u_209_39, u_209_40, u_209_55, u_209_64, u_209_71, u_209_97, u_209_101, u_209_102, u_209_112, u_209_125, u_209_129, u_209_130, u_209_138, u_209_151, u_209_155, u_209_156, u_209_172, u_209_182, u_209_183, f1, Int.reduceEq, Int.reduceLT, Int.reduceLE, reduceIte, Int.reduceAdd, Int.reduceSub, Int.reduceMul, Int.reduceNeg, Int.reduceToNat, Bool.false_eq_true, eq_self, if_pos, if_neg]
    rw [st]
    cases hc : pCond t e (nxt t e p) with
    | inl f => rw [hc] at mc; exact mc
    | inr z =>
      obtain ⟨b, r⟩ := z
      rw [hc] at mc
      obtain ⟨a2, n1, n2, mc⟩ := mc
      refine ⟨a2, n1, n2, ?_⟩
      rw [mc, mfin_m _ h A B (b.2 F) g 2 0 a2 (by omega) (by omega) hg]
      unfold tk1 gn1
      cases b.2 F <;> rfl
  · simp only [h2, if_false]
    have fg := figs_m (lv + 25) 0 40 T' k2 hf'
    rw [k1] at fg
    have hm := nxt_le t hb.2
    have f1 := hfa (wE t e p)
    unfold pNum
    by_cases c : (nxt t e p < dE t e (nxt t e p) ∧ dE t e (nxt t e p) ≤ nxt t e p + 3) ∧ nv t (nxt t e p) (dE t e (nxt t e p) - nxt t e p) ≤ 40
    · have hv := nu_b (t := t) hm c.1.1 c.1.2
      rw [if_pos ⟨c.1, hv.1, c.2⟩] at fg
      rw [if_pos c]
      have q := isD_sk hm c.1.1
      have c40 := c.2
      generalize nv t (nxt t e p) (dE t e (nxt t e p) - nxt t e p) = v at fg hv c40
      dsimp only
      have mc := mcond_m lv (a := dE t e (nxt t e p)) T' q.2.1 hf' hF' hO hD' (knd t e p) v
      rw [q.1] at mc
      have f2 := hfa (dE t e (nxt t e p))
      have st : run (lv + 24 + 5) 209 40 [aA 12 0, none, none, none] [aI (knd t e p)] (RD (mL h A B g) (wE t e p)) = run (lv + 29) 209 81 [aA 12 0, aI (knd t e p), aI v, none] [] (RD (mL h A B g) (dE t e (nxt t e p))) := by
        simp (disch := omega) only [x_6_0, x_3, x_79_2_12_d0, x_79_2_12_d1, x_79_2_12_d2, x_79_2_12_d3, x_79_2_12_d4, x_68, x_1, x_60, x_61, x_7_1_I, x_7_1_A, x_7_1_U, x_4_1, x_63, x_33, x_83, x_79_3_12_d0, x_79_3_12_d1, x_79_3_12_d2, x_79_3_12_d3, x_79_3_12_d4, x_7_2_I, x_7_2_A, x_7_2_U, x_62, x_79_1_12_d0, x_79_1_12_d1, x_79_1_12_d2, x_79_1_12_d3, x_79_1_12_d4, x_7_3_I, x_7_3_A, x_7_3_U, x_69, x_37, x_4_3, x_47_I, x_47_A, x_4_2, x_16, x_11, x_36, cb_ri, cb_rl, cb_rv, cb_th, cb_ite, ps_s, ps_n, u_209_0, u_209_13, u_209_26, u_209_39, u_209_40, u_209_55, u_209_64, u_209_71, u_209_97, u_209_101, u_209_102, u_209_112, u_209_125, u_209_129, u_209_130, u_209_138, u_209_151, u_209_155, u_209_156, u_209_172, u_209_182, u_209_183, fg, f2, Int.reduceEq, Int.reduceLT, Int.reduceLE, reduceIte, Int.reduceAdd, Int.reduceSub, Int.reduceMul, Int.reduceNeg, Int.reduceToNat, Bool.false_eq_true, eq_self, if_pos, if_neg]
      rw [st]
      cases hc : pCond t e (nxt t e (nxt t e p)) with
      | inl f => rw [hc] at mc; exact mc
      | inr z =>
        obtain ⟨b, r⟩ := z
        rw [hc] at mc
        obtain ⟨a2, n1, n2, mc⟩ := mc
        refine ⟨a2, n1, n2, ?_⟩
        rw [mc, mfin_m _ h A B (b.2 F) g (knd t e p) v a2 kv (by omega) hg]
        unfold tk1 gn1
        rcases kv with kk | kk | kk
        · rw [kk]; cases b.2 F <;> rfl
        · rw [kk]; cases b.2 F <;> rfl
        · exact absurd kk h2
    · rw [if_neg (fun z => c ⟨z.1, z.2.2⟩)] at fg
      rw [if_neg c]
      obtain ⟨x, z, hz, fg⟩ := fg
      refine ⟨z, by omega, ?_⟩
      have ef : hset (RZ (mL h A B g) z) 198 0 0 ((nxt t e p : Nat) : Int) 198 0 0 = ((nxt t e p : Nat) : Int) := hs_eq _ _ _ _ _
      simp (disch := omega) only [x_6_0, x_3, x_79_2_12_d0, x_79_2_12_d1, x_79_2_12_d2, x_79_2_12_d3, x_79_2_12_d4, x_68, x_1, x_60, x_61, x_7_1_I, x_7_1_A, x_7_1_U, x_4_1, x_63, x_33, x_83, x_79_3_12_d0, x_79_3_12_d1, x_79_3_12_d2, x_79_3_12_d3, x_79_3_12_d4, x_7_2_I, x_7_2_A, x_7_2_U, x_62, x_79_1_12_d0, x_79_1_12_d1, x_79_1_12_d2, x_79_1_12_d3, x_79_1_12_d4, x_7_3_I, x_7_3_A, x_7_3_U, x_69, x_37, x_4_3, x_47_I, x_47_A, x_4_2, x_16, x_11, x_36, cb_ri, cb_rl, cb_rv, cb_th, cb_ite, ps_s, ps_n, u_209_0, u_209_13, u_209_26, u_209_39, u_209_40, u_209_55, u_209_64, u_209_71, u_209_81, u_209_97, u_209_101, u_209_102, u_209_112, u_209_125, u_209_129, u_209_130, u_209_138, u_209_151, u_209_155, u_209_156, u_209_172, u_209_182, u_209_183, fg, ef, Int.reduceEq, Int.reduceLT, Int.reduceLE, reduceIte, Int.reduceAdd, Int.reduceSub, Int.reduceMul, Int.reduceNeg, Int.reduceToNat, Bool.false_eq_true, eq_self, if_pos, if_neg]
