/-! THE REFERENCE READS A PIECE, whole. -/
theorem TX_fr {h h' : Hp} {t : Nat → Int} {e : Nat} (T : TX h t e) (h5 : h 195 0 0 = -1) (fr : ∀ tt k j, ¬ (tt = 187 ∧ k = 0) → h' tt k j = h tt k j) : TX h' t e := by
  obtain ⟨t1, t2, t3⟩ := T
  refine ⟨t1, by rw [fr _ _ _ (by omega)]; exact t2, Or.inl ⟨by rw [fr _ _ _ (by omega)]; exact h5, fun i hi => ?_⟩⟩
  rcases t3 with ⟨_, u⟩ | ⟨u, _⟩
  · rw [fr _ _ _ (by omega)]; exact u i hi
  · omega
theorem pread_l (lv : Nat) {t : Nat → Int} {e : Nat} : ∀ (n i : Nat) (S : PcS) (a : Nat) (h : Hp), i + n = 14 → a ≤ e → TX h t e → h 195 0 0 = -1 → h 198 0 0 = -1 → h 187 0 = S.1 → GP S → match pcAll t e n S (sk t e a) with
    | .inl f => ∃ v z h', run (lv + 9) 199 23 [aA 12 0, aI 0, aI 1, aI (i : Int)] [] (RD h a) = ri v (hset (RZ h' z) 198 0 0 (f : Int)) ∧ (∀ j, 346 ≤ j → h' 187 0 j = h 187 0 j) ∧ ∀ tt k j, ¬ (tt = 187 ∧ k = 0) → h' tt k j = h tt k j
    | .inr S' => ∃ v h', run (lv + 9) 199 23 [aA 12 0, aI 0, aI 1, aI (i : Int)] [] (RD h a) = ri v (RD h' e) ∧ h' 187 0 = S'.1 ∧ GP S' ∧ (∀ j, j = 0 ∨ j = 1 ∨ j = 2 ∨ (8 ≤ j ∧ j < 14) ∨ 106 ≤ j → S'.1 j = S.1 j) ∧ ∀ tt k j, ¬ (tt = 187 ∧ k = 0) → h' tt k j = h tt k j := by
  intro n
  induction n with
  | zero =>
    intro i S a h hi ha T h5 hf hm G
    have te := T.1
    have sm := skip_m (lv + 7) T ha
    have hfa : ∀ x, RD h x 198 0 0 = -1 := fun x => by rw [RD_o (by omega)]; exact hf
    have f1 := hfa a
    show ∃ v z h', _
    generalize sk t e a = p at sm
    have e1 := RD_a h p
    have wr := wrong_m (lv + 8) (RD h p) (p : Int) (hfa p)
    obtain ⟨y, sz⟩ := skip_z (lv + 7) T (p : Int) (p : Int) (by omega)
    have wr : _ = rv (hset (RZ h (p : Int)) 198 0 0 (p : Int)) := wr
    have ef : hset (RZ h y) 198 0 0 (p : Int) 198 0 0 = (p : Int) := hs_eq _ _ _ _ _
    refine ⟨((i : Int) + 1), y, h, ?_, fun _ _ => rfl, fun _ _ _ _ => rfl⟩
    rw [hd_199_23]
    simp (disch := omega) only [x_6_0, x_79_1_12_d0, x_79_1_12_d1, x_79_1_12_d2, x_79_1_12_d3, x_79_1_12_d4, x_33, x_65, x_1, x_60, x_61, x_7_2_I, x_7_2_A, x_7_2_U, x_7_3_I, x_7_3_A, x_7_3_U, x_4_2, x_68, x_63, x_4_3, x_4_1, x_79_2_12_d0, x_79_2_12_d1, x_79_2_12_d2, x_79_2_12_d3, x_79_2_12_d4, x_10_3_I, x_10_3_A, x_10_3_U, x_47_I, x_47_A, x_11, x_36, x_82, cb_ri, cb_rl, cb_rv, cb_th, cb_ite, ps_s, ps_n, u_199_0, u_199_19, u_199_20, u_199_49, u_199_51, u_199_65, u_199_76, u_199_80, u_199_106, u_199_111, u_199_133, u_199_144, f1, sm, e1, wr, sz, ef, w32_id, Int.reduceEq, Int.reduceLT, Int.reduceLE, reduceIte, Int.reduceAdd, Int.reduceSub, Int.reduceMul, Int.reduceNeg, Int.reduceToNat, Bool.false_eq_true, eq_self, if_pos, if_neg]
    rw [hd_199_23]
    simp (disch := omega) only [x_6_0, x_79_1_12_d0, x_79_1_12_d1, x_79_1_12_d2, x_79_1_12_d3, x_79_1_12_d4, x_33, x_65, x_1, x_60, x_61, x_7_2_I, x_7_2_A, x_7_2_U, x_7_3_I, x_7_3_A, x_7_3_U, x_4_2, x_68, x_63, x_4_3, x_4_1, x_79_2_12_d0, x_79_2_12_d1, x_79_2_12_d2, x_79_2_12_d3, x_79_2_12_d4, x_10_3_I, x_10_3_A, x_10_3_U, x_47_I, x_47_A, x_11, x_36, x_82, cb_ri, cb_rl, cb_rv, cb_th, cb_ite, ps_s, ps_n, u_199_0, u_199_19, u_199_20, u_199_49, u_199_51, u_199_65, u_199_76, u_199_80, u_199_106, u_199_111, u_199_133, u_199_144, Int.reduceEq, Int.reduceLT, Int.reduceLE, reduceIte, Int.reduceAdd, Int.reduceSub, Int.reduceMul, Int.reduceNeg, Int.reduceToNat, Bool.false_eq_true, eq_self, if_pos, if_neg]
  | succ n ih =>
    intro i S a h hi ha T h5 hf hm G
    have te := T.1
    have sm := skip_m (lv + 7) T ha
    have hfa : ∀ x, RD h x 198 0 0 = -1 := fun x => by rw [RD_o (by omega)]; exact hf
    have f1 := hfa a
    have hb := sk_b t ha
    have hss := sk_sk t ha
    generalize sk t e a = p at sm hb hss
    have ml := pieceLine_m (lv + 1) S T hb.2 hf hm G
    rw [hss] at ml
    show match (match pcLine t e S p with | .inl f => .inl f | .inr (S', r) => if r = e then .inr S' else if isC t e r 59 = true then pcAll t e n S' (nxt t e r) else .inl r : Nat ⊕ PcS) with
      | .inl f => _
      | .inr S' => _
    cases x : pcLine t e S p with
    | inl f =>
      rw [x] at ml
      obtain ⟨z, hz, ml⟩ := ml
      obtain ⟨y, sz⟩ := skip_z (lv + 7) T z (f : Int) hz.1
      have ef : hset (RZ h y) 198 0 0 (f : Int) 198 0 0 = (f : Int) := hs_eq _ _ _ _ _
      refine ⟨((i : Int) + 1), y, h, ?_, fun _ _ => rfl, fun _ _ _ _ => rfl⟩
      rw [hd_199_23]
      simp (disch := omega) only [x_6_0, x_79_1_12_d0, x_79_1_12_d1, x_79_1_12_d2, x_79_1_12_d3, x_79_1_12_d4, x_33, x_65, x_1, x_60, x_61, x_7_2_I, x_7_2_A, x_7_2_U, x_7_3_I, x_7_3_A, x_7_3_U, x_4_2, x_68, x_63, x_4_3, x_4_1, x_79_2_12_d0, x_79_2_12_d1, x_79_2_12_d2, x_79_2_12_d3, x_79_2_12_d4, x_10_3_I, x_10_3_A, x_10_3_U, x_47_I, x_47_A, x_11, x_36, x_82, cb_ri, cb_rl, cb_rv, cb_th, cb_ite, ps_s, ps_n, u_199_0, u_199_19, u_199_20, u_199_49, u_199_51, u_199_65, u_199_76, u_199_80, u_199_106, u_199_111, u_199_133, u_199_144, f1, sm, ml, sz, ef, w32_id, Int.reduceEq, Int.reduceLT, Int.reduceLE, reduceIte, Int.reduceAdd, Int.reduceSub, Int.reduceMul, Int.reduceNeg, Int.reduceToNat, Bool.false_eq_true, eq_self, if_pos, if_neg]
      rw [hd_199_23]
      simp (disch := omega) only [x_6_0, x_79_1_12_d0, x_79_1_12_d1, x_79_1_12_d2, x_79_1_12_d3, x_79_1_12_d4, x_33, x_65, x_1, x_60, x_61, x_7_2_I, x_7_2_A, x_7_2_U, x_7_3_I, x_7_3_A, x_7_3_U, x_4_2, x_68, x_63, x_4_3, x_4_1, x_79_2_12_d0, x_79_2_12_d1, x_79_2_12_d2, x_79_2_12_d3, x_79_2_12_d4, x_10_3_I, x_10_3_A, x_10_3_U, x_47_I, x_47_A, x_11, x_36, x_82, cb_ri, cb_rl, cb_rv, cb_th, cb_ite, ps_s, ps_n, u_199_0, u_199_19, u_199_20, u_199_49, u_199_51, u_199_65, u_199_76, u_199_80, u_199_106, u_199_111, u_199_133, u_199_144, Int.reduceEq, Int.reduceLT, Int.reduceLE, reduceIte, Int.reduceAdd, Int.reduceSub, Int.reduceMul, Int.reduceNeg, Int.reduceToNat, Bool.false_eq_true, eq_self, if_pos, if_neg]
    | inr y =>
      obtain ⟨S', q⟩ := y
      obtain ⟨g1, g2, g3, g4⟩ := pcLine_ok hb.2 G x
      rw [x] at ml
      obtain ⟨a2, h2, n1, n2, ml, k1, k2⟩ := ml
      have T2 := TX_fr T h5 k2
      have hf2 : h2 198 0 0 = -1 := by rw [k2 _ _ _ (by omega)]; exact hf
      have h52 : h2 195 0 0 = -1 := by rw [k2 _ _ _ (by omega)]; exact h5
      have s2 := skip_m (lv + 7) T2 n1
      rw [n2] at s2
      have qq : sk t e q = q := by rw [← n2]; exact sk_sk t n1
      have f2 : RD h2 q 198 0 0 = -1 := by rw [RD_o (by omega)]; exact hf2
      have e1 := RD_a h2 q
      have e2 := (RD_TX T2 q).2.1
      have sg := sign_m (lv + 6) 59 T2 g3
      rw [qq] at sg
      dsimp only
      by_cases h1 : q = e
      · rw [if_pos h1]
        refine ⟨((i : Int) + 1), h2, ?_, k1, g1, g4, k2⟩
        subst h1
        rw [hd_199_23]
        simp (disch := omega) only [x_6_0, x_79_1_12_d0, x_79_1_12_d1, x_79_1_12_d2, x_79_1_12_d3, x_79_1_12_d4, x_33, x_65, x_1, x_60, x_61, x_7_2_I, x_7_2_A, x_7_2_U, x_7_3_I, x_7_3_A, x_7_3_U, x_4_2, x_68, x_63, x_4_3, x_4_1, x_79_2_12_d0, x_79_2_12_d1, x_79_2_12_d2, x_79_2_12_d3, x_79_2_12_d4, x_10_3_I, x_10_3_A, x_10_3_U, x_47_I, x_47_A, x_11, x_36, x_82, cb_ri, cb_rl, cb_rv, cb_th, cb_ite, ps_s, ps_n, u_199_0, u_199_19, u_199_20, u_199_49, u_199_51, u_199_65, u_199_76, u_199_80, u_199_106, u_199_111, u_199_133, u_199_144, f1, sm, ml, s2, f2, e1, e2, w32_id, Int.reduceEq, Int.reduceLT, Int.reduceLE, reduceIte, Int.reduceAdd, Int.reduceSub, Int.reduceMul, Int.reduceNeg, Int.reduceToNat, Bool.false_eq_true, eq_self, if_pos, if_neg]
        rw [hd_199_23]
        simp (disch := omega) only [x_6_0, x_79_1_12_d0, x_79_1_12_d1, x_79_1_12_d2, x_79_1_12_d3, x_79_1_12_d4, x_33, x_65, x_1, x_60, x_61, x_7_2_I, x_7_2_A, x_7_2_U, x_7_3_I, x_7_3_A, x_7_3_U, x_4_2, x_68, x_63, x_4_3, x_4_1, x_79_2_12_d0, x_79_2_12_d1, x_79_2_12_d2, x_79_2_12_d3, x_79_2_12_d4, x_10_3_I, x_10_3_A, x_10_3_U, x_47_I, x_47_A, x_11, x_36, x_82, cb_ri, cb_rl, cb_rv, cb_th, cb_ite, ps_s, ps_n, u_199_0, u_199_19, u_199_20, u_199_49, u_199_51, u_199_65, u_199_76, u_199_80, u_199_106, u_199_111, u_199_133, u_199_144, Int.reduceEq, Int.reduceLT, Int.reduceLE, reduceIte, Int.reduceAdd, Int.reduceSub, Int.reduceMul, Int.reduceNeg, Int.reduceToNat, Bool.false_eq_true, eq_self, if_pos, if_neg]
      · rw [if_neg h1]
        have h1' : ¬ (q : Int) = (e : Int) := by omega
        by_cases hc : isC t e q 59 = true
        · rw [if_pos hc] at sg ⊢
          have qs := isC_sk hc (by decide) (by decide)
          have st := RD_RD h2 q (q + 1)
          have cc : ((q : Int) + 1) = ((q + 1 : Nat) : Int) := by omega
          have r := ih (i + 1) S' (q + 1) h2 (by omega) qs.2 T2 h52 hf2 k1 g1
          rw [qs.1] at r
          have go : run (lv + 9) 199 23 [aA 12 0, aI 0, aI 1, aI (i : Int)] [] (RD h a) = run (lv + 9) 199 23 [aA 12 0, aI 0, aI 1, aI ((i + 1 : Nat) : Int)] [] (RD h2 (q + 1)) := by
            rw [hd_199_23]
            simp (disch := omega) only [x_6_0, x_79_1_12_d0, x_79_1_12_d1, x_79_1_12_d2, x_79_1_12_d3, x_79_1_12_d4, x_33, x_65, x_1, x_60, x_61, x_7_2_I, x_7_2_A, x_7_2_U, x_7_3_I, x_7_3_A, x_7_3_U, x_4_2, x_68, x_63, x_4_3, x_4_1, x_79_2_12_d0, x_79_2_12_d1, x_79_2_12_d2, x_79_2_12_d3, x_79_2_12_d4, x_10_3_I, x_10_3_A, x_10_3_U, x_47_I, x_47_A, x_11, x_36, x_82, cb_ri, cb_rl, cb_rv, cb_th, cb_ite, ps_s, ps_n, u_199_0, u_199_19, u_199_20, u_199_49, u_199_51, u_199_65, u_199_76, u_199_80, u_199_106, u_199_111, u_199_133, u_199_144, f1, sm, ml, s2, f2, e1, e2, h1', sg, w32_id, cc, st, Int.reduceEq, Int.reduceLT, Int.reduceLE, reduceIte, Int.reduceAdd, Int.reduceSub, Int.reduceMul, Int.reduceNeg, Int.reduceToNat, Bool.false_eq_true, eq_self, if_pos, if_neg, ci]
          rw [go]
          cases y : pcAll t e n S' (nxt t e q) with
          | inl f =>
            rw [y] at r
            obtain ⟨v, z, h', r1, r2, r3⟩ := r
            exact ⟨v, z, h', r1, fun j hj => by rw [r2 j hj, k1, hm]; exact g4 j (by omega), fun tt k j hn => by rw [r3 tt k j hn, k2 tt k j hn]⟩
          | inr S2 =>
            rw [y] at r
            obtain ⟨v, h', r1, r2, r3, r4, r5⟩ := r
            exact ⟨v, h', r1, r2, r3, fun j hj => by rw [r4 j hj, g4 j hj], fun tt k j hn => by rw [r5 tt k j hn, k2 tt k j hn]⟩
        · rw [if_neg hc] at sg ⊢
          have wr := wrong_m (lv + 8) (RD h2 q) (q : Int) f2
          have ef : hset (RD h2 q) 198 0 0 (q : Int) 198 0 0 = (q : Int) := hs_eq _ _ _ _ _
          refine ⟨((i : Int) + 1), (q : Int), h2, ?_, fun j hj => by rw [k1, hm]; exact g4 j (by omega), k2⟩
          show _ = ri _ (hset (RD h2 q) 198 0 0 _)
          rw [hd_199_23]
          simp (disch := omega) only [x_6_0, x_79_1_12_d0, x_79_1_12_d1, x_79_1_12_d2, x_79_1_12_d3, x_79_1_12_d4, x_33, x_65, x_1, x_60, x_61, x_7_2_I, x_7_2_A, x_7_2_U, x_7_3_I, x_7_3_A, x_7_3_U, x_4_2, x_68, x_63, x_4_3, x_4_1, x_79_2_12_d0, x_79_2_12_d1, x_79_2_12_d2, x_79_2_12_d3, x_79_2_12_d4, x_10_3_I, x_10_3_A, x_10_3_U, x_47_I, x_47_A, x_11, x_36, x_82, cb_ri, cb_rl, cb_rv, cb_th, cb_ite, ps_s, ps_n, u_199_0, u_199_19, u_199_20, u_199_49, u_199_51, u_199_65, u_199_76, u_199_80, u_199_106, u_199_111, u_199_133, u_199_144, f1, sm, ml, s2, f2, e1, e2, h1', sg, wr, w32_id, Int.reduceEq, Int.reduceLT, Int.reduceLE, reduceIte, Int.reduceAdd, Int.reduceSub, Int.reduceMul, Int.reduceNeg, Int.reduceToNat, Bool.false_eq_true, eq_self, if_pos, if_neg]
          rw [hd_199_23]
          simp (disch := omega) only [x_6_0, x_79_1_12_d0, x_79_1_12_d1, x_79_1_12_d2, x_79_1_12_d3, x_79_1_12_d4, x_33, x_65, x_1, x_60, x_61, x_7_2_I, x_7_2_A, x_7_2_U, x_7_3_I, x_7_3_A, x_7_3_U, x_4_2, x_68, x_63, x_4_3, x_4_1, x_79_2_12_d0, x_79_2_12_d1, x_79_2_12_d2, x_79_2_12_d3, x_79_2_12_d4, x_10_3_I, x_10_3_A, x_10_3_U, x_47_I, x_47_A, x_11, x_36, x_82, cb_ri, cb_rl, cb_rv, cb_th, cb_ite, ps_s, ps_n, u_199_0, u_199_19, u_199_20, u_199_49, u_199_51, u_199_65, u_199_76, u_199_80, u_199_106, u_199_111, u_199_133, u_199_144, ef, Int.reduceEq, Int.reduceLT, Int.reduceLE, reduceIte, Int.reduceAdd, Int.reduceSub, Int.reduceMul, Int.reduceNeg, Int.reduceToNat, Bool.false_eq_true, eq_self, if_pos, if_neg]
theorem pread_m (lv : Nat) {t : Nat → Int} {e : Nat} (S : PcS) (h : Hp) (T : TX h t e) (h5 : h 195 0 0 = -1) (h7 : h 197 0 0 = 0) (hf : h 198 0 0 = -1) (hm : h 187 0 = S.1) (G : GP S) : match pcOf t e S with
    | .inl f => ∃ v h', cl (lv + 10) 199 [aA 12 0, aI 0] h = ri v h' ∧ h' 198 0 0 = (f : Int) ∧ (∀ j, 346 ≤ j → h' 187 0 j = h 187 0 j) ∧ ∀ tt k j, ¬ (k = 0 ∧ (tt = 187 ∨ tt = 197 ∨ tt = 198)) → h' tt k j = h tt k j
    | .inr S' => ∃ v h', cl (lv + 10) 199 [aA 12 0, aI 0] h = ri v h' ∧ h' 198 0 0 = -1 ∧ h' 187 0 = S'.1 ∧ GP S' ∧ (∀ j, j = 0 ∨ j = 1 ∨ j = 2 ∨ (8 ≤ j ∧ j < 14) ∨ 106 ≤ j → S'.1 j = S.1 j) ∧ ∀ tt k j, ¬ (k = 0 ∧ (tt = 187 ∨ tt = 197 ∨ tt = 198)) → h' tt k j = h tt k j := by
  have h0 : RD h 0 = h := RD_self h7
  have sm := skip_m (lv + 7) T (Nat.zero_le e)
  rw [h0] at sm
  have hb := sk_b t (Nat.zero_le e)
  have hss := sk_sk t (Nat.zero_le e)
  unfold pcOf
  generalize sk t e 0 = p at sm hb hss
  have e1 := RD_a h p
  have e2 := (RD_TX T p).2.1
  have ro : ∀ (g : Hp) (x : Nat) tt k j, ¬ (k = 0 ∧ (tt = 187 ∨ tt = 197 ∨ tt = 198)) → RD g x tt k j = g tt k j := fun g x tt k j hn => by unfold RD RZ; exact hs_o (by omega)
  by_cases h1 : p = e
  · rw [if_pos h1]
    refine ⟨0, RD h p, ?_, by rw [RD_o (by omega)]; exact hf, by rw [← hm]; funext j; exact RD_o (by omega), G, fun _ _ => rfl, fun tt k j hn => ro h p tt k j hn⟩
    subst h1
    rw [in_199]
    simp (disch := omega) only [x_6_0, x_79_1_12_d0, x_79_1_12_d1, x_79_1_12_d2, x_79_1_12_d3, x_79_1_12_d4, x_33, x_65, x_1, x_60, x_61, x_7_2_I, x_7_2_A, x_7_2_U, x_7_3_I, x_7_3_A, x_7_3_U, x_4_2, x_68, x_63, x_4_3, x_4_1, x_79_2_12_d0, x_79_2_12_d1, x_79_2_12_d2, x_79_2_12_d3, x_79_2_12_d4, x_10_3_I, x_10_3_A, x_10_3_U, x_47_I, x_47_A, x_11, x_36, x_82, cb_ri, cb_rl, cb_rv, cb_th, cb_ite, ps_s, ps_n, u_199_0, u_199_19, u_199_20, u_199_49, u_199_51, u_199_65, u_199_76, u_199_80, u_199_106, u_199_111, u_199_133, u_199_144, sm, e1, e2, Int.reduceEq, Int.reduceLT, Int.reduceLE, reduceIte, Int.reduceAdd, Int.reduceSub, Int.reduceMul, Int.reduceNeg, Int.reduceToNat, Bool.false_eq_true, eq_self, if_pos, if_neg]
    rw [hd_199_23]
    simp (disch := omega) only [x_6_0, x_79_1_12_d0, x_79_1_12_d1, x_79_1_12_d2, x_79_1_12_d3, x_79_1_12_d4, x_33, x_65, x_1, x_60, x_61, x_7_2_I, x_7_2_A, x_7_2_U, x_7_3_I, x_7_3_A, x_7_3_U, x_4_2, x_68, x_63, x_4_3, x_4_1, x_79_2_12_d0, x_79_2_12_d1, x_79_2_12_d2, x_79_2_12_d3, x_79_2_12_d4, x_10_3_I, x_10_3_A, x_10_3_U, x_47_I, x_47_A, x_11, x_36, x_82, cb_ri, cb_rl, cb_rv, cb_th, cb_ite, ps_s, ps_n, u_199_0, u_199_19, u_199_20, u_199_49, u_199_51, u_199_65, u_199_76, u_199_80, u_199_106, u_199_111, u_199_133, u_199_144, Int.reduceEq, Int.reduceLT, Int.reduceLE, reduceIte, Int.reduceAdd, Int.reduceSub, Int.reduceMul, Int.reduceNeg, Int.reduceToNat, Bool.false_eq_true, eq_self, if_pos, if_neg]
  · rw [if_neg h1]
    have r := pread_l lv (t := t) (e := e) 14 0 S p h rfl hb.2 T h5 hf hm G
    rw [hss] at r
    have st : cl (lv + 10) 199 [aA 12 0, aI 0] h = run (lv + 9) 199 23 [aA 12 0, aI 0, aI 1, aI ((0 : Nat) : Int)] [] (RD h p) := by
      rw [in_199]
      simp (disch := omega) only [x_6_0, x_79_1_12_d0, x_79_1_12_d1, x_79_1_12_d2, x_79_1_12_d3, x_79_1_12_d4, x_33, x_65, x_1, x_60, x_61, x_7_2_I, x_7_2_A, x_7_2_U, x_7_3_I, x_7_3_A, x_7_3_U, x_4_2, x_68, x_63, x_4_3, x_4_1, x_79_2_12_d0, x_79_2_12_d1, x_79_2_12_d2, x_79_2_12_d3, x_79_2_12_d4, x_10_3_I, x_10_3_A, x_10_3_U, x_47_I, x_47_A, x_11, x_36, x_82, cb_ri, cb_rl, cb_rv, cb_th, cb_ite, ps_s, ps_n, u_199_0, u_199_19, u_199_20, u_199_49, u_199_51, u_199_65, u_199_76, u_199_80, u_199_106, u_199_111, u_199_133, u_199_144, sm, e1, e2, Int.reduceEq, Int.reduceLT, Int.reduceLE, reduceIte, Int.reduceAdd, Int.reduceSub, Int.reduceMul, Int.reduceNeg, Int.reduceToNat, Bool.false_eq_true, eq_self, if_pos, if_neg]
      rfl
    rw [st]
    cases y : pcAll t e 14 S p with
    | inl f =>
      rw [y] at r
      obtain ⟨v, z, h', r1, r2, r3⟩ := r
      refine ⟨v, _, r1, hs_eq _ _ _ _ _, fun j hj => by unfold RZ; rw [hs_t (by omega), hs_t (by omega)]; exact r2 j hj, fun tt k j hn => ?_⟩
      unfold RZ
      rw [hs_o (by omega), hs_o (by omega), r3 tt k j (by omega)]
    | inr S' =>
      rw [y] at r
      obtain ⟨v, h', r1, r2, r3, r4, r5⟩ := r
      exact ⟨v, RD h' e, r1, by rw [RD_o (by omega), r5 _ _ _ (by omega)]; exact hf, by rw [← r2]; funext j; exact RD_o (by omega), r3, r4, fun tt k j hn => by rw [ro h' e tt k j hn, r5 tt k j (by omega)]⟩
