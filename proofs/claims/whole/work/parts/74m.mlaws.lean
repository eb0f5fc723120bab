def hasTk (L : List LN) : Bool := L.any (fun x => decide (x.1 = 2))
theorem hasTk_a (L : List LN) (x : LN) : hasTk (L ++ [x]) = (hasTk L || decide (x.1 = 2)) := by unfold hasTk; simp
/-- the law's lines, gathered -/
def mG (h : Hp) (F : Nat → Int) (L : List LN) : Hp := mL h (hasTk L) (takeS F L) (gainS F L)
theorem mread_l (lv : Nat) {h : Hp} {t : Nat → Int} {e : Nat} {F : Nat → Int} (T : TX h t e) (hf : h 198 0 0 = -1) (hF : FC h F) (hO : FZ F) (hD : h 199 0 0 = 0) : ∀ (n : Nat) (L : List LN) (a : Nat), a ≤ e → L.length + n = 12 → (∀ x ∈ L, LnG x) → match pLaw t e n L (sk t e a) with
    | .inl f => ∃ v z L', run (lv + 30) 199 23 [aA 12 0, aI 1, aI 1, aI (L.length : Int)] [] (RD (mG h F L) a) = ri v (hset (RZ (mG h F L') z) 198 0 0 (f : Int))
    | .inr L' => run (lv + 30) 199 23 [aA 12 0, aI 1, aI 1, aI (L.length : Int)] [] (RD (mG h F L) a) = ri (L'.length : Int) (RD (mG h F L') e) := by
  intro n
  induction n with
  | zero =>
    intro L a ha hn hL
    have T' : TX (mG h F L) t e := mL_TX T
    have sm := skip_m (lv + 28) T' ha
    have hfa : ∀ x, RD (mG h F L) x 198 0 0 = -1 := fun x => by rw [RD_o (by omega)]; show mL _ _ _ _ _ _ _ = _; rw [mL_o (by omega)]; exact hf
    have f1 := hfa a
    generalize sk t e a = p at sm
    have e1 := RD_a (mG h F L) p
    have wr := wrong_m (lv + 29) (RD (mG h F L) p) (p : Int) (hfa p)
    obtain ⟨y, sz⟩ := skip_z (lv + 28) T' (p : Int) (p : Int) (by omega)
    have wr : _ = rv (hset (RZ (mG h F L) (p : Int)) 198 0 0 (p : Int)) := wr
    have ef : hset (RZ (mG h F L) y) 198 0 0 (p : Int) 198 0 0 = (p : Int) := hs_eq _ _ _ _ _
    refine ⟨((L.length : Int) + 1), y, L, ?_⟩
    rw [hd_199_23]
    simp (disch := omega) only [x_6_0, x_79_1_12_d0, x_79_1_12_d1, x_79_1_12_d2, x_79_1_12_d3, x_79_1_12_d4, x_33, x_65, x_1, x_60, x_61, x_7_2_I, x_7_2_A, x_7_2_U, x_7_3_I, x_7_3_A, x_7_3_U, x_4_2, x_68, x_63, x_4_3, x_4_1, x_79_2_12_d0, x_79_2_12_d1, x_79_2_12_d2, x_79_2_12_d3, x_79_2_12_d4, x_10_3_I, x_10_3_A, x_10_3_U, x_47_I, x_47_A, x_11, x_36, x_82, cb_ri, cb_rl, cb_rv, cb_th, cb_ite, ps_s, ps_n, u_199_0, u_199_19, u_199_20, u_199_49, u_199_51, u_199_65, u_199_76, u_199_80, u_199_106, u_199_111, u_199_133, u_199_144, f1, sm, e1, wr, sz, ef, w32_id, Int.reduceEq, Int.reduceLT, Int.reduceLE, reduceIte, Int.reduceAdd, Int.reduceSub, Int.reduceMul, Int.reduceNeg, Int.reduceToNat, Bool.false_eq_true, eq_self, if_pos, if_neg]
    rw [hd_199_23]
    simp (disch := omega) only [x_6_0, x_79_1_12_d0, x_79_1_12_d1, x_79_1_12_d2, x_79_1_12_d3, x_79_1_12_d4, x_33, x_65, x_1, x_60, x_61, x_7_2_I, x_7_2_A, x_7_2_U, x_7_3_I, x_7_3_A, x_7_3_U, x_4_2, x_68, x_63, x_4_3, x_4_1, x_79_2_12_d0, x_79_2_12_d1, x_79_2_12_d2, x_79_2_12_d3, x_79_2_12_d4, x_10_3_I, x_10_3_A, x_10_3_U, x_47_I, x_47_A, x_11, x_36, x_82, cb_ri, cb_rl, cb_rv, cb_th, cb_ite, ps_s, ps_n, u_199_0, u_199_19, u_199_20, u_199_49, u_199_51, u_199_65, u_199_76, u_199_80, u_199_106, u_199_111, u_199_133, u_199_144, Int.reduceEq, Int.reduceLT, Int.reduceLE, reduceIte, Int.reduceAdd, Int.reduceSub, Int.reduceMul, Int.reduceNeg, Int.reduceToNat, Bool.false_eq_true, eq_self, if_pos, if_neg]
  | succ n ih =>
    intro L a ha hn hL
    have te := T.1
    have T' : TX (mG h F L) t e := mL_TX T
    have sm := skip_m (lv + 28) T' ha
    have hfa : ∀ L x, RD (mG h F L) x 198 0 0 = -1 := fun L x => by rw [RD_o (by omega)]; show mL _ _ _ _ _ _ _ = _; rw [mL_o (by omega)]; exact hf
    have f1 := hfa L a
    have hb := sk_b t ha
    have hss := sk_sk t ha
    have gb := gainS_b F L hL
    generalize sk t e a = p at sm hb hss
    have ml := mline_m lv (hasTk L) (takeS F L) (gainS F L) T hb.2 hf hF hO hD (by omega)
    rw [hss] at ml
    unfold pLaw
    cases hq : pLine t e p with
    | inl f =>
      rw [hq] at ml
      obtain ⟨z, hz, ml⟩ := ml
      obtain ⟨y, sz⟩ := skip_z (lv + 28) T' z (f : Int) hz.1
      have ml : cl (lv + 30) 209 [aA 12 0] (RD (mG h F L) p) = rv (hset (RZ (mG h F L) z) 198 0 0 (f : Int)) := ml
      have ef : hset (RZ (mG h F L) y) 198 0 0 (f : Int) 198 0 0 = (f : Int) := hs_eq _ _ _ _ _
      refine ⟨((L.length : Int) + 1), y, L, ?_⟩
      rw [hd_199_23]
      simp (disch := omega) only [x_6_0, x_79_1_12_d0, x_79_1_12_d1, x_79_1_12_d2, x_79_1_12_d3, x_79_1_12_d4, x_33, x_65, x_1, x_60, x_61, x_7_2_I, x_7_2_A, x_7_2_U, x_7_3_I, x_7_3_A, x_7_3_U, x_4_2, x_68, x_63, x_4_3, x_4_1, x_79_2_12_d0, x_79_2_12_d1, x_79_2_12_d2, x_79_2_12_d3, x_79_2_12_d4, x_10_3_I, x_10_3_A, x_10_3_U, x_47_I, x_47_A, x_11, x_36, x_82, cb_ri, cb_rl, cb_rv, cb_th, cb_ite, ps_s, ps_n, u_199_0, u_199_19, u_199_20, u_199_49, u_199_51, u_199_65, u_199_76, u_199_80, u_199_106, u_199_111, u_199_133, u_199_144, f1, sm, ml, sz, ef, w32_id, Int.reduceEq, Int.reduceLT, Int.reduceLE, reduceIte, Int.reduceAdd, Int.reduceSub, Int.reduceMul, Int.reduceNeg, Int.reduceToNat, Bool.false_eq_true, eq_self, if_pos, if_neg]
      rw [hd_199_23]
      simp (disch := omega) only [x_6_0, x_79_1_12_d0, x_79_1_12_d1, x_79_1_12_d2, x_79_1_12_d3, x_79_1_12_d4, x_33, x_65, x_1, x_60, x_61, x_7_2_I, x_7_2_A, x_7_2_U, x_7_3_I, x_7_3_A, x_7_3_U, x_4_2, x_68, x_63, x_4_3, x_4_1, x_79_2_12_d0, x_79_2_12_d1, x_79_2_12_d2, x_79_2_12_d3, x_79_2_12_d4, x_10_3_I, x_10_3_A, x_10_3_U, x_47_I, x_47_A, x_11, x_36, x_82, cb_ri, cb_rl, cb_rv, cb_th, cb_ite, ps_s, ps_n, u_199_0, u_199_19, u_199_20, u_199_49, u_199_51, u_199_65, u_199_76, u_199_80, u_199_106, u_199_111, u_199_133, u_199_144, Int.reduceEq, Int.reduceLT, Int.reduceLE, reduceIte, Int.reduceAdd, Int.reduceSub, Int.reduceMul, Int.reduceNeg, Int.reduceToNat, Bool.false_eq_true, eq_self, if_pos, if_neg]
    | inr w =>
      obtain ⟨x, q⟩ := w
      rw [hq] at ml
      obtain ⟨a2, n1, n2, ml⟩ := ml
      have hl := pLine_len hb.2 hq
      have hx := pLine_ev te hb.2 hq
      have eG : mL h (hasTk L || decide (x.1 = 2)) (takeS F L || tk1 F x) (gainS F L + gn1 F x) = mG h F (L ++ [x]) := by
        unfold mG
        rw [hasTk_a, takeS_a, gainS_a]
        simp [takeS, gainS]
      rw [eG] at ml
      have ml : cl (lv + 30) 209 [aA 12 0] (RD (mG h F L) p) = rv (RD (mG h F (L ++ [x])) a2) := ml
      have T2 : TX (mG h F (L ++ [x])) t e := mL_TX T
      have s2 := skip_m (lv + 28) T2 n1
      rw [n2] at s2
      have qq : sk t e q = q := by rw [← n2]; exact sk_sk t n1
      have f2 := hfa (L ++ [x]) q
      have e1 := RD_a (mG h F (L ++ [x])) q
      have e2 := (RD_TX T2 q).2.1
      have sg := sign_m (lv + 27) 59 T2 hl.2.1
      rw [qq] at sg
      have e3 : (((L ++ [x]).length : Nat) : Int) = (L.length : Int) + 1 := by simp
      dsimp only
      rw [hd_199_23]
      by_cases h1 : q = e
      · rw [if_pos h1]
        show _ = _
        rw [e3, ← h1]
        subst h1
        simp (disch := omega) only [x_6_0, x_79_1_12_d0, x_79_1_12_d1, x_79_1_12_d2, x_79_1_12_d3, x_79_1_12_d4, x_33, x_65, x_1, x_60, x_61, x_7_2_I, x_7_2_A, x_7_2_U, x_7_3_I, x_7_3_A, x_7_3_U, x_4_2, x_68, x_63, x_4_3, x_4_1, x_79_2_12_d0, x_79_2_12_d1, x_79_2_12_d2, x_79_2_12_d3, x_79_2_12_d4, x_10_3_I, x_10_3_A, x_10_3_U, x_47_I, x_47_A, x_11, x_36, x_82, cb_ri, cb_rl, cb_rv, cb_th, cb_ite, ps_s, ps_n, u_199_0, u_199_19, u_199_20, u_199_49, u_199_51, u_199_65, u_199_76, u_199_80, u_199_106, u_199_111, u_199_133, u_199_144, f1, sm, ml, s2, f2, e1, e2, w32_id, Int.reduceEq, Int.reduceLT, Int.reduceLE, reduceIte, Int.reduceAdd, Int.reduceSub, Int.reduceMul, Int.reduceNeg, Int.reduceToNat, Bool.false_eq_true, eq_self, if_pos, if_neg]
        rw [hd_199_23]
        simp (disch := omega) only [x_6_0, x_79_1_12_d0, x_79_1_12_d1, x_79_1_12_d2, x_79_1_12_d3, x_79_1_12_d4, x_33, x_65, x_1, x_60, x_61, x_7_2_I, x_7_2_A, x_7_2_U, x_7_3_I, x_7_3_A, x_7_3_U, x_4_2, x_68, x_63, x_4_3, x_4_1, x_79_2_12_d0, x_79_2_12_d1, x_79_2_12_d2, x_79_2_12_d3, x_79_2_12_d4, x_10_3_I, x_10_3_A, x_10_3_U, x_47_I, x_47_A, x_11, x_36, x_82, cb_ri, cb_rl, cb_rv, cb_th, cb_ite, ps_s, ps_n, u_199_0, u_199_19, u_199_20, u_199_49, u_199_51, u_199_65, u_199_76, u_199_80, u_199_106, u_199_111, u_199_133, u_199_144, Int.reduceEq, Int.reduceLT, Int.reduceLE, reduceIte, Int.reduceAdd, Int.reduceSub, Int.reduceMul, Int.reduceNeg, Int.reduceToNat, Bool.false_eq_true, eq_self, if_pos, if_neg]
      · rw [if_neg h1]
        have h1' : ¬ (q : Int) = (e : Int) := by omega
        by_cases h2 : isC t e q 59 = true
        · rw [if_pos h2] at sg ⊢
          have qs := isC_sk h2 (by decide) (by decide)
          have st := RD_RD (mG h F (L ++ [x])) q (q + 1)
          have cc : ((q : Int) + 1) = ((q + 1 : Nat) : Int) := by omega
          have r := ih (L ++ [x]) (q + 1) qs.2 (by simp; omega) (by intro y hy; simp only [List.mem_append, List.mem_cons, List.not_mem_nil, or_false] at hy; rcases hy with hy | hy; exact hL y hy; rw [hy]; exact hx)
          rw [qs.1, e3] at r
          simp (disch := omega) only [x_6_0, x_79_1_12_d0, x_79_1_12_d1, x_79_1_12_d2, x_79_1_12_d3, x_79_1_12_d4, x_33, x_65, x_1, x_60, x_61, x_7_2_I, x_7_2_A, x_7_2_U, x_7_3_I, x_7_3_A, x_7_3_U, x_4_2, x_68, x_63, x_4_3, x_4_1, x_79_2_12_d0, x_79_2_12_d1, x_79_2_12_d2, x_79_2_12_d3, x_79_2_12_d4, x_10_3_I, x_10_3_A, x_10_3_U, x_47_I, x_47_A, x_11, x_36, x_82, cb_ri, cb_rl, cb_rv, cb_th, cb_ite, ps_s, ps_n, u_199_0, u_199_19, u_199_20, u_199_49, u_199_51, u_199_65, u_199_76, u_199_80, u_199_106, u_199_111, u_199_133, u_199_144, f1, sm, ml, s2, f2, e1, e2, h1', sg, w32_id, cc, st, Int.reduceEq, Int.reduceLT, Int.reduceLE, reduceIte, Int.reduceAdd, Int.reduceSub, Int.reduceMul, Int.reduceNeg, Int.reduceToNat, Bool.false_eq_true, eq_self, if_pos, if_neg]
          exact r
        · rw [if_neg h2] at sg ⊢
          have wr := wrong_m (lv + 29) (RD (mG h F (L ++ [x])) q) (q : Int) f2
          have ef : hset (RD (mG h F (L ++ [x])) q) 198 0 0 (q : Int) 198 0 0 = (q : Int) := hs_eq _ _ _ _ _
          refine ⟨((L.length : Int) + 1), (q : Int), L ++ [x], ?_⟩
          show _ = ri _ (hset (RD (mG h F (L ++ [x])) q) 198 0 0 _)
          simp (disch := omega) only [x_6_0, x_79_1_12_d0, x_79_1_12_d1, x_79_1_12_d2, x_79_1_12_d3, x_79_1_12_d4, x_33, x_65, x_1, x_60, x_61, x_7_2_I, x_7_2_A, x_7_2_U, x_7_3_I, x_7_3_A, x_7_3_U, x_4_2, x_68, x_63, x_4_3, x_4_1, x_79_2_12_d0, x_79_2_12_d1, x_79_2_12_d2, x_79_2_12_d3, x_79_2_12_d4, x_10_3_I, x_10_3_A, x_10_3_U, x_47_I, x_47_A, x_11, x_36, x_82, cb_ri, cb_rl, cb_rv, cb_th, cb_ite, ps_s, ps_n, u_199_0, u_199_19, u_199_20, u_199_49, u_199_51, u_199_65, u_199_76, u_199_80, u_199_106, u_199_111, u_199_133, u_199_144, f1, sm, ml, s2, f2, e1, e2, h1', sg, wr, w32_id, Int.reduceEq, Int.reduceLT, Int.reduceLE, reduceIte, Int.reduceAdd, Int.reduceSub, Int.reduceMul, Int.reduceNeg, Int.reduceToNat, Bool.false_eq_true, eq_self, if_pos, if_neg]
          rw [hd_199_23]
          simp (disch := omega) only [x_6_0, x_79_1_12_d0, x_79_1_12_d1, x_79_1_12_d2, x_79_1_12_d3, x_79_1_12_d4, x_33, x_65, x_1, x_60, x_61, x_7_2_I, x_7_2_A, x_7_2_U, x_7_3_I, x_7_3_A, x_7_3_U, x_4_2, x_68, x_63, x_4_3, x_4_1, x_79_2_12_d0, x_79_2_12_d1, x_79_2_12_d2, x_79_2_12_d3, x_79_2_12_d4, x_10_3_I, x_10_3_A, x_10_3_U, x_47_I, x_47_A, x_11, x_36, x_82, cb_ri, cb_rl, cb_rv, cb_th, cb_ite, ps_s, ps_n, u_199_0, u_199_19, u_199_20, u_199_49, u_199_51, u_199_65, u_199_76, u_199_80, u_199_106, u_199_111, u_199_133, u_199_144, ef, Int.reduceEq, Int.reduceLT, Int.reduceLE, reduceIte, Int.reduceAdd, Int.reduceSub, Int.reduceMul, Int.reduceNeg, Int.reduceToNat, Bool.false_eq_true, eq_self, if_pos, if_neg]
