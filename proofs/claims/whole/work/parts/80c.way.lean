/-! THE CLASS: the way of a beat. -/
theorem WQ_o {q q' : Hp} {ab : Nat → Nat → Bool} {fr : Nat → Nat → Int} {H : Nat} {cs : List Nat} (e : ∀ tt j, 159 ≤ tt → tt ≤ 164 → tt ≠ 163 → q' tt 0 j = q tt 0 j) (W : WQ q ab fr H cs) : WQ q' ab fr H cs := by
  obtain ⟨⟨g1, g2, g3⟩, r⟩ := W
  refine ⟨⟨by rw [e _ _ (by omega) (by omega) (by omega)]; exact g1, fun k hk => ?_, fun k hk => by rw [e _ _ (by omega) (by omega) (by omega)]; exact g3 k hk⟩, r⟩
  obtain ⟨z1, z2, z3⟩ := g2 k hk
  exact ⟨by rw [e _ _ (by omega) (by omega) (by omega)]; exact z1, by rw [e _ _ (by omega) (by omega) (by omega)]; exact z2, fun i hi => by rw [e _ _ (by omega) (by omega) (by omega)]; exact z3 i hi⟩
theorem WRc_o {q : Hp} {ab : Nat → Nat → Bool} {fr : Nat → Nat → Int} {H : Nat} {cs : List Nat} {k j : Nat} {v : Int} (hH : H ≤ 6) (hj : ∀ u, u < 64 → j ≠ 64 * k + u) (w : WRc q ab fr H cs k) : WRc (hset q 163 0 j v) ab fr H cs k := fun u hu => by rw [hs_i (fun e => hj u (Nat.lt_of_le_of_lt (sub_le hu) (ahF_lt ab hH _)) e.symm)]; exact w u hu
def w3Fr (tt k : Nat) : Prop := k = 0 ∧ tt = 163
theorem weigh_c (lv : Nat) {h : Hp} {ab : Nat → Nat → Bool} {fr : Nat → Nat → Int} {H : Nat} {cs : List Nat} (W : WQ h ab fr H cs) :
    ∃ h', cl (lv + 3) 78 [aA 10 0] h = rv h' ∧ (∀ k, k ≤ cs.length → WRc h' ab fr H cs k) ∧ ∀ tt k j, ¬ w3Fr tt k → h' tt k j = h tt k j := by
  have hH := W.2.1
  have hl := W.2.2.1
  have WQq : ∀ {q : Hp}, (∀ tt k j, ¬ w3Fr tt k → q tt k j = h tt k j) → WQ q ab fr H cs := fun {q} e => WQ_o (fun tt j h1 h2 h3 => e tt 0 j (by unfold w3Fr; omega)) W
  have L43 : ∀ (q : Hp) (v2 : AV), (∀ tt k j, ¬ w3Fr tt k → q tt k j = h tt k j) → WRc q ab fr H cs cs.length → ∃ h', run (lv + 2) 78 43 [aA 10 0, aI ((cs.length : Int) - 1), v2] [] q = rv h' ∧ (∀ k, k ≤ cs.length → WRc h' ab fr H cs k) ∧ ∀ tt k j, ¬ w3Fr tt k → h' tt k j = h tt k j := by
    intro q v2 hq hw
    have main := loop_p (S := AV × Hp) (F := fun j (q : AV × Hp) => run (lv + 2) 78 43 [aA 10 0, aI ((cs.length : Int) - 1 - (j : Int)), q.1] [] q.2)
      (I := fun j q => (∀ tt k j, ¬ w3Fr tt k → q.2 tt k j = h tt k j) ∧ ∀ k, cs.length ≤ k + j → k ≤ cs.length → WRc q.2 ab fr H cs k)
      (Q := fun r => ∃ h', r = rv h' ∧ (∀ k, k ≤ cs.length → WRc h' ab fr H cs k) ∧ ∀ tt k j, ¬ w3Fr tt k → h' tt k j = h tt k j) (N := cs.length) ?_ ?_ (v2, q) ⟨hq, fun k h1 h2 => (show cs.length = k by omega) ▸ hw⟩
    · simp only [Int.natCast_zero, Int.sub_zero] at main
      exact main
    · rintro j ⟨v2, q⟩ hj ⟨i1, i2⟩
      simp only at i1 i2 ⊢
      obtain ⟨k, hk⟩ : ∃ k, cs.length = k + 1 + j := ⟨cs.length - 1 - j, by omega⟩
      have ek : (cs.length : Int) - 1 - (j : Int) = (k : Int) := by omega
      have ek1 : (cs.length : Int) - 1 - ((j + 1 : Nat) : Int) = (k : Int) + -1 := by omega
      have hkl : k < cs.length := by omega
      have al := ahF_lt ab hH (cs.take k)
      have row : ∃ h2 : Hp, run (lv + 2) 78 49 [aA 10 0, aI (k : Int), aI 0] [] q = run (lv + 2) 78 43 [aA 10 0, aI ((k : Int) + -1), aI ((ahF ab H (cs.take k) + 1 : Nat) : Int)] [] h2 ∧ (∀ tt k j, ¬ w3Fr tt k → h2 tt k j = h tt k j) ∧ ∀ k', cs.length ≤ k' + (j + 1) → k' ≤ cs.length → WRc h2 ab fr H cs k' := by
        refine loop_p (S := Hp) (F := fun u (g : Hp) => run (lv + 2) 78 49 [aA 10 0, aI (k : Int), aI (u : Int)] [] g)
          (I := fun u g => (∀ tt k j, ¬ w3Fr tt k → g tt k j = h tt k j) ∧ (∀ k', cs.length ≤ k' + j → k' ≤ cs.length → WRc g ab fr H cs k') ∧ ∀ u', u' < u → (∀ x, u'.testBit x = true → (ahF ab H (cs.take k)).testBit x = true) → g 163 0 (64 * k + u') = dpv 1000 ab fr H (cs.drop k) u')
          (Q := fun r => ∃ h2 : Hp, r = run (lv + 2) 78 43 [aA 10 0, aI ((k : Int) + -1), aI ((ahF ab H (cs.take k) + 1 : Nat) : Int)] [] h2 ∧ (∀ tt k j, ¬ w3Fr tt k → h2 tt k j = h tt k j) ∧ ∀ k', cs.length ≤ k' + (j + 1) → k' ≤ cs.length → WRc h2 ab fr H cs k') (N := ahF ab H (cs.take k) + 1) ?_ ?_ q ⟨i1, i2, fun u' hu' => by omega⟩
        · rintro u g hu ⟨k1, k2, k3⟩
          have Wg := WQq k1
          have g62 := Wg.1.2.2 k (by omega)
          have nt : iand (u : Int) (ixor ((ahF ab H (cs.take k) : Nat) : Int) (-1)) = ((u ^^^ (u &&& ahF ab H (cs.take k)) : Nat) : Int) := iandn_n (by omega) (by omega)
          by_cases c : u ^^^ (u &&& ahF ab H (cs.take k)) = 0
          · have hs := sub_test.mp c
            rw [c] at nt
            have mf := mostFrom_c lv k u Wg hkl hs (k2 (k + 1) (by omega) (by omega))
            have e2 : ((k : Int) * 64 + (u : Int)).toNat = 64 * k + u := by omega
            refine ⟨hset g 163 0 (64 * k + u) (dpv 1000 ab fr H (cs.drop k) u), ?_, fun tt kk i hf => by rw [hs_o (by unfold w3Fr at hf; omega)]; exact k1 tt kk i hf, fun k' h1 h2 => WRc_o hH (fun u' hu' => by omega) (k2 k' h1 h2), fun u' hu' hs' => ?_⟩
            · try simp only
              rw [hd_78_49]
              simp (disch := omega) only [x_1, x_7_1_I, x_7_1_A, x_7_1_U, x_61, x_4_1, x_6_0, x_34, x_33, x_38_162, x_38_163, x_66, x_13, x_11, x_39_162, x_39_163, x_10_1_I, x_10_1_A, x_10_1_U, x_60, x_12, x_70, x_7_2_I, x_7_2_A, x_7_2_U, x_4_2, x_19, x_17, x_69, x_79_3_10_d0, x_79_3_10_d1, x_79_3_10_d2, x_79_3_10_d3, x_79_3_10_d4, x_10_2_I, x_10_2_A, x_10_2_U, x_83, cb_ri, cb_rl, cb_rv, cb_th, cb_ite, ps_s, ps_n, u_78_0, u_78_36, u_78_89, u_78_95, u_78_101, tn, g62, nt, Int.natCast_zero, mf, e2, Int.reduceEq, Int.reduceLT, Int.reduceLE, reduceIte, Int.reduceAdd, Int.reduceSub, Int.reduceMul, Int.reduceNeg, Int.reduceToNat, Bool.false_eq_true, eq_self, if_pos, if_neg, ci, w32_id]
            · by_cases e : u' = u
              · rw [e, hs_eq]
              · rw [hs_i (by omega)]; exact k3 u' (by omega) hs'
          · have nt0 : ¬ ((u ^^^ (u &&& ahF ab H (cs.take k)) : Nat) : Int) = 0 := by omega
            refine ⟨g, ?_, k1, k2, fun u' hu' hs' => ?_⟩
            · try simp only
              rw [hd_78_49]
              simp (disch := omega) only [x_1, x_7_1_I, x_7_1_A, x_7_1_U, x_61, x_4_1, x_6_0, x_34, x_33, x_38_162, x_38_163, x_66, x_13, x_11, x_39_162, x_39_163, x_10_1_I, x_10_1_A, x_10_1_U, x_60, x_12, x_70, x_7_2_I, x_7_2_A, x_7_2_U, x_4_2, x_19, x_17, x_69, x_79_3_10_d0, x_79_3_10_d1, x_79_3_10_d2, x_79_3_10_d3, x_79_3_10_d4, x_10_2_I, x_10_2_A, x_10_2_U, x_83, cb_ri, cb_rl, cb_rv, cb_th, cb_ite, ps_s, ps_n, u_78_0, u_78_36, u_78_89, u_78_95, u_78_101, tn, g62, nt, nt0, Int.reduceEq, Int.reduceLT, Int.reduceLE, reduceIte, Int.reduceAdd, Int.reduceSub, Int.reduceMul, Int.reduceNeg, Int.reduceToNat, Bool.false_eq_true, eq_self, if_pos, if_neg, ci, w32_id]
            · by_cases e : u' = u
              · subst e; exact absurd (sub_test.mpr hs') c
              · exact k3 u' (by omega) hs'
        · rintro g ⟨k1, k2, k3⟩
          have g62 := (WQq k1).1.2.2 k (by omega)
          refine ⟨g, ?_, k1, fun k' h1 h2 => ?_⟩
          · try simp only
            rw [hd_78_49]
            simp (disch := omega) only [x_1, x_7_1_I, x_7_1_A, x_7_1_U, x_61, x_4_1, x_6_0, x_34, x_33, x_38_162, x_38_163, x_66, x_13, x_11, x_39_162, x_39_163, x_10_1_I, x_10_1_A, x_10_1_U, x_60, x_12, x_70, x_7_2_I, x_7_2_A, x_7_2_U, x_4_2, x_19, x_17, x_69, x_79_3_10_d0, x_79_3_10_d1, x_79_3_10_d2, x_79_3_10_d3, x_79_3_10_d4, x_10_2_I, x_10_2_A, x_10_2_U, x_83, cb_ri, cb_rl, cb_rv, cb_th, cb_ite, ps_s, ps_n, u_78_0, u_78_36, u_78_89, u_78_95, u_78_101, tn, g62, Int.reduceEq, Int.reduceLT, Int.reduceLE, reduceIte, Int.reduceAdd, Int.reduceSub, Int.reduceMul, Int.reduceNeg, Int.reduceToNat, Bool.false_eq_true, eq_self, if_pos, if_neg, w32_id]
          · by_cases e : k' = k
            · subst e; exact fun u hu => k3 u (by have := sub_le hu; omega) hu
            · exact k2 k' (by omega) h2
      obtain ⟨h2, e1, e2, e3⟩ := row
      refine ⟨(aI ((ahF ab H (cs.take k) + 1 : Nat) : Int), h2), ?_, e2, e3⟩
      try simp only
      rw [ek, ek1, ← e1, hd_78_43]
      simp (disch := omega) only [x_1, x_7_1_I, x_7_1_A, x_7_1_U, x_61, x_4_1, x_6_0, x_34, x_33, x_38_162, x_38_163, x_66, x_13, x_11, x_39_162, x_39_163, x_10_1_I, x_10_1_A, x_10_1_U, x_60, x_12, x_70, x_7_2_I, x_7_2_A, x_7_2_U, x_4_2, x_19, x_17, x_69, x_79_3_10_d0, x_79_3_10_d1, x_79_3_10_d2, x_79_3_10_d3, x_79_3_10_d4, x_10_2_I, x_10_2_A, x_10_2_U, x_83, cb_ri, cb_rl, cb_rv, cb_th, cb_ite, ps_s, ps_n, u_78_0, u_78_36, u_78_89, u_78_95, u_78_101, Int.reduceEq, Int.reduceLT, Int.reduceLE, reduceIte, Int.reduceAdd, Int.reduceSub, Int.reduceMul, Int.reduceNeg, Int.reduceToNat, Bool.false_eq_true, eq_self, if_pos, if_neg]
    · rintro ⟨v2, q⟩ ⟨i1, i2⟩
      simp only at i1 i2 ⊢
      refine ⟨q, ?_, fun k hk => i2 k (by omega) hk, i1⟩
      rw [show (cs.length : Int) - 1 - (cs.length : Int) = -1 by omega, hd_78_43]
      simp (disch := omega) only [x_1, x_7_1_I, x_7_1_A, x_7_1_U, x_61, x_4_1, x_6_0, x_34, x_33, x_38_162, x_38_163, x_66, x_13, x_11, x_39_162, x_39_163, x_10_1_I, x_10_1_A, x_10_1_U, x_60, x_12, x_70, x_7_2_I, x_7_2_A, x_7_2_U, x_4_2, x_19, x_17, x_69, x_79_3_10_d0, x_79_3_10_d1, x_79_3_10_d2, x_79_3_10_d3, x_79_3_10_d4, x_10_2_I, x_10_2_A, x_10_2_U, x_83, cb_ri, cb_rl, cb_rv, cb_th, cb_ite, ps_s, ps_n, u_78_0, u_78_36, u_78_89, u_78_95, u_78_101, Int.reduceEq, Int.reduceLT, Int.reduceLE, reduceIte, Int.reduceAdd, Int.reduceSub, Int.reduceMul, Int.reduceNeg, Int.reduceToNat, Bool.false_eq_true, eq_self, if_pos, if_neg]
  have al := ahF_lt ab hH cs
  have L2 := loop_p (S := Hp) (F := fun u (g : Hp) => run (lv + 2) 78 2 [aA 10 0, aI (u : Int), none] [] g)
    (I := fun u g => (∀ tt k j, ¬ w3Fr tt k → g tt k j = h tt k j) ∧ ∀ u', u' < u → g 163 0 (64 * cs.length + u') = 0)
    (Q := fun r => ∃ h', r = rv h' ∧ (∀ k, k ≤ cs.length → WRc h' ab fr H cs k) ∧ ∀ tt k j, ¬ w3Fr tt k → h' tt k j = h tt k j) (N := ahF ab H cs + 1) ?_ ?_ h ⟨fun _ _ _ _ => rfl, fun u' hu' => by omega⟩
  · rw [in_78]
    simp (disch := omega) only [x_1, x_7_1_I, x_7_1_A, x_7_1_U, x_61, x_4_1, x_6_0, x_34, x_33, x_38_162, x_38_163, x_66, x_13, x_11, x_39_162, x_39_163, x_10_1_I, x_10_1_A, x_10_1_U, x_60, x_12, x_70, x_7_2_I, x_7_2_A, x_7_2_U, x_4_2, x_19, x_17, x_69, x_79_3_10_d0, x_79_3_10_d1, x_79_3_10_d2, x_79_3_10_d3, x_79_3_10_d4, x_10_2_I, x_10_2_A, x_10_2_U, x_83, cb_ri, cb_rl, cb_rv, cb_th, cb_ite, ps_s, ps_n, u_78_0, u_78_36, u_78_89, u_78_95, u_78_101]
    exact L2
  · rintro u g hu ⟨k1, k2⟩
    have Wg := WQq k1
    have g62 := Wg.1.2.2 cs.length (Nat.le_refl _)
    rw [List.take_length] at g62
    have g64 := Wg.1.1
    have e2 : ((cs.length : Int) * 64 + (u : Int)).toNat = 64 * cs.length + u := by omega
    refine ⟨hset g 163 0 (64 * cs.length + u) 0, ?_, fun tt kk i hf => by rw [hs_o (by unfold w3Fr at hf; omega)]; exact k1 tt kk i hf, fun u' hu' => ?_⟩
    · try simp only
      rw [hd_78_2]
      simp (disch := omega) only [x_1, x_7_1_I, x_7_1_A, x_7_1_U, x_61, x_4_1, x_6_0, x_34, x_33, x_38_162, x_38_163, x_66, x_13, x_11, x_39_162, x_39_163, x_10_1_I, x_10_1_A, x_10_1_U, x_60, x_12, x_70, x_7_2_I, x_7_2_A, x_7_2_U, x_4_2, x_19, x_17, x_69, x_79_3_10_d0, x_79_3_10_d1, x_79_3_10_d2, x_79_3_10_d3, x_79_3_10_d4, x_10_2_I, x_10_2_A, x_10_2_U, x_83, cb_ri, cb_rl, cb_rv, cb_th, cb_ite, ps_s, ps_n, u_78_0, u_78_36, u_78_89, u_78_95, u_78_101, g64, tn, g62, e2, Int.reduceEq, Int.reduceLT, Int.reduceLE, reduceIte, Int.reduceAdd, Int.reduceSub, Int.reduceMul, Int.reduceNeg, Int.reduceToNat, Bool.false_eq_true, eq_self, if_pos, if_neg, ci, w32_id]
    · by_cases e : u' = u
      · rw [e, hs_eq]
      · rw [hs_i (by omega)]; exact k2 u' (by omega)
  · rintro g ⟨k1, k2⟩
    have Wg := WQq k1
    have g62 := Wg.1.2.2 cs.length (Nat.le_refl _)
    rw [List.take_length] at g62
    have g64 := Wg.1.1
    obtain ⟨h', e1, e2⟩ := L43 g none k1 (fun u hu => by
      rw [List.take_length] at hu
      rw [k2 u (by have := sub_le hu; omega), List.drop_length]
      rfl)
    refine ⟨h', ?_, e2⟩
    try simp only
    rw [← e1, hd_78_2]
    simp (disch := omega) only [x_1, x_7_1_I, x_7_1_A, x_7_1_U, x_61, x_4_1, x_6_0, x_34, x_33, x_38_162, x_38_163, x_66, x_13, x_11, x_39_162, x_39_163, x_10_1_I, x_10_1_A, x_10_1_U, x_60, x_12, x_70, x_7_2_I, x_7_2_A, x_7_2_U, x_4_2, x_19, x_17, x_69, x_79_3_10_d0, x_79_3_10_d1, x_79_3_10_d2, x_79_3_10_d3, x_79_3_10_d4, x_10_2_I, x_10_2_A, x_10_2_U, x_83, cb_ri, cb_rl, cb_rv, cb_th, cb_ite, ps_s, ps_n, u_78_0, u_78_36, u_78_89, u_78_95, u_78_101, g64, tn, g62, Int.reduceEq, Int.reduceLT, Int.reduceLE, reduceIte, Int.reduceAdd, Int.reduceSub, Int.reduceMul, Int.reduceNeg, Int.reduceToNat, Bool.false_eq_true, eq_self, if_pos, if_neg, w32_id]
/-! the walk: used hands, hands of notes, notes of hands, what is left, how far -/
abbrev WS : Type := Nat × (Nat → Int) × (Nat → Int) × Nat × Int
def wk1 (can : Nat → Nat → Bool) (far : Nat → Nat → Int) (H n : Nat) (cs : List Nat) (s : WS) : WS := if selH can far H n cs s.1 = -1 then (s.1, s.2.1, s.2.2.1, s.2.2.2.1 ||| 2 ^ n, s.2.2.2.2) else (s.1 ||| 2 ^ (selH can far H n cs s.1).toNat, upM s.2.1 n (selH can far H n cs s.1), upM s.2.2.1 (selH can far H n cs s.1).toNat (n : Int), s.2.2.2.1, s.2.2.2.2 + far n (selH can far H n cs s.1).toNat)
def wkL (can : Nat → Nat → Bool) (far : Nat → Nat → Int) (H : Nat) : List Nat → WS → WS
  | [], s => s
  | n :: cs, s => wkL can far H cs (wk1 can far H n cs s)
def wk0 : WS := (0, fun _ => -1, fun _ => -1, 0, 0)
theorem sel_v (can : Nat → Nat → Bool) (far : Nat → Nat → Int) (H n : Nat) (cs : List Nat) (u : Nat) : selH can far H n cs u = -1 ∨ ∃ x : Nat, x < H ∧ can n x = true ∧ u.testBit x = false ∧ selH can far H n cs u = (x : Int) := by
  rcases ffst_val (P := selB can far H n cs u) (N := H) with e | ⟨x, h1, h2, h3⟩
  · exact Or.inl e
  · unfold selB at h2
    rw [Bool.and_eq_true, Bool.and_eq_true] at h2
    exact Or.inr ⟨x, h1, h2.1.2, by simpa using h2.1.1, h3⟩
def cwFr (tt k : Nat) : Prop := k = 0 ∧ 165 ≤ tt ∧ tt ≤ 168
theorem choose_c (lv N : Nat) {h : Hp} {ab : Nat → Nat → Bool} {fr : Nat → Nat → Int} {H : Nat} {cs : List Nat} (W : WQ h ab fr H cs) (hr : ∀ k, k ≤ cs.length → WRc h ab fr H cs k) (hN : N ≤ 14) (hc : ∀ n ∈ cs, n < N) (h5 : ∀ n, n < N → h 165 0 n = -1) :
    ∃ h', cl (lv + 3) 82 [aA 10 0] h = rv h' ∧ (∀ n, n < N → h' 165 0 n = (wkL ab fr H cs wk0).2.1 n) ∧ (∀ i, i < 6 → h' 166 0 i = (wkL ab fr H cs wk0).2.2.1 i) ∧ h' 167 0 0 = ((wkL ab fr H cs wk0).2.2.2.1 : Int) ∧ h' 168 0 0 = (wkL ab fr H cs wk0).2.2.2.2 ∧ ∀ tt k j, ¬ cwFr tt k → h' tt k j = h tt k j := by
  have hH := W.2.1
  have hl := W.2.2.1
  have hf := W.2.2.2
  have L35 : ∀ q : Hp, (∀ tt k j, ¬ cwFr tt k → q tt k j = h tt k j) → (∀ n, n < N → q 165 0 n = -1) → (∀ i, i < 6 → q 166 0 i = -1) → q 167 0 0 = 0 → q 168 0 0 = 0 → ∃ h', run (lv + 2) 82 35 [aA 10 0, aI 0, aI 0, none] [] q = rv h' ∧ (∀ n, n < N → h' 165 0 n = (wkL ab fr H cs wk0).2.1 n) ∧ (∀ i, i < 6 → h' 166 0 i = (wkL ab fr H cs wk0).2.2.1 i) ∧ h' 167 0 0 = ((wkL ab fr H cs wk0).2.2.2.1 : Int) ∧ h' 168 0 0 = (wkL ab fr H cs wk0).2.2.2.2 ∧ ∀ tt k j, ¬ cwFr tt k → h' tt k j = h tt k j := by
    intro q q0 q5 q6 q7 q8
    refine loop_p (S := (WS × AV) × Hp) (F := fun k (q : (WS × AV) × Hp) => run (lv + 2) 82 35 [aA 10 0, aI (q.1.1.1 : Int), aI (k : Int), q.1.2] [] q.2)
      (I := fun k q => wkL ab fr H (cs.drop k) q.1.1 = wkL ab fr H cs wk0 ∧ (∀ x, q.1.1.1.testBit x = true → (ahF ab H (cs.take k)).testBit x = true) ∧ (∀ n, n < N → q.2 165 0 n = q.1.1.2.1 n) ∧ (∀ i, i < 6 → q.2 166 0 i = q.1.1.2.2.1 i) ∧ q.2 167 0 0 = (q.1.1.2.2.2.1 : Int) ∧ (q.1.1.2.2.2.1 < 16384 ∧ (0 ≤ q.1.1.2.2.2.2 ∧ q.1.1.2.2.2.2 ≤ 63 * (k : Int))) ∧ q.2 168 0 0 = q.1.1.2.2.2.2 ∧ ∀ tt k j, ¬ cwFr tt k → q.2 tt k j = h tt k j)
      (Q := fun r => ∃ h', r = rv h' ∧ (∀ n, n < N → h' 165 0 n = (wkL ab fr H cs wk0).2.1 n) ∧ (∀ i, i < 6 → h' 166 0 i = (wkL ab fr H cs wk0).2.2.1 i) ∧ h' 167 0 0 = ((wkL ab fr H cs wk0).2.2.2.1 : Int) ∧ h' 168 0 0 = (wkL ab fr H cs wk0).2.2.2.2 ∧ ∀ tt k j, ¬ cwFr tt k → h' tt k j = h tt k j) (N := cs.length) ?_ ?_ ((wk0, none), q) ⟨by rw [List.drop_zero], fun x hx => by simp [wk0] at hx, q5, q6, q7, ⟨by simp [wk0], by simp [wk0]⟩, q8, q0⟩
    · rintro k ⟨⟨⟨u, ho, no, lf, ds⟩, v3⟩, q⟩ hk ⟨i1, i2, i3, i4, i5, i6, i7, i8⟩
      simp only at i1 i2 i3 i4 i5 i6 i7 i8 ⊢
      have Wq : WQ q ab fr H cs := WQ_o (fun tt j h1 h2 h3 => i8 tt 0 j (by unfold cwFr; omega)) W
      have hrq : ∀ k, k ≤ cs.length → WRc q ab fr H cs k := fun k hk u hu => by rw [i8 _ _ _ (by unfold cwFr; omega)]; exact hr k hk u hu
      have fh := firstHand_c lv k u Wq hk i2 (hrq (k + 1) (by omega)) (hrq k (by omega))
      obtain ⟨z1, z2, z3⟩ := Wq.1.2.1 k hk
      have z0 := Wq.1.1
      have nN := hc _ (getD_mem hk)
      rw [drop_c cs hk] at i1
      have i1 : wkL ab fr H (cs.drop (k + 1)) (wk1 ab fr H (cs.getD k 0) (cs.drop (k + 1)) (u, ho, no, lf, ds)) = wkL ab fr H cs wk0 := i1
      obtain ⟨a1, a2⟩ := ahF_up (ab := ab) (H := H) hk
      have hu : u < 64 := Nat.lt_of_le_of_lt (sub_le i2) (ahF_lt ab hH _)
      have e6 : ∀ x : Nat, ((k : Int) * 6 + (x : Int)).toNat = 6 * k + x := fun x => by omega
      rcases sel_v ab fr H (cs.getD k 0) (cs.drop (k + 1)) u with e | ⟨x, x1, x2, x3, e⟩
      · have ew : wk1 ab fr H (cs.getD k 0) (cs.drop (k + 1)) (u, ho, no, lf, ds) = (u, ho, no, lf ||| 2 ^ cs.getD k 0, ds) := by unfold wk1; rw [if_pos e]
        rw [ew] at i1
        rw [e] at fh
        have p2 : 2 ^ cs.getD k 0 < 2 ^ 14 := Nat.pow_lt_pow_right (by omega) (by omega)
        have ob : ior (lf : Int) (ishl 1 ((cs.getD k 0 : Nat) : Int)) = ((lf ||| 2 ^ cs.getD k 0 : Nat) : Int) := by rw [ishl_1 _ (by omega), ior_n (by omega) (by omega)]
        refine ⟨(((u, ho, no, lf ||| 2 ^ cs.getD k 0, ds), aI (-1)), hset q 167 0 0 ((lf ||| 2 ^ cs.getD k 0 : Nat) : Int)), ?_, i1, fun y hy => a1 y (i2 y hy), fun n hn => by simp only; rw [hs_t (by omega)]; exact i3 n hn, fun i hi => by simp only; rw [hs_t (by omega)]; exact i4 i hi, by simp only; rw [hs_eq], ⟨Nat.or_lt_two_pow (n := 14) i6.1 p2, by simp only; omega⟩, by simp only; rw [hs_t (by omega)]; exact i7, fun tt kk j hf2 => by simp only; rw [hs_o (by unfold cwFr at hf2; omega)]; exact i8 tt kk j hf2⟩
        try simp only
        rw [hd_82_35]
        simp (disch := omega) only [x_1, x_7_1_I, x_7_1_A, x_7_1_U, x_61, x_4_1, x_65, x_6_0, x_34, x_39_159, x_39_161, x_39_165, x_39_166, x_10_1_I, x_10_1_A, x_10_1_U, x_60, x_36, x_7_2_I, x_7_2_A, x_7_2_U, x_4_2, x_33, x_79_3_10_d0, x_79_3_10_d1, x_79_3_10_d2, x_79_3_10_d3, x_79_3_10_d4, x_7_3_I, x_7_3_A, x_7_3_U, x_4_3, x_63, x_47_I, x_47_A, x_38_159, x_38_161, x_38_165, x_38_166, x_20, x_18, x_13, x_11, x_10_2_I, x_10_2_A, x_10_2_U, x_83, cb_ri, cb_rl, cb_rv, cb_th, cb_ite, ps_s, ps_n, u_82_0, u_82_21, u_82_75, u_82_125, u_82_131, z0, fh, i5, tn, z1, ob, Int.reduceEq, Int.reduceLT, Int.reduceLE, reduceIte, Int.reduceAdd, Int.reduceSub, Int.reduceMul, Int.reduceNeg, Int.reduceToNat, Bool.false_eq_true, eq_self, if_pos, if_neg, ci, w32_id]
      · have ew : wk1 ab fr H (cs.getD k 0) (cs.drop (k + 1)) (u, ho, no, lf, ds) = (u ||| 2 ^ x, upM ho (cs.getD k 0) (x : Int), upM no x ((cs.getD k 0 : Nat) : Int), lf, ds + fr (cs.getD k 0) x) := by
          unfold wk1
          simp only
          rw [e, if_neg (by omega), tn]
        rw [ew] at i1
        rw [e] at fh
        have fx := hf _ (getD_mem hk) x x1
        have zx := z3 x x1
        have p2 : 2 ^ x < 2 ^ 6 := Nat.pow_lt_pow_right (by omega) (by omega)
        have ob : ior (u : Int) (ishl 1 (x : Int)) = ((u ||| 2 ^ x : Nat) : Int) := by rw [ishl_1 _ (by omega), ior_n (by omega) (by omega)]
        have nx : ¬ (x : Int) = -1 := by omega
        refine ⟨(((u ||| 2 ^ x, upM ho (cs.getD k 0) (x : Int), upM no x ((cs.getD k 0 : Nat) : Int), lf, ds + fr (cs.getD k 0) x), aI (x : Int)), hset (hset (hset q 168 0 0 (ds + fr (cs.getD k 0) x)) 165 0 (cs.getD k 0) (x : Int)) 166 0 x ((cs.getD k 0 : Nat) : Int)), ?_, i1, or_sub (fun y hy => a1 y (i2 y hy)) (a2 x x1 x2), fun n hn => ?_, fun i hi => ?_, ?_, ⟨i6.1, by simp only; omega⟩, ?_, fun tt kk j hf2 => ?_⟩
        · try simp only
          rw [hd_82_35]
          simp (disch := omega) only [x_1, x_7_1_I, x_7_1_A, x_7_1_U, x_61, x_4_1, x_65, x_6_0, x_34, x_39_159, x_39_161, x_39_165, x_39_166, x_10_1_I, x_10_1_A, x_10_1_U, x_60, x_36, x_7_2_I, x_7_2_A, x_7_2_U, x_4_2, x_33, x_79_3_10_d0, x_79_3_10_d1, x_79_3_10_d2, x_79_3_10_d3, x_79_3_10_d4, x_7_3_I, x_7_3_A, x_7_3_U, x_4_3, x_63, x_47_I, x_47_A, x_38_159, x_38_161, x_38_165, x_38_166, x_20, x_18, x_13, x_11, x_10_2_I, x_10_2_A, x_10_2_U, x_83, cb_ri, cb_rl, cb_rv, cb_th, cb_ite, ps_s, ps_n, u_82_0, u_82_21, u_82_75, u_82_125, u_82_131, z0, fh, nx, i7, tn, e6, zx, z1, hs_t, ob, Int.reduceEq, Int.reduceLT, Int.reduceLE, reduceIte, Int.reduceAdd, Int.reduceSub, Int.reduceMul, Int.reduceNeg, Int.reduceToNat, Bool.false_eq_true, eq_self, if_pos, if_neg, ci, w32_id]
        · try simp only
          rw [hs_t (by omega)]
          by_cases en : n = cs.getD k 0
          · rw [en, hs_eq, up_eq]
          · rw [hs_i en, hs_t (by omega), up_ne en]; exact i3 n hn
        · try simp only
          by_cases ei : i = x
          · rw [ei, hs_eq, up_eq]
          · rw [hs_i ei, hs_t (by omega), hs_t (by omega), up_ne ei]; exact i4 i hi
        · try simp only
          rw [hs_t (by omega), hs_t (by omega), hs_t (by omega)]; exact i5
        · try simp only
          rw [hs_t (by omega), hs_t (by omega), hs_eq]
        · try simp only
          unfold cwFr at hf2
          rw [hs_o (by omega), hs_o (by omega), hs_o (by omega)]
          exact i8 tt kk j hf2
    · rintro ⟨⟨⟨u, ho, no, lf, ds⟩, v3⟩, q⟩ ⟨i1, i2, i3, i4, i5, i6, i7, i8⟩
      simp only at i1 i2 i3 i4 i5 i6 i7 i8 ⊢
      rw [List.drop_length] at i1
      have i1 : (u, ho, no, lf, ds) = wkL ab fr H cs wk0 := i1
      rw [← i1]
      have Wq : WQ q ab fr H cs := WQ_o (fun tt j h1 h2 h3 => i8 tt 0 j (by unfold cwFr; omega)) W
      have z0 := Wq.1.1
      refine ⟨q, ?_, i3, i4, i5, i7, i8⟩
      rw [hd_82_35]
      simp (disch := omega) only [x_1, x_7_1_I, x_7_1_A, x_7_1_U, x_61, x_4_1, x_65, x_6_0, x_34, x_39_159, x_39_161, x_39_165, x_39_166, x_10_1_I, x_10_1_A, x_10_1_U, x_60, x_36, x_7_2_I, x_7_2_A, x_7_2_U, x_4_2, x_33, x_79_3_10_d0, x_79_3_10_d1, x_79_3_10_d2, x_79_3_10_d3, x_79_3_10_d4, x_7_3_I, x_7_3_A, x_7_3_U, x_4_3, x_63, x_47_I, x_47_A, x_38_159, x_38_161, x_38_165, x_38_166, x_20, x_18, x_13, x_11, x_10_2_I, x_10_2_A, x_10_2_U, x_83, cb_ri, cb_rl, cb_rv, cb_th, cb_ite, ps_s, ps_n, u_82_0, u_82_21, u_82_75, u_82_125, u_82_131, z0, Int.reduceEq, Int.reduceLT, Int.reduceLE, reduceIte, Int.reduceAdd, Int.reduceSub, Int.reduceMul, Int.reduceNeg, Int.reduceToNat, Bool.false_eq_true, eq_self, if_pos, if_neg]
  have L2 := loop_p (S := Hp) (F := fun i (g : Hp) => run (lv + 2) 82 2 [aA 10 0, aI (i : Int), none, none] [] g)
    (I := fun i g => (∀ tt k j, ¬ cwFr tt k → g tt k j = h tt k j) ∧ (∀ n, n < N → g 165 0 n = -1) ∧ ∀ i', i' < i → g 166 0 i' = -1)
    (Q := fun r => ∃ h', r = rv h' ∧ (∀ n, n < N → h' 165 0 n = (wkL ab fr H cs wk0).2.1 n) ∧ (∀ i, i < 6 → h' 166 0 i = (wkL ab fr H cs wk0).2.2.1 i) ∧ h' 167 0 0 = ((wkL ab fr H cs wk0).2.2.2.1 : Int) ∧ h' 168 0 0 = (wkL ab fr H cs wk0).2.2.2.2 ∧ ∀ tt k j, ¬ cwFr tt k → h' tt k j = h tt k j) (N := 6) ?_ ?_ h ⟨fun _ _ _ _ => rfl, h5, fun i' hi' => by omega⟩
  · rw [in_82]
    simp (disch := omega) only [x_1, x_7_1_I, x_7_1_A, x_7_1_U, x_61, x_4_1, x_65, x_6_0, x_34, x_39_159, x_39_161, x_39_165, x_39_166, x_10_1_I, x_10_1_A, x_10_1_U, x_60, x_36, x_7_2_I, x_7_2_A, x_7_2_U, x_4_2, x_33, x_79_3_10_d0, x_79_3_10_d1, x_79_3_10_d2, x_79_3_10_d3, x_79_3_10_d4, x_7_3_I, x_7_3_A, x_7_3_U, x_4_3, x_63, x_47_I, x_47_A, x_38_159, x_38_161, x_38_165, x_38_166, x_20, x_18, x_13, x_11, x_10_2_I, x_10_2_A, x_10_2_U, x_83, cb_ri, cb_rl, cb_rv, cb_th, cb_ite, ps_s, ps_n, u_82_0, u_82_21, u_82_75, u_82_125, u_82_131]
    exact L2
  · rintro i g hi ⟨k1, k2, k3⟩
    refine ⟨hset g 166 0 i (-1), ?_, fun tt kk j hf2 => by rw [hs_o (by unfold cwFr at hf2; omega)]; exact k1 tt kk j hf2, fun n hn => by rw [hs_t (by omega)]; exact k2 n hn, fun i' hi' => ?_⟩
    · try simp only
      rw [hd_82_2]
      simp (disch := omega) only [x_1, x_7_1_I, x_7_1_A, x_7_1_U, x_61, x_4_1, x_65, x_6_0, x_34, x_39_159, x_39_161, x_39_165, x_39_166, x_10_1_I, x_10_1_A, x_10_1_U, x_60, x_36, x_7_2_I, x_7_2_A, x_7_2_U, x_4_2, x_33, x_79_3_10_d0, x_79_3_10_d1, x_79_3_10_d2, x_79_3_10_d3, x_79_3_10_d4, x_7_3_I, x_7_3_A, x_7_3_U, x_4_3, x_63, x_47_I, x_47_A, x_38_159, x_38_161, x_38_165, x_38_166, x_20, x_18, x_13, x_11, x_10_2_I, x_10_2_A, x_10_2_U, x_83, cb_ri, cb_rl, cb_rv, cb_th, cb_ite, ps_s, ps_n, u_82_0, u_82_21, u_82_75, u_82_125, u_82_131, tn, Int.reduceEq, Int.reduceLT, Int.reduceLE, reduceIte, Int.reduceAdd, Int.reduceSub, Int.reduceMul, Int.reduceNeg, Int.reduceToNat, Bool.false_eq_true, eq_self, if_pos, if_neg, ci, w32_id]
    · by_cases e : i' = i
      · rw [e, hs_eq]
      · rw [hs_i e]; exact k3 i' (by omega)
  · rintro g ⟨k1, k2, k3⟩
    obtain ⟨h', e1, e2⟩ := L35 (hset (hset g 167 0 0 0) 168 0 0 0) (fun tt kk j hf2 => by unfold cwFr at hf2; rw [hs_o (by omega), hs_o (by omega)]; exact k1 tt kk j (by unfold cwFr; omega)) (fun n hn => by rw [hs_t (by omega), hs_t (by omega)]; exact k2 n hn) (fun i hi => by rw [hs_t (by omega), hs_t (by omega)]; exact k3 i hi) (by rw [hs_t (by omega), hs_eq]) (by rw [hs_eq])
    refine ⟨h', ?_, e2⟩
    try simp only
    rw [← e1, hd_82_2]
    simp (disch := omega) only [x_1, x_7_1_I, x_7_1_A, x_7_1_U, x_61, x_4_1, x_65, x_6_0, x_34, x_39_159, x_39_161, x_39_165, x_39_166, x_10_1_I, x_10_1_A, x_10_1_U, x_60, x_36, x_7_2_I, x_7_2_A, x_7_2_U, x_4_2, x_33, x_79_3_10_d0, x_79_3_10_d1, x_79_3_10_d2, x_79_3_10_d3, x_79_3_10_d4, x_7_3_I, x_7_3_A, x_7_3_U, x_4_3, x_63, x_47_I, x_47_A, x_38_159, x_38_161, x_38_165, x_38_166, x_20, x_18, x_13, x_11, x_10_2_I, x_10_2_A, x_10_2_U, x_83, cb_ri, cb_rl, cb_rv, cb_th, cb_ite, ps_s, ps_n, u_82_0, u_82_21, u_82_75, u_82_125, u_82_131, Int.reduceEq, Int.reduceLT, Int.reduceLE, reduceIte, Int.reduceAdd, Int.reduceSub, Int.reduceMul, Int.reduceNeg, Int.reduceToNat, Bool.false_eq_true, eq_self, if_pos, if_neg]
/-- the way of a beat -/
def wayW (M : Nat → Int) (L : List LN) (H N : Nat) (b : Int) : WS := wkL (abM M L) (farM M H (-1)) H (chL (atB M b) N) wk0
def fwFr (tt k : Nat) : Prop := (k = 0 ∧ 159 ≤ tt ∧ tt ≤ 168) ∨ lwFr 0 tt k
/-- the way that the class keeps -/
def WyC (h : Hp) (N : Nat) (w : WS) : Prop := (∀ n, n < N → h 165 0 n = w.2.1 n) ∧ (∀ i, i < 6 → h 166 0 i = w.2.2.1 i) ∧ h 167 0 0 = (w.2.2.2.1 : Int) ∧ h 168 0 0 = w.2.2.2.2
theorem find_c (lv s H N : Nat) (b : Int) (M : Nat → Int) (h : Hp) (L : List LN) (R : RS h s M H N) (G : GM M H N) (W : LawW h 0 L) :
    ∃ h', cl (lv + 5) 76 [aA 10 0, aA 7 s, aI b] h = rv h' ∧ WyC h' N (wayW M L H N b) ∧ ∀ tt kk j, ¬ fwFr tt kk → h' tt kk j = h tt kk j := by
  have hH := G.1.2.1
  have hN := G.2.1.2.1
  have gN : ∀ n, n < N → NV M n := fun n hn => by have := G.2.1.2.2.1 n hn; exact ⟨this.1, this.2.1, this.2.2.1⟩
  obtain ⟨h1, a1, a2, a3, a4⟩ := gatherW_c lv s H N b M h (abM M L) (farM M H (-1)) (AbS_of R G W) hH R.2.1 gN (fun n hn i hi => by
    have p := (R.1.2.2.2 i hi).2.1
    have g := (G.1.2.2 i hi).2.1
    refine ⟨?_, by rw [p]; exact g.1, by rw [p]; exact g.2⟩
    unfold farM atG
    rw [if_pos hi, p])
  have W1 : WQ h1 (abM M L) (farM M H (-1)) H (chL (atB M b) N) := ⟨a2, hH, by rw [chL_len]; exact Nat.le_trans (cnt_le _ _) hN, fun n hn x hx => farM_b G (chL_mem.mp hn).1 (Or.inl rfl) (by unfold hmK; rw [if_pos rfl]; exact hx)⟩
  obtain ⟨h2, b1, b2, b3⟩ := weigh_c (lv + 1) W1
  have W2 : WQ h2 (abM M L) (farM M H (-1)) H (chL (atB M b) N) := WQ_o (fun tt j x1 x2 x3 => b3 tt 0 j (by unfold w3Fr; omega)) W1
  obtain ⟨h3, c1, c2, c3, c4, c5, c6⟩ := choose_c (lv + 1) N W2 b2 hN (fun n hn => (chL_mem.mp hn).1) (fun n hn => by rw [b3 _ _ _ (by unfold w3Fr; omega)]; exact a3 n hn)
  refine ⟨h3, ?_, ⟨c2, c3, c4, c5⟩, fun tt kk j hf => ?_⟩
  · rw [in_76]
    simp (disch := omega) only [x_6_0, x_6_1, x_4_2, x_79_3_10_d0, x_79_3_10_d1, x_79_3_10_d2, x_79_3_10_d3, x_79_3_10_d4, x_79_1_10_d0, x_79_1_10_d1, x_79_1_10_d2, x_79_1_10_d3, x_79_1_10_d4, x_83, cb_ri, cb_rl, cb_rv, cb_th, cb_ite, ps_s, ps_n, u_76_0, a1, b1, c1]
  · unfold fwFr at hf
    rw [c6 _ _ _ (by unfold cwFr; omega), b3 _ _ _ (by unfold w3Fr; omega), a4 _ _ _ (fun z => hf (z.imp (fun y => ⟨y.1, y.2.1, by omega⟩) id))]
