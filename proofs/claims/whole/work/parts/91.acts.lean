/-! ACTS: what was ahead of them is kept. -/
def acFr (nw tt k : Nat) : Prop := stFr 0 tt k ∨ stFr (3 + (nw + 1) % 12) tt k ∨ (k = 0 ∧ (tt = 125 ∨ tt = 126 ∨ tt = 187 ∨ tt = 191 ∨ tt = 192)) ∨ scr tt k
theorem INV_act {h h' : Hp} {H N H' N' S nw : Nat} (I : INV h H N) (p1 : h 126 0 0 = (S : Int)) (p4 : h 125 0 0 = (nw : Int)) (fr : ∀ tt k j, ¬ acFr nw tt k → h' tt k j = h tt k j) (a1 : h' 125 0 0 = (((nw + 1) % 12 : Nat) : Int)) (a2 : h' 126 0 0 = ((min 12 (S + 1) : Nat) : Int)) (a3 : h' 192 0 0 = ((min 12 (S + 1) : Nat) : Int)) (a4 : ∀ j, j < 346 → h' 191 0 (346 * (min 12 (S + 1) - 1) + j) = h 187 0 j) (a5 : ∀ a j, a + 1 < min 12 (S + 1) → j < 346 → h' 191 0 (346 * a + j) = h 191 0 (346 * (a + (S + 1 - min 12 (S + 1))) + j)) (a6 : RS h' (3 + (nw + 1) % 12) (h 187 0) H N) (R : RS h' 0 (h' 187 0) H' N') (G : GM (h' 187 0) H' N') (m : ∀ j, j = 1 ∨ j = 2 ∨ 346 ≤ j → h' 187 0 j = h 187 0 j) : INV h' H' N' := by
  obtain ⟨⟨r1, r2, r3⟩, ⟨en, t1, t2, t3, t4⟩, ⟨i1, i2⟩, ⟨S', nw', z1, z2, z3, z4, z5, z6⟩, f, ad⟩ := I
  have eS : S' = S := by omega
  have en' : nw' = nw := by omega
  subst eS
  subst en'
  have st : ∀ k, k ≠ 0 → k ≠ 1 → k ≠ 3 + (nw' + 1) % 12 → ∀ t i, stTag t → h' t k i = h t k i := fun k h0 h1 h2 t i ht => fr t k i (by unfold stTag at ht; unfold acFr stFr scr csc rsc stTag; omega)
  have hi : ∀ tt k j, tt = 148 ∨ tt = 149 ∨ tt = 184 ∨ tt = 185 ∨ tt = 188 ∨ tt = 189 ∨ tt = 193 ∨ tt = 194 ∨ tt = 198 ∨ tt = 206 → k = 0 → h' tt k j = h tt k j := fun tt k j ht hk => fr tt k j (by unfold acFr stFr scr csc rsc stTag; omega)
  have m8 : h' 188 0 = h 188 0 := funext (fun j => hi _ _ _ (by omega) rfl)
  have lw : ∀ k, k ≠ 2 → ∀ tt j, (104 ≤ tt ∧ tt ≤ 106) ∨ tt = 109 ∨ tt = 110 ∨ tt = 113 → h' tt k j = h tt k j := fun k hk tt j ht => fr tt k j (by unfold acFr stFr scr csc rsc stTag; omega)
  refine ⟨⟨R, G, LawR_e (lw 0 (by omega)) m r3⟩, ⟨en, t1, by rw [hi _ _ _ (by omega) rfl]; exact t2, by rw [hi _ _ _ (by omega) rfl]; exact t3, fun j hj => by rw [hi 193 _ _ (by omega) rfl, hi 148 _ _ (by omega) rfl]; exact t4 j hj⟩, ⟨by rw [hi 185 _ _ (by omega) rfl, hi 189 _ _ (by omega) rfl]; exact i1, ?_⟩, ⟨min 12 (S' + 1), (nw' + 1) % 12, a2, a3, by omega, a1, by omega, fun a ha => ?_⟩, by rw [hi 184 _ _ (by omega) rfl, hi 198 _ _ (by omega) rfl]; exact f, by rw [hi _ _ _ (by omega) rfl]; exact ad⟩
  · rw [hi 185 _ _ (by omega) rfl, m8]
    rcases i2 with y | ⟨y1, H2, N2, y2, y3, y4⟩
    · exact Or.inl y
    · exact Or.inr ⟨y1, H2, N2, RS_e (st 2 (by omega) (by omega) (by omega)) y2, y3, LawR_e (lw 1 (by omega)) (fun _ _ => rfl) y4⟩
  · cases a with
    | zero =>
      have e1 : ((nw' + 1) % 12 + 12 - 0) % 12 = (nw' + 1) % 12 := by omega
      have e2 : min 12 (S' + 1) - 1 - 0 = min 12 (S' + 1) - 1 := by omega
      have em : ∀ j, j < 346 → actM h' (min 12 (S' + 1) - 1) j = h 187 0 j := fun j hj => by unfold actM; rw [if_pos hj]; exact a4 j hj
      rw [e1, e2]
      refine ⟨H, N, RS_mem (fun i h1 _ _ => em i h1) a6, GM_mem (fun i h1 _ _ => em i (by omega)) r2, by rw [em 1 (by omega), m 1 (by omega)], by rw [em 2 (by omega), m 2 (by omega)]⟩
    | succ a =>
      have e1 : ((nw' + 1) % 12 + 12 - (a + 1)) % 12 = (nw' + 12 - a) % 12 := by omega
      have hne : (nw' + 12 - a) % 12 ≠ (nw' + 1) % 12 := by omega
      obtain ⟨H2, N2, q1, q2, q3, q4⟩ := z6 a (by omega)
      have eix : min 12 (S' + 1) - 1 - (a + 1) + (S' + 1 - min 12 (S' + 1)) = S' - 1 - a := by omega
      have em : ∀ j, j < 346 → actM h' (min 12 (S' + 1) - 1 - (a + 1)) j = actM h (S' - 1 - a) j := fun j hj => by
        unfold actM
        rw [if_pos hj, if_pos hj, a5 _ j (by omega) hj, eix]
      rw [e1]
      refine ⟨H2, N2, RS_mem (fun i h1 _ _ => em i h1) (RS_e (st _ (by omega) (by omega) (by omega)) q1), GM_mem (fun i h1 _ _ => em i (by omega)) q2, by rw [em 1 (by omega), q3, m 1 (by omega)], by rw [em 2 (by omega), q4, m 2 (by omega)]⟩
theorem irem_12 : ∀ n : Nat, n < 24 → irem (n : Int) 12 = ((n % 12 : Nat) : Int) := by decide +kernel
/-- what the class changes when it remembers -/
def reFr (nw tt k : Nat) : Prop := stFr (3 + (nw + 1) % 12) tt k ∨ (k = 0 ∧ (tt = 125 ∨ tt = 126))
theorem remember_c (lv H N S nw : Nat) (h : Hp) (M : Nat → Int) (R : RS h 0 M H N) (p1 : h 126 0 0 = (S : Int)) (hS : S ≤ 12) (p4 : h 125 0 0 = (nw : Int)) (hnw : nw < 12) : ∃ h', cl (lv + 3) 37 [aA 5 0, aA 7 0] h = rv h' ∧ h' 125 0 0 = (((nw + 1) % 12 : Nat) : Int) ∧ h' 126 0 0 = ((min 12 (S + 1) : Nat) : Int) ∧ RS h' (3 + (nw + 1) % 12) M H N ∧ RS h' 0 M H N ∧ ∀ tt k j, ¬ reFr nw tt k → h' tt k j = h tt k j := by
  have e1 : irem ((nw : Int) + 1) 12 = (((nw + 1) % 12 : Nat) : Int) := by have := irem_12 (nw + 1) (by omega); exact this
  let h0 : Hp := hset h 125 0 0 (((nw + 1) % 12 : Nat) : Int)
  have R0 : RS h0 0 M H N := RS_e (fun t i ht => hs_o (by unfold stTag at ht; omega)) R
  obtain ⟨h1, c1, c2⟩ := copyFrom_c lv 0 (3 + (nw + 1) % 12) h0 (by omega)
  have c1 : cl (lv + 2) 46 [aA 7 ((nw + 1) % 12 + 3), aA 7 0] (hset h 125 0 0 (((nw + 1) % 12 : Nat) : Int)) = rv h1 := by rw [Nat.add_comm ((nw + 1) % 12) 3]; exact c1
  have o1 : ∀ tt j, h1 tt 0 j = h0 tt 0 j := fun tt j => c2.1 tt 0 j (by omega)
  have s6 : h1 126 0 0 = (S : Int) := by rw [o1]; show hset h 125 0 0 _ 126 0 0 = _; rw [hs_t (by omega)]; exact p1
  have e2 : min (12 : Int) ((S : Int) + 1) = ((min 12 (S + 1) : Nat) : Int) := by omega
  refine ⟨hset h1 126 0 0 ((min 12 (S + 1) : Nat) : Int), ?_, ?_, hs_eq _ _ _ _ _, ?_, ?_, fun tt k j hf => ?_⟩
  · rw [in_37]
    simp (disch := omega) only [x_6_0, x_33, x_1, x_11, x_15, x_36, x_35_0, x_44, x_9_2_I, x_9n_2_I, x_9_2_A, x_9n_2_A, x_9_2_U, x_9n_2_U, x_6_2, x_74, x_6_1, x_79_2_7_d0, x_79_2_7_d1, x_79_2_7_d2, x_79_2_7_d3, x_79_2_7_d4, x_80_2_d0, x_80_2_d1, x_80_2_d2, x_80_2_d3, x_80_2_d4, x_61, x_83, cb_ri, cb_rl, cb_rv, cb_th, cb_ite, ps_s, ps_n, u_37_0, u_37_47, p4, e1, hs_eq, tn, c1, s6, min_c, e2, w32_id, Int.reduceEq, Int.reduceLT, Int.reduceLE, reduceIte, Int.reduceAdd, Int.reduceSub, Int.reduceMul, Int.reduceNeg, Int.reduceToNat, Bool.false_eq_true, eq_self, if_pos, if_neg]
  · rw [hs_t (by omega), o1]; show hset h 125 0 0 _ 125 0 0 = _; rw [hs_eq]
  · exact RS_e (fun t i ht => hs_o (by unfold stTag at ht; omega)) (RS_cp c2 R0)
  · exact RS_e (fun t i ht => by rw [hs_o (by unfold stTag at ht; omega), o1]) R0
  · unfold reFr stFr stTag at hf
    rw [hs_o (by omega)]
    by_cases hk : k = 3 + (nw + 1) % 12
    · subst hk
      have : h1 tt (3 + (nw + 1) % 12) j = h0 tt (3 + (nw + 1) % 12) j := c2.2.2 tt j (fun n hm => by
        unfold tgS tgL tgH at hm
        simp at hm
        omega)
      rw [this]
      exact hs_o (by omega)
    · rw [c2.1 tt k j hk]
      exact hs_o (by omega)
theorem remembers_m (lv S : Nat) (g : Hp) (h2 : g 192 0 0 = (S : Int)) (hS : S ≤ 12) : ∃ g', cl (lv + 1) 238 [aA 12 0] g = rv g' ∧ g' 192 0 0 = ((min 12 (S + 1) : Nat) : Int) ∧ (∀ j, j < 346 → g' 191 0 (346 * (min 12 (S + 1) - 1) + j) = g 187 0 j) ∧ (∀ a j, a + 1 < min 12 (S + 1) → j < 346 → g' 191 0 (346 * a + j) = g 191 0 (346 * (a + (S + 1 - min 12 (S + 1))) + j)) ∧ ∀ tt k j, ¬ (k = 0 ∧ (tt = 191 ∨ tt = 192)) → g' tt k j = g tt k j := by
  -- the last part: the memory goes behind the acts
  have L52 : ∀ (q : Hp) (T : Nat) (v : AV), T ≤ 11 → q 192 0 0 = (T : Int) → (∀ tt k j, ¬ (k = 0 ∧ (tt = 191 ∨ tt = 192)) → q tt k j = g tt k j) → ∃ g', run lv 238 52 [aA 12 0, aI 0] [] q = rv g' ∧ g' 192 0 0 = ((T + 1 : Nat) : Int) ∧ (∀ j, j < 346 → g' 191 0 (346 * T + j) = g 187 0 j) ∧ (∀ j, j < 346 * T → g' 191 0 j = q 191 0 j) ∧ ∀ tt k j, ¬ (k = 0 ∧ (tt = 191 ∨ tt = 192)) → g' tt k j = g tt k j := by
    intro q T v hT hq hf0
    refine loop_p (S := Hp) (F := fun i (q : Hp) => run lv 238 52 [aA 12 0, aI (i : Int)] [] q)
      (I := fun i p => p 192 0 0 = (T : Int) ∧ (∀ j, j < i → p 191 0 (346 * T + j) = g 187 0 j) ∧ (∀ j, j < 346 * T → p 191 0 j = q 191 0 j) ∧ ∀ tt k j, ¬ (k = 0 ∧ (tt = 191 ∨ tt = 192)) → p tt k j = g tt k j)
      (Q := fun r => ∃ g', r = rv g' ∧ g' 192 0 0 = ((T + 1 : Nat) : Int) ∧ (∀ j, j < 346 → g' 191 0 (346 * T + j) = g 187 0 j) ∧ (∀ j, j < 346 * T → g' 191 0 j = q 191 0 j) ∧ ∀ tt k j, ¬ (k = 0 ∧ (tt = 191 ∨ tt = 192)) → g' tt k j = g tt k j) (N := 346) ?_ ?_ q ⟨hq, fun j hj => by omega, fun _ _ => rfl, hf0⟩
    · rintro i p hi ⟨i1, i2, i3, i4⟩
      have e : p 187 0 i = g 187 0 i := i4 _ _ _ (by omega)
      have ei : (346 * (T : Int) + (i : Int)).toNat = 346 * T + i := by omega
      refine ⟨hset p 191 0 (346 * T + i) (g 187 0 i), ?_, by rw [hs_t (by omega)]; exact i1, fun j hj => ?_, fun j hj => by rw [hs_i (by omega)]; exact i3 j hj, fun tt k j hf => by rw [hs_o (by omega)]; exact i4 tt k j hf⟩
      · try simp only
        rw [hd_238_52]
        simp (disch := omega) only [x_6_0, x_33, x_1, x_63, x_7_1_I, x_7_1_A, x_7_1_U, x_61, x_4_1, x_65, x_34, x_11, x_38_187, x_38_191, x_39_187, x_39_191, x_10_1_I, x_10_1_A, x_10_1_U, x_60, x_47_I, x_47_A, x_12, x_36, x_13, x_83, u_238_0, u_238_40, u_238_50, u_238_86, i1, ei, tn, e, Int.reduceEq, Int.reduceLT, Int.reduceLE, reduceIte, Int.reduceAdd, Int.reduceSub, Int.reduceMul, Int.reduceNeg, Int.reduceToNat, Bool.false_eq_true, eq_self, if_pos, if_neg, ci, w32_id]
      · by_cases c : j = i
        · rw [c, hs_eq]
        · rw [hs_i (by omega)]; exact i2 j (by omega)
    · rintro p ⟨i1, i2, i3, i4⟩
      refine ⟨hset p 192 0 0 ((T : Int) + 1), ?_, by rw [hs_eq]; rfl, fun j hj => by rw [hs_t (by omega)]; exact i2 j hj, fun j hj => by rw [hs_t (by omega)]; exact i3 j hj, fun tt k j hf => by rw [hs_o (by omega)]; exact i4 tt k j hf⟩
      try simp only
      rw [hd_238_52]
      simp (disch := omega) only [x_6_0, x_33, x_1, x_63, x_7_1_I, x_7_1_A, x_7_1_U, x_61, x_4_1, x_65, x_34, x_11, x_38_187, x_38_191, x_39_187, x_39_191, x_10_1_I, x_10_1_A, x_10_1_U, x_60, x_47_I, x_47_A, x_12, x_36, x_13, x_83, u_238_0, u_238_40, u_238_50, u_238_86, i1, Int.reduceEq, Int.reduceLT, Int.reduceLE, reduceIte, Int.reduceAdd, Int.reduceSub, Int.reduceMul, Int.reduceNeg, Int.reduceToNat, Bool.false_eq_true, eq_self, if_pos, if_neg, w32_id]
  by_cases c : S = 12
  · subst c
    have main := loop_p (S := Hp) (F := fun i (q : Hp) => run lv 238 11 [aA 12 0, aI (i : Int)] [] q)
      (I := fun i p => p 192 0 0 = 12 ∧ (∀ j, j < i → p 191 0 j = g 191 0 (j + 346)) ∧ (∀ j, i ≤ j → p 191 0 j = g 191 0 j) ∧ ∀ tt k j, ¬ (k = 0 ∧ (tt = 191 ∨ tt = 192)) → p tt k j = g tt k j)
      (Q := fun r => ∃ p : Hp, r = run lv 238 52 [aA 12 0, aI 0] [] p ∧ p 192 0 0 = ((11 : Nat) : Int) ∧ (∀ j, j < 3806 → p 191 0 j = g 191 0 (j + 346)) ∧ ∀ tt k j, ¬ (k = 0 ∧ (tt = 191 ∨ tt = 192)) → p tt k j = g tt k j) (N := 3806) ?_ ?_ g ⟨h2, fun j hj => by omega, fun _ _ => rfl, fun _ _ _ _ => rfl⟩
    · obtain ⟨p, f1, f2, f3, f4⟩ := main
      obtain ⟨g', b1, b2, b3, b4, b5⟩ := L52 p 11 none (by omega) f2 f4
      refine ⟨g', ?_, b2, b3, fun a j ha hj => ?_, b5⟩
      · rw [← b1, ← f1, in_238]
        have h2' : g 192 0 0 = 12 := h2
        simp (disch := omega) only [x_6_0, x_33, x_1, x_63, x_7_1_I, x_7_1_A, x_7_1_U, x_61, x_4_1, x_65, x_34, x_11, x_38_187, x_38_191, x_39_187, x_39_191, x_10_1_I, x_10_1_A, x_10_1_U, x_60, x_47_I, x_47_A, x_12, x_36, x_13, x_83, u_238_0, u_238_40, u_238_50, u_238_86, h2', Int.reduceEq, Int.reduceLT, Int.reduceLE, reduceIte, Int.reduceAdd, Int.reduceSub, Int.reduceMul, Int.reduceNeg, Int.reduceToNat, Bool.false_eq_true, eq_self, if_pos, if_neg]
        rfl
      · have ha : a + 1 < 12 := ha
        rw [b4 _ (by omega), f3 _ (by omega)]
        congr 1
        show 346 * a + j + 346 = 346 * (a + (12 + 1 - 12)) + j
        omega
    · rintro i p hi ⟨i1, i2, i3, i4⟩
      have e : p 191 0 (i + 346) = g 191 0 (i + 346) := i3 _ (by omega)
      have ei : ((i : Int) + 346).toNat = i + 346 := by omega
      refine ⟨hset p 191 0 i (g 191 0 (i + 346)), ?_, by rw [hs_t (by omega)]; exact i1, fun j hj => ?_, fun j hj => by rw [hs_i (by omega)]; exact i3 j (by omega), fun tt k j hf => by rw [hs_o (by omega)]; exact i4 tt k j hf⟩
      · try simp only
        rw [hd_238_11]
        simp (disch := omega) only [x_6_0, x_33, x_1, x_63, x_7_1_I, x_7_1_A, x_7_1_U, x_61, x_4_1, x_65, x_34, x_11, x_38_187, x_38_191, x_39_187, x_39_191, x_10_1_I, x_10_1_A, x_10_1_U, x_60, x_47_I, x_47_A, x_12, x_36, x_13, x_83, u_238_0, u_238_40, u_238_50, u_238_86, ei, tn, e, Int.reduceEq, Int.reduceLT, Int.reduceLE, reduceIte, Int.reduceAdd, Int.reduceSub, Int.reduceMul, Int.reduceNeg, Int.reduceToNat, Bool.false_eq_true, eq_self, if_pos, if_neg, ci, w32_id]
      · by_cases c : j = i
        · rw [c, hs_eq]
        · rw [hs_i c]; exact i2 j (by omega)
    · rintro p ⟨i1, i2, i3, i4⟩
      refine ⟨hset p 192 0 0 11, ?_, by rw [hs_eq]; rfl, fun j hj => by rw [hs_t (by omega)]; exact i2 j hj, fun tt k j hf => by rw [hs_o (by omega)]; exact i4 tt k j hf⟩
      try simp only
      rw [hd_238_11]
      simp (disch := omega) only [x_6_0, x_33, x_1, x_63, x_7_1_I, x_7_1_A, x_7_1_U, x_61, x_4_1, x_65, x_34, x_11, x_38_187, x_38_191, x_39_187, x_39_191, x_10_1_I, x_10_1_A, x_10_1_U, x_60, x_47_I, x_47_A, x_12, x_36, x_13, x_83, u_238_0, u_238_40, u_238_50, u_238_86, i1, Int.reduceEq, Int.reduceLT, Int.reduceLE, reduceIte, Int.reduceAdd, Int.reduceSub, Int.reduceMul, Int.reduceNeg, Int.reduceToNat, Bool.false_eq_true, eq_self, if_pos, if_neg, w32_id]
  · have em : min 12 (S + 1) = S + 1 := by omega
    obtain ⟨g', b1, b2, b3, b4, b5⟩ := L52 g S none (by omega) h2 (fun _ _ _ _ => rfl)
    rw [em]
    refine ⟨g', ?_, b2, by rw [Nat.add_sub_cancel]; exact b3, fun a j ha hj => ?_, b5⟩
    · rw [← b1, in_238]
      have nS : ¬ (S : Int) = 12 := by omega
      simp (disch := omega) only [x_6_0, x_33, x_1, x_63, x_7_1_I, x_7_1_A, x_7_1_U, x_61, x_4_1, x_65, x_34, x_11, x_38_187, x_38_191, x_39_187, x_39_191, x_10_1_I, x_10_1_A, x_10_1_U, x_60, x_47_I, x_47_A, x_12, x_36, x_13, x_83, u_238_0, u_238_40, u_238_50, u_238_86, h2, nS, Int.reduceEq, Int.reduceLT, Int.reduceLE, reduceIte, Int.reduceAdd, Int.reduceSub, Int.reduceMul, Int.reduceNeg, Int.reduceToNat, Bool.false_eq_true, eq_self, if_pos, if_neg]
    · rw [b4 _ (by
        have : 346 * (a + 1) ≤ 346 * S := Nat.mul_le_mul_left 346 (by omega)
        omega)]
      congr 1
      omega
theorem sets_m (lv S i : Nat) (v : Int) (g : Hp) (h2 : g 192 0 0 = (S : Int)) (hS : S ≤ 12) (hi : i < 346) : ∃ g', cl (lv + 2) 240 [aA 12 0, aI (i : Int), aI v] g = ri (g 187 0 i) (hset g' 187 0 i v) ∧ g' 192 0 0 = ((min 12 (S + 1) : Nat) : Int) ∧ (∀ j, j < 346 → g' 191 0 (346 * (min 12 (S + 1) - 1) + j) = g 187 0 j) ∧ (∀ a j, a + 1 < min 12 (S + 1) → j < 346 → g' 191 0 (346 * a + j) = g 191 0 (346 * (a + (S + 1 - min 12 (S + 1))) + j)) ∧ ∀ tt k j, ¬ (k = 0 ∧ (tt = 191 ∨ tt = 192)) → g' tt k j = g tt k j := by
  obtain ⟨g', b1, b2, b3, b4, b5⟩ := remembers_m lv S g h2 hS
  have e : g' 187 0 i = g 187 0 i := b5 _ _ _ (by omega)
  refine ⟨g', ?_, b2, b3, b4, b5⟩
  rw [in_240]
  simp (disch := omega) only [x_6_0, x_79_1_12_d0, x_79_1_12_d1, x_79_1_12_d2, x_79_1_12_d3, x_79_1_12_d4, x_34, x_4_1, x_38_187, x_7_3_I, x_7_3_A, x_7_3_U, x_4_2, x_39_187, x_4_3, x_82, cb_ri, cb_rl, cb_rv, cb_th, cb_ite, ps_s, ps_n, u_240_0, b1, tn, e]
/-- an act: the class has remembered and changed its state, the reference has remembered and changed its memory -/
theorem AG_act {h h1 g g' h2 : Hp} {H N H' N' S nw : Nat} (I : INV h H N) (p1 : h 126 0 0 = (S : Int)) (p4 : h 125 0 0 = (nw : Int)) (c1 : ∀ tt k j, ¬ (stFr 0 tt k ∨ reFr nw tt k ∨ csc tt k) → h1 tt k j = h tt k j) (c2 : h1 125 0 0 = (((nw + 1) % 12 : Nat) : Int)) (c3 : h1 126 0 0 = ((min 12 (S + 1) : Nat) : Int)) (c4 : RS h1 (3 + (nw + 1) % 12) (h 187 0) H N) (s : Sm (fun tt k => rsc tt k ∨ (tt = 25 ∧ k = 0)) h1 g) (b2 : g' 192 0 0 = ((min 12 (S + 1) : Nat) : Int)) (b3 : ∀ j, j < 346 → g' 191 0 (346 * (min 12 (S + 1) - 1) + j) = g 187 0 j) (b4 : ∀ a j, a + 1 < min 12 (S + 1) → j < 346 → g' 191 0 (346 * a + j) = g 191 0 (346 * (a + (S + 1 - min 12 (S + 1))) + j)) (b5 : ∀ tt k j, ¬ (k = 0 ∧ (tt = 191 ∨ tt = 192)) → g' tt k j = g tt k j) (d : ∀ tt k j, ¬ (rsc tt k ∨ (tt = 187 ∧ k = 0)) → h2 tt k j = g' tt k j) (R : RS h1 0 (h2 187 0) H' N') (G : GM (h2 187 0) H' N') (m : ∀ j, j = 1 ∨ j = 2 ∨ 346 ≤ j → h2 187 0 j = h 187 0 j) : (∃ H N, INV h2 H N) ∧ (∀ j, h2 22 0 j = h 22 0 j) ∧ h2 27 0 0 = h 27 0 0 := by
  have tot : ∀ tt k j, ¬ acFr nw tt k → h2 tt k j = h tt k j := fun tt k j hf => by
    unfold acFr scr at hf
    have n1 : ¬ stFr 0 tt k := fun z => hf (Or.inl z)
    have n2 : ¬ stFr (3 + (nw + 1) % 12) tt k := fun z => hf (Or.inr (Or.inl z))
    have n3 : ¬ (k = 0 ∧ (tt = 125 ∨ tt = 126 ∨ tt = 187 ∨ tt = 191 ∨ tt = 192)) := fun z => hf (Or.inr (Or.inr (Or.inl z)))
    have n4 : ¬ csc tt k := fun z => hf (Or.inr (Or.inr (Or.inr (Or.inl z))))
    have n5 : ¬ rsc tt k := fun z => hf (Or.inr (Or.inr (Or.inr (Or.inr (Or.inl z)))))
    have n6 : ¬ (tt = 25 ∧ k = 0) := fun z => hf (Or.inr (Or.inr (Or.inr (Or.inr (Or.inr z)))))
    rw [d tt k j (fun z => z.elim n5 (fun z => by omega)), b5 tt k j (by omega), s tt k j (fun z => z.elim n5 n6)]
    exact c1 tt k j (fun z => z.elim n1 (fun z => z.elim (fun z => z.elim n2 (fun z => by omega)) n4))
  have cl2 : ∀ tt k j, tt < 186 → tt ≠ 25 → h2 tt k j = h1 tt k j := fun tt k j h1' h25 => by
    rw [d tt k j (by unfold rsc; omega), b5 tt k j (by omega), s tt k j (by unfold rsc; omega)]
  have g7 : ∀ j, g 187 0 j = h 187 0 j := fun j => by rw [s _ _ _ (by unfold rsc; omega)]; exact c1 _ _ _ (by unfold stFr stTag reFr stFr csc stTag; omega)
  have g1 : ∀ j, g 191 0 j = h 191 0 j := fun j => by rw [s _ _ _ (by unfold rsc; omega)]; exact c1 _ _ _ (by unfold stFr stTag reFr stFr csc stTag; omega)
  refine ⟨⟨H', N', INV_act I p1 p4 tot (by rw [cl2 _ _ _ (by omega) (by omega)]; exact c2) (by rw [cl2 _ _ _ (by omega) (by omega)]; exact c3) (by rw [d _ _ _ (by unfold rsc; omega)]; exact b2) (fun j hj => by rw [d _ _ _ (by unfold rsc; omega), b3 j hj, g7]) (fun a j ha hj => by rw [d _ _ _ (by unfold rsc; omega), b4 a j ha hj, g1]) (RS_e (fun t i ht => cl2 t _ i (by unfold stTag at ht; omega) (by unfold stTag at ht; omega)) c4) (RS_e (fun t i ht => cl2 t _ i (by unfold stTag at ht; omega) (by unfold stTag at ht; omega)) R) G m⟩, fun j => tot _ _ _ (by unfold acFr stFr scr csc rsc stTag; omega), tot _ _ _ (by unfold acFr stFr scr csc rsc stTag; omega)⟩
