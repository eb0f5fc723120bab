/-! THE CLASS: a state, its small methods, and its copies. -/
/-- the notes of State k are those of the memory M -/
def RN (h : Hp) (k : Nat) (M : Nat → Int) (N : Nat) : Prop := h 140 k 0 = (N : Int) ∧ N ≤ 14 ∧ (∃ c : Nat, h 142 k 0 = (c : Int) ∧ c < 16384 ∧ ∀ n, n < N → c.testBit n = !(stB M n)) ∧ ∀ n, n < N → h 134 k n = M (50 + 4 * n) ∧ h 135 k n = M (50 + 4 * n + 1) ∧ h 136 k n = M (50 + 4 * n + 2)
theorem isStanding_c (lv k N n : Nat) (M : Nat → Int) (h : Hp) (R : RN h k M N) (hn : n < N) : cl (lv + 1) 51 [aA 7 k, aI (n : Int)] h = ri (if stB M n = true then 1 else 0) h := by
  obtain ⟨-, hN, ⟨c, hc1, hc2, hc3⟩, -⟩ := R
  have hb := hc3 n hn
  rw [in_51]
  by_cases h1 : stB M n = true
  · simp (disch := omega) only [x_6_0, x_33, x_4_1, x_21, x_1, x_17, x_69, x_60, x_61, x_85, u_51_0, u_51_15, u_51_16, hc1, bit_n (show n < 32 by omega) (show c < 2 ^ 31 by omega), hb, h1, Bool.not_true, Int.reduceEq, Int.reduceLT, Int.reduceLE, reduceIte, Int.reduceAdd, Int.reduceSub, Int.reduceMul, Int.reduceNeg, Int.reduceToNat, Bool.false_eq_true, eq_self, if_pos, if_neg]
  · simp (disch := omega) only [x_6_0, x_33, x_4_1, x_21, x_1, x_17, x_69, x_60, x_61, x_85, u_51_0, u_51_15, u_51_16, hc1, bit_n (show n < 32 by omega) (show c < 2 ^ 31 by omega), hb, h1, Bool.not_false, Int.reduceEq, Int.reduceLT, Int.reduceLE, reduceIte, Int.reduceAdd, Int.reduceSub, Int.reduceMul, Int.reduceNeg, Int.reduceToNat, Bool.false_eq_true, eq_self, if_pos, if_neg]
theorem notesAt_c (lv k N : Nat) (M : Nat → Int) (b : Int) (h : Hp) (R : RN h k M N) : cl (lv + 2) 53 [aA 7 k, aI b] h = ri ((bsN (atB M b) N : Nat) : Int) h := by
  have hst := fun lv n => isStanding_c lv k N n M h R
  obtain ⟨hN1, hN, -, hR⟩ := R
  rw [in_53]
  simp (disch := omega) only [x_1, x_7_2_I, x_7_2_A, x_7_2_U, x_7_3_I, x_7_3_A, x_7_3_U, x_61, x_4_3, x_6_0, x_33, x_65, x_34, x_38_134, x_4_1, x_63, x_79_2_7_d0, x_79_2_7_d1, x_79_2_7_d2, x_79_2_7_d3, x_79_2_7_d4, x_68, x_4_2, x_20, x_18, x_10_3_I, x_10_3_A, x_10_3_U, x_60, x_82, cb_ri, cb_rl, cb_rv, cb_th, cb_ite, ps_s, ps_n, u_53_0, u_53_36, u_53_42]
  refine loop_up (F := fun i => run (lv + 1) 53 4 [aA 7 k, aI b, aI ((bsN (atB M b) i : Nat) : Int), aI (i : Int)] [] h) (N := N) ?_ ?_ 0 (by omega)
  · intro i hi
    obtain ⟨e1, -⟩ := hR i hi
    have e2 := hst lv i hi
    show run _ _ _ _ _ _ = run _ _ _ _ _ _
    rw [hd_53_4]
    by_cases h2 : M (50 + 4 * i) = b
    · by_cases h1 : stB M i = true
      · simp (disch := omega) only [x_1, x_7_2_I, x_7_2_A, x_7_2_U, x_7_3_I, x_7_3_A, x_7_3_U, x_61, x_4_3, x_6_0, x_33, x_65, x_34, x_38_134, x_4_1, x_63, x_79_2_7_d0, x_79_2_7_d1, x_79_2_7_d2, x_79_2_7_d3, x_79_2_7_d4, x_68, x_4_2, x_20, x_18, x_10_3_I, x_10_3_A, x_10_3_U, x_60, x_82, cb_ri, cb_rl, cb_rv, cb_th, cb_ite, ps_s, ps_n, u_53_0, u_53_36, u_53_42, hN1, tn, e1, e2, h1, h2, Int.reduceEq, Int.reduceLT, Int.reduceLE, reduceIte, Int.reduceAdd, Int.reduceSub, Int.reduceMul, Int.reduceNeg, Int.reduceToNat, Bool.false_eq_true, eq_self, if_pos, if_neg, ci, w32_id]
        rw [bs_or _ (by omega), bs_s _ (by simp [atB, h1, h2])]
      · simp (disch := omega) only [x_1, x_7_2_I, x_7_2_A, x_7_2_U, x_7_3_I, x_7_3_A, x_7_3_U, x_61, x_4_3, x_6_0, x_33, x_65, x_34, x_38_134, x_4_1, x_63, x_79_2_7_d0, x_79_2_7_d1, x_79_2_7_d2, x_79_2_7_d3, x_79_2_7_d4, x_68, x_4_2, x_20, x_18, x_10_3_I, x_10_3_A, x_10_3_U, x_60, x_82, cb_ri, cb_rl, cb_rv, cb_th, cb_ite, ps_s, ps_n, u_53_0, u_53_36, u_53_42, hN1, tn, e1, e2, h1, h2, Int.reduceEq, Int.reduceLT, Int.reduceLE, reduceIte, Int.reduceAdd, Int.reduceSub, Int.reduceMul, Int.reduceNeg, Int.reduceToNat, Bool.false_eq_true, eq_self, if_pos, if_neg, ci, w32_id]
        rw [bs_f _ (by simp [atB, h1])]
    · simp (disch := omega) only [x_1, x_7_2_I, x_7_2_A, x_7_2_U, x_7_3_I, x_7_3_A, x_7_3_U, x_61, x_4_3, x_6_0, x_33, x_65, x_34, x_38_134, x_4_1, x_63, x_79_2_7_d0, x_79_2_7_d1, x_79_2_7_d2, x_79_2_7_d3, x_79_2_7_d4, x_68, x_4_2, x_20, x_18, x_10_3_I, x_10_3_A, x_10_3_U, x_60, x_82, cb_ri, cb_rl, cb_rv, cb_th, cb_ite, ps_s, ps_n, u_53_0, u_53_36, u_53_42, hN1, tn, e1, e2, h2, Int.reduceEq, Int.reduceLT, Int.reduceLE, reduceIte, Int.reduceAdd, Int.reduceSub, Int.reduceMul, Int.reduceNeg, Int.reduceToNat, Bool.false_eq_true, eq_self, if_pos, if_neg, ci, w32_id]
      rw [bs_f _ (by simp [atB, h2])]
  · show run _ _ _ _ _ _ = _
    rw [hd_53_4]
    simp (disch := omega) only [x_1, x_7_2_I, x_7_2_A, x_7_2_U, x_7_3_I, x_7_3_A, x_7_3_U, x_61, x_4_3, x_6_0, x_33, x_65, x_34, x_38_134, x_4_1, x_63, x_79_2_7_d0, x_79_2_7_d1, x_79_2_7_d2, x_79_2_7_d3, x_79_2_7_d4, x_68, x_4_2, x_20, x_18, x_10_3_I, x_10_3_A, x_10_3_U, x_60, x_82, cb_ri, cb_rl, cb_rv, cb_th, cb_ite, ps_s, ps_n, u_53_0, u_53_36, u_53_42, Int.reduceEq, Int.reduceLT, Int.reduceLE, reduceIte, Int.reduceAdd, Int.reduceSub, Int.reduceMul, Int.reduceNeg, Int.reduceToNat, Bool.false_eq_true, eq_self, if_pos, if_neg, hN1]
theorem isOccupied_c (lv k N : Nat) (M : Nat → Int) (b key but : Int) (h : Hp) (R : RN h k M N) : cl (lv + 2) 52 [aA 7 k, aI b, aI key, aI but] h = ri (if anyB (thB M key b but) N = true then 1 else 0) h := by
  have hst := fun lv n => isStanding_c lv k N n M h R
  obtain ⟨hN1, hN, -, hR⟩ := R
  rw [in_52]
  simp (disch := omega) only [x_1, x_7_4_I, x_7_4_A, x_7_4_U, x_61, x_4_4, x_6_0, x_33, x_65, x_4_3, x_62, x_79_2_7_d0, x_79_2_7_d1, x_79_2_7_d2, x_79_2_7_d3, x_79_2_7_d4, x_68, x_34, x_38_134, x_38_135, x_4_1, x_63, x_4_2, x_85, x_10_4_I, x_10_4_A, x_10_4_U, x_60, cb_ri, cb_rl, cb_rv, cb_th, cb_ite, ps_s, ps_n, u_52_0, u_52_51, u_52_57]
  have main := loop_any (F := fun i => run (lv + 1) 52 3 [aA 7 k, aI b, aI key, aI but, aI (i : Int)] [] h) (N := N) (P := thB M key b but) (r1 := ri 1 h) (r0 := ri 0 h) ?_ ?_
  · show run _ _ _ _ _ _ = _
    refine (Eq.trans main ?_)
    split <;> rfl
  · intro i hi
    obtain ⟨e1, e3, -⟩ := hR i hi
    have e2 := hst lv i hi
    show run _ _ _ _ _ _ = if _ then _ else run _ _ _ _ _ _
    rw [hd_52_3]
    by_cases h1 : (i : Int) = but
    · have hp : thB M key b but i = false := by simp [thB, h1]
      simp (disch := omega) only [x_1, x_7_4_I, x_7_4_A, x_7_4_U, x_61, x_4_4, x_6_0, x_33, x_65, x_4_3, x_62, x_79_2_7_d0, x_79_2_7_d1, x_79_2_7_d2, x_79_2_7_d3, x_79_2_7_d4, x_68, x_34, x_38_134, x_38_135, x_4_1, x_63, x_4_2, x_85, x_10_4_I, x_10_4_A, x_10_4_U, x_60, cb_ri, cb_rl, cb_rv, cb_th, cb_ite, ps_s, ps_n, u_52_0, u_52_51, u_52_57, hN1, h1, hp, Int.reduceEq, Int.reduceLT, Int.reduceLE, reduceIte, Int.reduceAdd, Int.reduceSub, Int.reduceMul, Int.reduceNeg, Int.reduceToNat, Bool.false_eq_true, eq_self, if_pos, if_neg, ci, w32_id]
      simp only [← h1, ci]
    · by_cases h2 : stB M i = true
      · by_cases h3 : M (50 + 4 * i) = b
        · by_cases h4 : M (50 + 4 * i + 1) = key
          · have hp : thB M key b but i = true := by simp [thB, atB, h1, h2, h3, h4]
            simp (disch := omega) only [x_1, x_7_4_I, x_7_4_A, x_7_4_U, x_61, x_4_4, x_6_0, x_33, x_65, x_4_3, x_62, x_79_2_7_d0, x_79_2_7_d1, x_79_2_7_d2, x_79_2_7_d3, x_79_2_7_d4, x_68, x_34, x_38_134, x_38_135, x_4_1, x_63, x_4_2, x_85, x_10_4_I, x_10_4_A, x_10_4_U, x_60, cb_ri, cb_rl, cb_rv, cb_th, cb_ite, ps_s, ps_n, u_52_0, u_52_51, u_52_57, hN1, tn, e1, e2, e3, h1, h2, h3, h4, hp, Int.reduceEq, Int.reduceLT, Int.reduceLE, reduceIte, Int.reduceAdd, Int.reduceSub, Int.reduceMul, Int.reduceNeg, Int.reduceToNat, Bool.false_eq_true, eq_self, if_pos, if_neg, ci, w32_id]
          · have hp : thB M key b but i = false := by simp [thB, atB, h1, h2, h3, h4]
            simp (disch := omega) only [x_1, x_7_4_I, x_7_4_A, x_7_4_U, x_61, x_4_4, x_6_0, x_33, x_65, x_4_3, x_62, x_79_2_7_d0, x_79_2_7_d1, x_79_2_7_d2, x_79_2_7_d3, x_79_2_7_d4, x_68, x_34, x_38_134, x_38_135, x_4_1, x_63, x_4_2, x_85, x_10_4_I, x_10_4_A, x_10_4_U, x_60, cb_ri, cb_rl, cb_rv, cb_th, cb_ite, ps_s, ps_n, u_52_0, u_52_51, u_52_57, hN1, tn, e1, e2, e3, h1, h2, h3, h4, hp, Int.reduceEq, Int.reduceLT, Int.reduceLE, reduceIte, Int.reduceAdd, Int.reduceSub, Int.reduceMul, Int.reduceNeg, Int.reduceToNat, Bool.false_eq_true, eq_self, if_pos, if_neg, ci, w32_id]
        · have hp : thB M key b but i = false := by simp [thB, atB, h1, h2, h3]
          simp (disch := omega) only [x_1, x_7_4_I, x_7_4_A, x_7_4_U, x_61, x_4_4, x_6_0, x_33, x_65, x_4_3, x_62, x_79_2_7_d0, x_79_2_7_d1, x_79_2_7_d2, x_79_2_7_d3, x_79_2_7_d4, x_68, x_34, x_38_134, x_38_135, x_4_1, x_63, x_4_2, x_85, x_10_4_I, x_10_4_A, x_10_4_U, x_60, cb_ri, cb_rl, cb_rv, cb_th, cb_ite, ps_s, ps_n, u_52_0, u_52_51, u_52_57, hN1, tn, e1, e2, e3, h1, h2, h3, hp, Int.reduceEq, Int.reduceLT, Int.reduceLE, reduceIte, Int.reduceAdd, Int.reduceSub, Int.reduceMul, Int.reduceNeg, Int.reduceToNat, Bool.false_eq_true, eq_self, if_pos, if_neg, ci, w32_id]
      · have hp : thB M key b but i = false := by simp [thB, atB, h1, h2]
        simp (disch := omega) only [x_1, x_7_4_I, x_7_4_A, x_7_4_U, x_61, x_4_4, x_6_0, x_33, x_65, x_4_3, x_62, x_79_2_7_d0, x_79_2_7_d1, x_79_2_7_d2, x_79_2_7_d3, x_79_2_7_d4, x_68, x_34, x_38_134, x_38_135, x_4_1, x_63, x_4_2, x_85, x_10_4_I, x_10_4_A, x_10_4_U, x_60, cb_ri, cb_rl, cb_rv, cb_th, cb_ite, ps_s, ps_n, u_52_0, u_52_51, u_52_57, hN1, tn, e1, e2, e3, h1, h2, hp, Int.reduceEq, Int.reduceLT, Int.reduceLE, reduceIte, Int.reduceAdd, Int.reduceSub, Int.reduceMul, Int.reduceNeg, Int.reduceToNat, Bool.false_eq_true, eq_self, if_pos, if_neg, ci, w32_id]
  · show run _ _ _ _ _ _ = _
    rw [hd_52_3]
    simp (disch := omega) only [x_1, x_7_4_I, x_7_4_A, x_7_4_U, x_61, x_4_4, x_6_0, x_33, x_65, x_4_3, x_62, x_79_2_7_d0, x_79_2_7_d1, x_79_2_7_d2, x_79_2_7_d3, x_79_2_7_d4, x_68, x_34, x_38_134, x_38_135, x_4_1, x_63, x_4_2, x_85, x_10_4_I, x_10_4_A, x_10_4_U, x_60, cb_ri, cb_rl, cb_rv, cb_th, cb_ite, ps_s, ps_n, u_52_0, u_52_51, u_52_57, Int.reduceEq, Int.reduceLT, Int.reduceLE, reduceIte, Int.reduceAdd, Int.reduceSub, Int.reduceMul, Int.reduceNeg, Int.reduceToNat, Bool.false_eq_true, eq_self, if_pos, if_neg, hN1]
/-! copies -/
/-- h is h0 but that object k' has, at the tags of T, what object k has -/
def CP (h0 h : Hp) (k k' : Nat) (T : List (Nat × Nat)) : Prop := (∀ t k2 i, k2 ≠ k' → h t k2 i = h0 t k2 i) ∧ (∀ t n i, (t, n) ∈ T → i < n → h t k' i = h0 t k i) ∧ (∀ t i, (∀ n, (t, n) ∉ T) → h t k' i = h0 t k' i)
theorem CP_0 (h0 : Hp) (k k' : Nat) : CP h0 h0 k k' [] := ⟨fun _ _ _ _ => rfl, fun _ _ _ h => (by cases h), fun _ _ _ => rfl⟩
theorem CP_c {h0 h : Hp} {k k' : Nat} {T : List (Nat × Nat)} (c : CP h0 h k k' T) (hk : ¬ k = k') (t n : Nat) (ht : T.all (fun q => decide (q.1 ≠ t)) = true) : CP h0 (hcpy h t k t k' 0 0 n) k k' ((t, n) :: T) := by
  obtain ⟨c1, c2, c3⟩ := c
  have ht : ∀ q ∈ T, q.1 ≠ t := fun q hq => by have := List.all_eq_true.mp ht q hq; simpa using this
  refine ⟨fun t2 k2 i h2 => ?_, fun t2 n2 i hm hi => ?_, fun t2 i hm => ?_⟩
  · unfold hcpy; rw [if_neg (fun z => h2 z.2.1)]; exact c1 t2 k2 i h2
  · rcases List.mem_cons.mp hm with e | e
    · cases e
      unfold hcpy; rw [if_pos ⟨rfl, rfl, by omega, by omega⟩, Nat.zero_add, Nat.sub_zero]; exact c1 _ k i hk
    · unfold hcpy; rw [if_neg (fun z => ht _ e z.1)]; exact c2 t2 n2 i e hi
  · unfold hcpy
    rw [if_neg (fun z => hm n (by rw [z.1]; exact List.mem_cons_self))]
    exact c3 t2 i (fun n2 z => hm n2 (List.mem_cons_of_mem _ z))
theorem CP_s {h0 h : Hp} {k k' : Nat} {T : List (Nat × Nat)} (c : CP h0 h k k' T) (t : Nat) {v : Int} (hv : v = h0 t k 0) (ht : T.all (fun q => decide (q.1 ≠ t)) = true) : CP h0 (hset h t k' 0 v) k k' ((t, 1) :: T) := by
  obtain ⟨c1, c2, c3⟩ := c
  have ht : ∀ q ∈ T, q.1 ≠ t := fun q hq => by have := List.all_eq_true.mp ht q hq; simpa using this
  refine ⟨fun t2 k2 i h2 => ?_, fun t2 n2 i hm hi => ?_, fun t2 i hm => ?_⟩
  · unfold hset; rw [if_neg (fun z => h2 z.2.1)]; exact c1 t2 k2 i h2
  · rcases List.mem_cons.mp hm with e | e
    · cases e
      unfold hset; rw [if_pos ⟨rfl, rfl, by omega⟩, hv, show i = 0 by omega]
    · unfold hset; rw [if_neg (fun z => ht _ e z.1)]; exact c2 t2 n2 i e hi
  · unfold hset
    rw [if_neg (fun z => hm 1 (by rw [z.1]; exact List.mem_cons_self))]
    exact c3 t2 i (fun n2 z => hm n2 (List.mem_cons_of_mem _ z))
theorem CP_tr {h0 h1 h2 : Hp} {k k' : Nat} {T T2 : List (Nat × Nat)} (c : CP h0 h1 k k' T) (hk : ¬ k = k') (d : CP h1 h2 k k' T2) (ht : T2.all (fun q => T.all (fun z => decide (z.1 ≠ q.1))) = true) : CP h0 h2 k k' (T2 ++ T) := by
  obtain ⟨c1, c2, c3⟩ := c
  obtain ⟨d1, d2, d3⟩ := d
  have ht : ∀ q ∈ T2, ∀ z ∈ T, z.1 ≠ q.1 := fun q hq z hz => by have := List.all_eq_true.mp (List.all_eq_true.mp ht q hq) z hz; simpa using this
  refine ⟨fun t k2 i hh => (d1 t k2 i hh).trans (c1 t k2 i hh), fun t n i hm hi => ?_, fun t i hm => ?_⟩
  · rcases List.mem_append.mp hm with e | e
    · rw [d2 t n i e hi]; exact c1 t k i hk
    · rw [d3 t i (fun n2 z => ht _ z _ e rfl)]; exact c2 t n i e hi
  · rw [d3 t i (fun n z => hm n (List.mem_append_left _ z))]
    exact c3 t i (fun n z => hm n (List.mem_append_right _ z))
def tgH : List (Nat × Nat) := [(141, 1), (139, 1), (133, 6), (132, 6), (131, 6), (130, 6), (129, 6)]
def tgL : List (Nat × Nat) := [(123, 1), (122, 1), (121, 60)]
theorem copyHands_c (lv k k' : Nat) (h : Hp) (hk : ¬ k = k') : ∃ h', cl (lv + 1) 47 [aA 7 k', aA 7 k] h = rv h' ∧ CP h h' k k' tgH := by
  rw [in_47]
  simp (disch := omega) only [x_6_1, x_34, x_1, x_6_0, x_50_129, x_50_130, x_50_131, x_50_132, x_50_133, x_33, x_36, x_83, u_47_0, Int.reduceEq, Int.reduceLT, Int.reduceLE, reduceIte, Int.reduceAdd, Int.reduceSub, Int.reduceMul, Int.reduceNeg, Int.reduceToNat, Bool.false_eq_true, eq_self, if_pos, if_neg]
  refine ⟨_, rfl, ?_⟩
  have c1 := CP_c (CP_c (CP_c (CP_c (CP_c (CP_0 h k k') hk 129 6 rfl) hk 130 6 rfl) hk 131 6 rfl) hk 132 6 rfl) hk 133 6 rfl
  have c2 := CP_s c1 139 (v := _) (c1.1 139 k 0 hk) rfl
  exact CP_s c2 141 (c2.1 141 k 0 hk) rfl
theorem logCopy_c (lv k k' : Nat) (h : Hp) (hk : ¬ k = k') : ∃ h', cl (lv + 1) 27 [aA 4 k', aA 4 k] h = rv h' ∧ CP h h' k k' tgL := by
  rw [in_27]
  simp (disch := omega) only [x_6_1, x_34, x_1, x_6_0, x_50_121, x_33, x_36, x_83, u_27_0, Int.reduceEq, Int.reduceLT, Int.reduceLE, reduceIte, Int.reduceAdd, Int.reduceSub, Int.reduceMul, Int.reduceNeg, Int.reduceToNat, Bool.false_eq_true, eq_self, if_pos, if_neg]
  refine ⟨_, rfl, ?_⟩
  have c1 := CP_c (CP_0 h k k') hk 121 60 rfl
  have c2 := CP_s c1 122 (v := _) (c1.1 122 k 0 hk) rfl
  exact CP_s c2 123 (c2.1 123 k 0 hk) rfl
def tgS : List (Nat × Nat) := [(147, 1), (146, 1), (145, 1), (144, 1), (143, 1), (142, 1), (140, 1)] ++ (tgL ++ ([(137, 4), (136, 14), (135, 14), (134, 14)] ++ tgH))
theorem copyFrom_c (lv k k' : Nat) (h : Hp) (hk : ¬ k = k') : ∃ h', cl (lv + 2) 46 [aA 7 k', aA 7 k] h = rv h' ∧ CP h h' k k' tgS := by
  obtain ⟨h1, e1, c1⟩ := copyHands_c lv k k' h hk
  have c2 := CP_c (CP_c (CP_c (CP_c (CP_0 h1 k k') hk 134 14 rfl) hk 135 14 rfl) hk 136 14 rfl) hk 137 4 rfl
  obtain ⟨h3, e3, c3⟩ := logCopy_c lv k k' (hcpy (hcpy (hcpy (hcpy h1 134 k 134 k' 0 0 14) 135 k 135 k' 0 0 14) 136 k 136 k' 0 0 14) 137 k 137 k' 0 0 4) hk
  rw [in_46]
  simp (disch := omega) only [x_6_0, x_6_1, x_79_2_7_d0, x_79_2_7_d1, x_79_2_7_d2, x_79_2_7_d3, x_79_2_7_d4, x_34, x_1, x_50_134, x_50_135, x_50_136, x_50_137, x_79_2_4_d0, x_79_2_4_d1, x_79_2_4_d2, x_79_2_4_d3, x_79_2_4_d4, x_33, x_36, x_83, cb_ri, cb_rl, cb_rv, cb_th, cb_ite, ps_s, ps_n, u_46_0, Int.reduceEq, Int.reduceLT, Int.reduceLE, reduceIte, Int.reduceAdd, Int.reduceSub, Int.reduceMul, Int.reduceNeg, Int.reduceToNat, Bool.false_eq_true, eq_self, if_pos, if_neg, e1, e3]
  refine ⟨_, rfl, ?_⟩
  have d1 := CP_s (CP_0 h3 k k') 140 (v := _) rfl rfl
  have d2 := CP_s d1 142 (d1.1 142 k 0 hk) rfl
  have d3 := CP_s d2 143 (d2.1 143 k 0 hk) rfl
  have d4 := CP_s d3 144 (d3.1 144 k 0 hk) rfl
  have d5 := CP_s d4 145 (d4.1 145 k 0 hk) rfl
  have d6 := CP_s d5 146 (d5.1 146 k 0 hk) rfl
  have d7 := CP_s d6 147 (d6.1 147 k 0 hk) rfl
  exact CP_tr (CP_tr (CP_tr c1 hk c2 rfl) hk c3 rfl) hk d7 rfl
