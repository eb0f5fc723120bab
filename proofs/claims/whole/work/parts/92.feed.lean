/-! THE TAPE IS FED AND CUT. -/
theorem iand_m (x : Int) {b : Nat} (hb : b < 2 ^ 31) : 0 ≤ iand x (b : Int) ∧ iand x (b : Int) ≤ (b : Int) := by
  have hl : (BitVec.ofInt 32 x).toNat &&& b ≤ b := Nat.and_le_right
  have e : iand x (b : Int) = (((BitVec.ofInt 32 x).toNat &&& b : Nat) : Int) := by
    unfold iand
    refine bvI (x := BitVec.ofInt 32 x &&& BitVec.ofInt 32 (b : Int)) (by omega) ?_
    rw [BitVec.ofInt_natCast, BitVec.toNat_and, BitVec.toNat_ofNat, Nat.mod_eq_of_lt (by omega)]
  rw [e]
  omega
def byV (v : Int) (s : Nat) : Int := iand (iushr v (24 - 8 * (s : Int))) 255
theorem byV_b (v : Int) (s : Nat) : 0 ≤ byV v s ∧ byV v s ≤ 255 := iand_m _ (b := 255) (by omega)
/-- n bytes more -/
def PU (a l : Nat) (b : Nat → Int) (e n : Nat) (h h' : Hp) : Prop := h' l 0 0 = ((e + n : Nat) : Int) ∧ (∀ j, j < n → h' a 0 (e + j) = b j) ∧ (∀ j, j < e ∨ e + n ≤ j → h' a 0 j = h a 0 j) ∧ ∀ tt k j, ¬ (k = 0 ∧ (tt = a ∨ tt = l)) → h' tt k j = h tt k j
theorem PU_0 {a l : Nat} (b : Nat → Int) {e : Nat} {h : Hp} (he : h l 0 0 = (e : Int)) : PU a l b e 0 h h := ⟨he, fun j hj => by omega, fun _ _ => rfl, fun _ _ _ _ => rfl⟩
theorem PU_s {a l : Nat} {b : Nat → Int} {e n : Nat} {h h' : Hp} {v : Int} {w : Int} (hal : a ≠ l) (P : PU a l b e n h h') (hv : v = b n) (hw : w = ((e + (n + 1) : Nat) : Int)) : PU a l b e (n + 1) h (hset (hset h' a 0 (e + n) v) l 0 0 w) := by
  obtain ⟨p1, p2, p3, p4⟩ := P
  refine ⟨by rw [hs_eq, hw], fun j hj => ?_, fun j hj => by rw [hs_t hal, hs_i (by omega)]; exact p3 j (by omega), fun tt k j hf => by rw [hs_o (by omega), hs_o (by omega)]; exact p4 tt k j hf⟩
  rw [hs_t hal]
  by_cases c : j = n
  · rw [c, hs_eq, hv]
  · rw [hs_i (by omega)]; exact p2 j (by omega)
theorem PU_t {a l : Nat} {b : Nat → Int} {e n m : Nat} {h h' h'' : Hp} (P : PU a l b e n h h') (Q : PU a l (fun i => b (n + i)) (e + n) m h' h'') : PU a l b e (n + m) h h'' := by
  obtain ⟨p1, p2, p3, p4⟩ := P
  obtain ⟨q1, q2, q3, q4⟩ := Q
  refine ⟨by rw [q1]; omega, fun j hj => ?_, fun j hj => by rw [q3 j (by omega)]; exact p3 j (by omega), fun tt k j hf => by rw [q4 tt k j hf]; exact p4 tt k j hf⟩
  by_cases c : j < n
  · rw [q3 _ (by omega)]; exact p2 j c
  · have := q2 (j - n) (by omega)
    simp only at this
    rw [show e + n + (j - n) = e + j by omega, show n + (j - n) = j by omega] at this
    exact this
theorem addNumber_c (lv e : Nat) (v : Int) (h : Hp) (he : h 149 0 0 = (e : Int)) (h4 : e + 4 ≤ 400) : ∃ h', cl (lv + 1) 57 [aA 8 0, aI v] h = rv h' ∧ PU 148 149 (byV v) e 4 h h' := by
  have st : ∀ (n : Nat) (q : Hp), n < 4 → PU 148 149 (byV v) e n h q → ∃ q', run lv 57 3 [aA 8 0, aI v, aI (24 - 8 * (n : Int))] [] q = run lv 57 3 [aA 8 0, aI v, aI (24 - 8 * ((n + 1 : Nat) : Int))] [] q' ∧ PU 148 149 (byV v) e (n + 1) h q' := by
    intro n q hn P
    refine ⟨_, ?_, PU_s (v := byV v n) (w := (e : Int) + (n : Int) + 1) (by omega) P rfl (by omega)⟩
    have p1 : q 149 0 0 = (e : Int) + (n : Int) := by rw [P.1]; omega
    have e1 : ((e : Int) + (n : Int)).toNat = e + n := by omega
    have e2 : 24 - 8 * (n : Int) + -8 = 24 - 8 * ((n + 1 : Nat) : Int) := by omega
    have e3 : iand (iushr v (24 - 8 * (n : Int))) 255 = byV v n := rfl
    rw [hd_57_3]
    simp (disch := omega) only [x_1, x_7_2_I, x_7_2_A, x_7_2_U, x_61, x_4_2, x_70, x_6_0, x_33, x_65, x_34, x_4_1, x_22, x_17, x_39_148, x_47_I, x_47_A, x_11, x_36, x_10_2_I, x_10_2_A, x_10_2_U, x_60, x_83, u_57_0, u_57_43, u_57_49, p1, e1, e2, e3, hs_t, Int.reduceEq, Int.reduceLT, Int.reduceLE, reduceIte, Int.reduceAdd, Int.reduceSub, Int.reduceMul, Int.reduceNeg, Int.reduceToNat, Bool.false_eq_true, eq_self, if_pos, if_neg, w32_id]
  obtain ⟨q1, a1, P1⟩ := st 0 h (by omega) (PU_0 _ he)
  obtain ⟨q2, a2, P2⟩ := st 1 q1 (by omega) P1
  obtain ⟨q3, a3, P3⟩ := st 2 q2 (by omega) P2
  obtain ⟨q4, a4, P4⟩ := st 3 q3 (by omega) P3
  refine ⟨q4, ?_, P4⟩
  rw [in_57]
  simp (disch := omega) only [x_1, x_7_2_I, x_7_2_A, x_7_2_U, x_61, x_4_2, x_70, x_6_0, x_33, x_65, x_34, x_4_1, x_22, x_17, x_39_148, x_47_I, x_47_A, x_11, x_36, x_10_2_I, x_10_2_A, x_10_2_U, x_60, x_83, u_57_0, u_57_43, u_57_49, Int.reduceEq, Int.reduceLT, Int.reduceLE, reduceIte, Int.reduceAdd, Int.reduceSub, Int.reduceMul, Int.reduceNeg, Int.reduceToNat, Bool.false_eq_true, eq_self, if_pos, if_neg]
  have a1 : run lv 57 3 [aA 8 0, aI v, aI 24] [] h = _ := a1
  rw [a1, a2, a3, a4, hd_57_3]
  simp (disch := omega) only [x_1, x_7_2_I, x_7_2_A, x_7_2_U, x_61, x_4_2, x_70, x_6_0, x_33, x_65, x_34, x_4_1, x_22, x_17, x_39_148, x_47_I, x_47_A, x_11, x_36, x_10_2_I, x_10_2_A, x_10_2_U, x_60, x_83, u_57_0, u_57_43, u_57_49, Int.reduceEq, Int.reduceLT, Int.reduceLE, reduceIte, Int.reduceAdd, Int.reduceSub, Int.reduceMul, Int.reduceNeg, Int.reduceToNat, Bool.false_eq_true, eq_self, if_pos, if_neg]
def xsV (x1 x2 x3 x4 x5 : Int) (i : Nat) : Int := if i < 4 then x1 else if i < 8 then x2 else if i < 12 then x3 else if i < 16 then x4 else x5
def bsV (x1 x2 x3 x4 x5 : Int) (i : Nat) : Int := byV (xsV x1 x2 x3 x4 x5 i) (i % 4)
theorem irem_4 : ∀ n : Nat, n < 20 → irem (n : Int) 4 = ((n % 4 : Nat) : Int) := by decide +kernel
theorem PU_c {a l e n : Nat} {b b' : Nat → Int} {h h' : Hp} (e1 : ∀ j, j < n → b' j = b j) (P : PU a l b e n h h') : PU a l b' e n h h' := ⟨P.1, fun j hj => by rw [e1 j hj]; exact P.2.1 j hj, P.2.2⟩
theorem PU_tape {h h1 h2 : Hp} {H N e n : Nat} {b : Nat → Int} (hb : ∀ j, 0 ≤ b j ∧ b j ≤ 255) (hn : e + n ≤ 400) (I : INV h H N) (he : h 149 0 0 = (e : Int)) (P : PU 148 149 b e n h h1) (Q : PU 193 194 b e n (hset h1 186 0 0 0) h2) : INV h2 H N ∧ (∀ j, h2 22 0 j = h 22 0 j) ∧ h2 27 0 0 = h 27 0 0 := by
  obtain ⟨⟨r1, r2, r3⟩, ⟨en, t1, t2, t3, t4⟩, ⟨i1, i2⟩, ⟨S, nw, p1, p2, p3, p4, p5, p6⟩, f, ad⟩ := I
  have ee : en = e := by omega
  subst ee
  obtain ⟨a1, a2, a3, a4⟩ := P
  obtain ⟨b1, b2, b3, b4⟩ := Q
  have tot : ∀ tt k j, ¬ (k = 0 ∧ (tt = 148 ∨ tt = 149 ∨ tt = 186 ∨ tt = 193 ∨ tt = 194)) → h2 tt k j = h tt k j := fun tt k j hf => by
    rw [b4 tt k j (by omega), hs_o (by omega), a4 tt k j (by omega)]
  have m7 : h2 187 0 = h 187 0 := funext (fun j => tot _ _ _ (by omega))
  have m8 : h2 188 0 = h 188 0 := funext (fun j => tot _ _ _ (by omega))
  have am : ∀ a, actM h2 a = actM h a := fun a => funext (fun j => by unfold actM; rw [m7, tot 191 0 _ (by omega)])
  have st : ∀ k t i, stTag t → h2 t k i = h t k i := fun k t i ht => tot _ _ _ (by unfold stTag at ht; omega)
  have lw : ∀ k tt j, (104 ≤ tt ∧ tt ≤ 106) ∨ tt = 109 ∨ tt = 110 ∨ tt = 113 → h2 tt k j = h tt k j := fun k tt j ht => tot _ _ _ (by omega)
  refine ⟨⟨⟨by rw [m7]; exact RS_e (st 0) r1, by rw [m7]; exact r2, by rw [m7]; exact LawR_e (lw 0) (fun _ _ => rfl) r3⟩, ⟨en + n, hn, ?_, b1, fun j hj => ?_⟩, ⟨by rw [tot 185 _ _ (by omega), tot 189 _ _ (by omega)]; exact i1, ?_⟩, ⟨S, nw, by rw [tot _ _ _ (by omega)]; exact p1, by rw [tot _ _ _ (by omega)]; exact p2, p3, by rw [tot _ _ _ (by omega)]; exact p4, p5, fun a ha => ?_⟩, by rw [tot 184 _ _ (by omega), tot 198 _ _ (by omega)]; exact f, by rw [tot _ _ _ (by omega)]; exact ad⟩, fun j => tot _ _ _ (by omega), tot _ _ _ (by omega)⟩
  · rw [b4 _ _ _ (by omega), hs_t (by omega)]; exact a1
  · have c8 : h2 148 0 j = h1 148 0 j := by rw [b4 _ _ _ (by omega), hs_t (by omega)]
    rw [c8]
    by_cases c : en ≤ j ∧ j < en + n
    · have x1 := a2 (j - en) (by omega)
      have x2 := b2 (j - en) (by omega)
      rw [show en + (j - en) = j by omega] at x1 x2
      rw [x1, x2]
      exact ⟨rfl, hb _⟩
    · rw [a3 j (by omega), b3 j (by omega), hs_t (by omega), a4 _ _ _ (by omega)]
      exact t4 j hj
  · rw [tot 185 _ _ (by omega), m8]
    rcases i2 with z | ⟨z1, H', N', z2, z3, z4⟩
    · exact Or.inl z
    · exact Or.inr ⟨z1, H', N', RS_e (st 2) z2, z3, LawR_e (lw 1) (fun _ _ => rfl) z4⟩
  · obtain ⟨H', N', q1, q2, q3⟩ := p6 a ha
    rw [am, m7]
    exact ⟨H', N', RS_e (st _) q1, q2, q3⟩
theorem ag_feed (lc lr H N : Nat) (x1 x2 x3 x4 x5 : Int) (h : Hp) (I : INV h H N) : AGp (fun h => cl (lc + 80) 84 [aA 11 0, aI x1, aI x2, aI x3, aI x4, aI x5] h) (fun h => cl (lr + 80) 183 [aA 12 0, aI x1, aI x2, aI x3, aI x4, aI x5] h) h := by
  obtain ⟨e, t1, t2, t3, t4⟩ := I.2.1
  by_cases c : e + 20 ≤ 400
  · obtain ⟨q1, a1, P1⟩ := addNumber_c (lc + 78) e x1 h t2 (by omega)
    obtain ⟨q2, a2, P2⟩ := addNumber_c (lc + 78) (e + 4) x2 q1 P1.1 (by omega)
    obtain ⟨q3, a3, P3⟩ := addNumber_c (lc + 78) (e + 8) x3 q2 P2.1 (by omega)
    obtain ⟨q4, a4, P4⟩ := addNumber_c (lc + 78) (e + 12) x4 q3 P3.1 (by omega)
    obtain ⟨q5, a5, P5⟩ := addNumber_c (lc + 78) (e + 16) x5 q4 P4.1 (by omega)
    have Q1 : PU 148 149 (bsV x1 x2 x3 x4 x5) e 4 h q1 := PU_c (fun j hj => by unfold bsV xsV; rw [if_pos (by omega), show j % 4 = j by omega]) P1
    have Q2 := PU_t (m := 4) Q1 (PU_c (fun j hj => by unfold bsV xsV; rw [if_neg (by omega), if_pos (by omega), show (4 + j) % 4 = j by omega]) P2)
    have Q3 := PU_t (n := 8) (m := 4) Q2 (PU_c (fun j hj => by unfold bsV xsV; rw [if_neg (by omega), if_neg (by omega), if_pos (by omega), show (8 + j) % 4 = j by omega]) P3)
    have Q4 := PU_t (n := 12) (m := 4) Q3 (PU_c (fun j hj => by unfold bsV xsV; rw [if_neg (by omega), if_neg (by omega), if_neg (by omega), if_pos (by omega), show (12 + j) % 4 = j by omega]) P4)
    have Q5 : PU 148 149 (bsV x1 x2 x3 x4 x5) e 20 h q5 := PU_t (n := 16) (m := 4) Q4 (PU_c (fun j hj => by unfold bsV xsV; rw [if_neg (by omega), if_neg (by omega), if_neg (by omega), if_neg (by omega), show (16 + j) % 4 = j by omega]) P5)
    have g4 : hset q5 186 0 0 0 194 0 0 = (e : Int) := by rw [hs_t (by omega), Q5.2.2.2 _ _ _ (by omega)]; exact t3
    have main := loop_p (S := AV × Hp) (F := fun i (q : AV × Hp) => run (lr + 79) 183 23 [aA 12 0, aI x1, aI x2, aI x3, aI x4, aI x5, aI (i : Int), q.1] [] q.2)
      (I := fun i q => PU 193 194 (bsV x1 x2 x3 x4 x5) e i (hset q5 186 0 0 0) q.2)
      (Q := fun r => ∃ q : Hp, r = ri ((e + 20 : Nat) : Int) q ∧ PU 193 194 (bsV x1 x2 x3 x4 x5) e 20 (hset q5 186 0 0 0) q) (N := 20) ?_ ?_ (none, hset q5 186 0 0 0) (PU_0 _ g4)
    · obtain ⟨h2, f1, f2⟩ := main
      obtain ⟨j1, j2, j3⟩ := PU_tape (fun j => byV_b _ _) c I t2 Q5 f2
      refine ⟨((e + 20 : Nat) : Int), q5, h2, ?_, ?_, ⟨H, N, j1⟩, j2, j3⟩
      · have z := Q5.1
        show cl (lc + 80) _ _ _ = _
        rw [in_84]
        simp (disch := omega) only [x_6_0, x_35_0, x_33, x_1, x_11, x_67, x_82, x_4_1, x_79_2_8_d0, x_79_2_8_d1, x_79_2_8_d2, x_79_2_8_d3, x_79_2_8_d4, x_4_2, x_4_3, x_4_4, x_4_5, cb_ri, cb_rl, cb_rv, cb_th, cb_ite, ps_s, ps_n, u_84_0, u_84_18, t2, a1, a2, a3, a4, a5, z, Int.reduceEq, Int.reduceLT, Int.reduceLE, reduceIte, Int.reduceAdd, Int.reduceSub, Int.reduceMul, Int.reduceNeg, Int.reduceToNat, Bool.false_eq_true, eq_self, if_pos, if_neg, w32_id]
      · show cl (lr + 80) _ _ _ = _
        rw [← f1, in_183]
        simp (disch := omega) only [x_6_0, x_1, x_36, x_33, x_11, x_67, x_82, x_7_6_I, x_7_6_A, x_7_6_U, x_61, x_4_6, x_65, x_4_1, x_60, x_4_2, x_4_3, x_4_4, x_4_5, x_7_7_I, x_7_7_A, x_7_7_U, x_34, x_4_7, x_15, x_13, x_12, x_22, x_17, x_39_193, x_47_I, x_47_A, x_10_6_I, x_10_6_A, x_10_6_U, u_183_0, u_183_20, u_183_40, u_183_51, u_183_62, u_183_74, u_183_76, u_183_120, g4, Int.reduceEq, Int.reduceLT, Int.reduceLE, reduceIte, Int.reduceAdd, Int.reduceSub, Int.reduceMul, Int.reduceNeg, Int.reduceToNat, Bool.false_eq_true, eq_self, if_pos, if_neg, w32_id]
        rfl
    · rintro i ⟨v7, q⟩ hi P
      simp only at P ⊢
      have p1 : q 194 0 0 = (e : Int) + (i : Int) := by rw [P.1]; omega
      have e1 : ((e : Int) + (i : Int)).toNat = e + i := by omega
      have e2 := irem_4 i hi
      have e3 : ∀ x, iand (iushr x (24 - 8 * ((i % 4 : Nat) : Int))) 255 = byV x (i % 4) := fun x => rfl
      refine ⟨(aI (xsV x1 x2 x3 x4 x5 i), hset (hset q 193 0 (e + i) (bsV x1 x2 x3 x4 x5 i)) 194 0 0 ((e : Int) + (i : Int) + 1)), ?_, PU_s (by omega) P rfl (by omega)⟩
      unfold bsV xsV
      try simp only
      rw [hd_183_23]
      by_cases d1 : i < 4
      · simp (disch := omega) only [x_6_0, x_1, x_36, x_33, x_11, x_67, x_82, x_7_6_I, x_7_6_A, x_7_6_U, x_61, x_4_6, x_65, x_4_1, x_60, x_4_2, x_4_3, x_4_4, x_4_5, x_7_7_I, x_7_7_A, x_7_7_U, x_34, x_4_7, x_15, x_13, x_12, x_22, x_17, x_39_193, x_47_I, x_47_A, x_10_6_I, x_10_6_A, x_10_6_U, u_183_0, u_183_20, u_183_40, u_183_51, u_183_62, u_183_74, u_183_76, u_183_120, p1, e1, e2, e3, d1, hs_t, Int.reduceEq, Int.reduceLT, Int.reduceLE, reduceIte, Int.reduceAdd, Int.reduceSub, Int.reduceMul, Int.reduceNeg, Int.reduceToNat, Bool.false_eq_true, eq_self, if_pos, if_neg, ci, w32_id]
      by_cases d2 : i < 8
      · simp (disch := omega) only [x_6_0, x_1, x_36, x_33, x_11, x_67, x_82, x_7_6_I, x_7_6_A, x_7_6_U, x_61, x_4_6, x_65, x_4_1, x_60, x_4_2, x_4_3, x_4_4, x_4_5, x_7_7_I, x_7_7_A, x_7_7_U, x_34, x_4_7, x_15, x_13, x_12, x_22, x_17, x_39_193, x_47_I, x_47_A, x_10_6_I, x_10_6_A, x_10_6_U, u_183_0, u_183_20, u_183_40, u_183_51, u_183_62, u_183_74, u_183_76, u_183_120, p1, e1, e2, e3, d1, d2, hs_t, Int.reduceEq, Int.reduceLT, Int.reduceLE, reduceIte, Int.reduceAdd, Int.reduceSub, Int.reduceMul, Int.reduceNeg, Int.reduceToNat, Bool.false_eq_true, eq_self, if_pos, if_neg, ci, w32_id]
      by_cases d3 : i < 12
      · simp (disch := omega) only [x_6_0, x_1, x_36, x_33, x_11, x_67, x_82, x_7_6_I, x_7_6_A, x_7_6_U, x_61, x_4_6, x_65, x_4_1, x_60, x_4_2, x_4_3, x_4_4, x_4_5, x_7_7_I, x_7_7_A, x_7_7_U, x_34, x_4_7, x_15, x_13, x_12, x_22, x_17, x_39_193, x_47_I, x_47_A, x_10_6_I, x_10_6_A, x_10_6_U, u_183_0, u_183_20, u_183_40, u_183_51, u_183_62, u_183_74, u_183_76, u_183_120, p1, e1, e2, e3, d1, d2, d3, hs_t, Int.reduceEq, Int.reduceLT, Int.reduceLE, reduceIte, Int.reduceAdd, Int.reduceSub, Int.reduceMul, Int.reduceNeg, Int.reduceToNat, Bool.false_eq_true, eq_self, if_pos, if_neg, ci, w32_id]
      by_cases d4 : i < 16
      · simp (disch := omega) only [x_6_0, x_1, x_36, x_33, x_11, x_67, x_82, x_7_6_I, x_7_6_A, x_7_6_U, x_61, x_4_6, x_65, x_4_1, x_60, x_4_2, x_4_3, x_4_4, x_4_5, x_7_7_I, x_7_7_A, x_7_7_U, x_34, x_4_7, x_15, x_13, x_12, x_22, x_17, x_39_193, x_47_I, x_47_A, x_10_6_I, x_10_6_A, x_10_6_U, u_183_0, u_183_20, u_183_40, u_183_51, u_183_62, u_183_74, u_183_76, u_183_120, p1, e1, e2, e3, d1, d2, d3, d4, hs_t, Int.reduceEq, Int.reduceLT, Int.reduceLE, reduceIte, Int.reduceAdd, Int.reduceSub, Int.reduceMul, Int.reduceNeg, Int.reduceToNat, Bool.false_eq_true, eq_self, if_pos, if_neg, ci, w32_id]
      · simp (disch := omega) only [x_6_0, x_1, x_36, x_33, x_11, x_67, x_82, x_7_6_I, x_7_6_A, x_7_6_U, x_61, x_4_6, x_65, x_4_1, x_60, x_4_2, x_4_3, x_4_4, x_4_5, x_7_7_I, x_7_7_A, x_7_7_U, x_34, x_4_7, x_15, x_13, x_12, x_22, x_17, x_39_193, x_47_I, x_47_A, x_10_6_I, x_10_6_A, x_10_6_U, u_183_0, u_183_20, u_183_40, u_183_51, u_183_62, u_183_74, u_183_76, u_183_120, p1, e1, e2, e3, d1, d2, d3, d4, hs_t, Int.reduceEq, Int.reduceLT, Int.reduceLE, reduceIte, Int.reduceAdd, Int.reduceSub, Int.reduceMul, Int.reduceNeg, Int.reduceToNat, Bool.false_eq_true, eq_self, if_pos, if_neg, ci, w32_id]
    · rintro ⟨v7, q⟩ P
      simp only at P ⊢
      have p1 := P.1
      refine ⟨q, ?_, P⟩
      rw [hd_183_23]
      simp (disch := omega) only [x_6_0, x_1, x_36, x_33, x_11, x_67, x_82, x_7_6_I, x_7_6_A, x_7_6_U, x_61, x_4_6, x_65, x_4_1, x_60, x_4_2, x_4_3, x_4_4, x_4_5, x_7_7_I, x_7_7_A, x_7_7_U, x_34, x_4_7, x_15, x_13, x_12, x_22, x_17, x_39_193, x_47_I, x_47_A, x_10_6_I, x_10_6_A, x_10_6_U, u_183_0, u_183_20, u_183_40, u_183_51, u_183_62, u_183_74, u_183_76, u_183_120, p1, Int.reduceEq, Int.reduceLT, Int.reduceLE, reduceIte, Int.reduceAdd, Int.reduceSub, Int.reduceMul, Int.reduceNeg, Int.reduceToNat, Bool.false_eq_true, eq_self, if_pos, if_neg]
  · refine AGp_q I (v := -1) ⟨h, ?_, Sm_r _ _⟩ (fun g s J => ⟨hset g 186 0 0 0, ?_, rsc_186 g 0⟩)
    · show cl (lc + 80) _ _ _ = _
      rw [in_84]
      simp (disch := omega) only [x_6_0, x_35_0, x_33, x_1, x_11, x_67, x_82, x_4_1, x_79_2_8_d0, x_79_2_8_d1, x_79_2_8_d2, x_79_2_8_d3, x_79_2_8_d4, x_4_2, x_4_3, x_4_4, x_4_5, cb_ri, cb_rl, cb_rv, cb_th, cb_ite, ps_s, ps_n, u_84_0, u_84_18, t2, Int.reduceEq, Int.reduceLT, Int.reduceLE, reduceIte, Int.reduceAdd, Int.reduceSub, Int.reduceMul, Int.reduceNeg, Int.reduceToNat, Bool.false_eq_true, eq_self, if_pos, if_neg, w32_id]
    · have a : hset g 186 0 0 0 194 0 0 = (e : Int) := by rw [hs_t (by omega), s _ _ _ (by unfold scr csc rsc stTag; omega)]; exact t3
      show cl (lr + 80) _ _ _ = _
      rw [in_183]
      simp (disch := omega) only [x_6_0, x_1, x_36, x_33, x_11, x_67, x_82, x_7_6_I, x_7_6_A, x_7_6_U, x_61, x_4_6, x_65, x_4_1, x_60, x_4_2, x_4_3, x_4_4, x_4_5, x_7_7_I, x_7_7_A, x_7_7_U, x_34, x_4_7, x_15, x_13, x_12, x_22, x_17, x_39_193, x_47_I, x_47_A, x_10_6_I, x_10_6_A, x_10_6_U, u_183_0, u_183_20, u_183_40, u_183_51, u_183_62, u_183_74, u_183_76, u_183_120, a, Int.reduceEq, Int.reduceLT, Int.reduceLE, reduceIte, Int.reduceAdd, Int.reduceSub, Int.reduceMul, Int.reduceNeg, Int.reduceToNat, Bool.false_eq_true, eq_self, if_pos, if_neg, w32_id]
theorem ag_end (lc lr H N : Nat) (x : Int) (h : Hp) (I : INV h H N) : AGp (fun h => cl (lc + 80) 85 [aA 11 0, aI x] h) (fun h => cl (lr + 80) 184 [aA 12 0, aI x] h) h := by
  obtain ⟨e, t1, t2, t3, t4⟩ := I.2.1
  by_cases c : 0 ≤ x ∧ x ≤ e
  · obtain ⟨n, rfl⟩ := Int.eq_ofNat_of_zero_le c.1
    have P : PU 148 149 (fun _ => 0) n 0 (hset h 149 0 0 (n : Int)) (hset h 149 0 0 (n : Int)) := PU_0 _ (hs_eq _ _ _ _ _)
    have ii := isIn_c (lr + 78) (n : Int) 0 (e : Int) (hset (hset h 149 0 0 (n : Int)) 186 0 0 0)
    rw [if_pos c] at ii
    have a : hset (hset h 149 0 0 (n : Int)) 186 0 0 0 194 0 0 = (e : Int) := by rw [hs_t (by omega), hs_t (by omega)]; exact t3
    let h2 : Hp := hset (hset (hset h 149 0 0 (n : Int)) 186 0 0 0) 194 0 0 (n : Int)
    obtain ⟨⟨r1, r2, r3⟩, tp, ⟨i1, i2⟩, ⟨S, nw, p1, p2, p3, p4, p5, p6⟩, f, ad⟩ := I
    have tot : ∀ tt k j, ¬ (k = 0 ∧ (tt = 149 ∨ tt = 186 ∨ tt = 194)) → h2 tt k j = h tt k j := fun tt k j hf => by
      show hset (hset (hset h 149 0 0 (n : Int)) 186 0 0 0) 194 0 0 (n : Int) tt k j = _
      rw [hs_o (by omega), hs_o (by omega), hs_o (by omega)]
    have m7 : h2 187 0 = h 187 0 := funext (fun j => tot _ _ _ (by omega))
    have m8 : h2 188 0 = h 188 0 := funext (fun j => tot _ _ _ (by omega))
    have am : ∀ a, actM h2 a = actM h a := fun a => funext (fun j => by unfold actM; rw [m7, tot 191 0 _ (by omega)])
    have st : ∀ k t i, stTag t → h2 t k i = h t k i := fun k t i ht => tot _ _ _ (by unfold stTag at ht; omega)
    have lw : ∀ k tt j, (104 ≤ tt ∧ tt ≤ 106) ∨ tt = 109 ∨ tt = 110 ∨ tt = 113 → h2 tt k j = h tt k j := fun k tt j ht => tot _ _ _ (by omega)
    refine ⟨1, hset h 149 0 0 (n : Int), h2, ?_, ?_, ⟨H, N, ⟨by rw [m7]; exact RS_e (st 0) r1, by rw [m7]; exact r2, by rw [m7]; exact LawR_e (lw 0) (fun _ _ => rfl) r3⟩, ⟨n, by omega, ?_, hs_eq _ _ _ _ _, fun j hj => ?_⟩, ⟨by rw [tot 185 _ _ (by omega), tot 189 _ _ (by omega)]; exact i1, ?_⟩, ⟨S, nw, by rw [tot _ _ _ (by omega)]; exact p1, by rw [tot _ _ _ (by omega)]; exact p2, p3, by rw [tot _ _ _ (by omega)]; exact p4, p5, fun a ha => ?_⟩, by rw [tot 184 _ _ (by omega), tot 198 _ _ (by omega)]; exact f, by rw [tot _ _ _ (by omega)]; exact ad⟩, fun j => tot _ _ _ (by omega), tot _ _ _ (by omega)⟩
    · show cl (lc + 80) _ _ _ = _
      rw [in_85]
      simp (disch := omega) only [x_4_1, x_70, x_6_0, x_35_0, x_33, x_67, x_61, x_1, x_85, x_36, u_85_0, u_85_15, u_85_17, t2, Int.reduceEq, Int.reduceLT, Int.reduceLE, reduceIte, Int.reduceAdd, Int.reduceSub, Int.reduceMul, Int.reduceNeg, Int.reduceToNat, Bool.false_eq_true, eq_self, if_pos, if_neg]
    · show cl (lr + 80) _ _ _ = _
      rw [in_184]
      simp (disch := omega) only [x_6_0, x_1, x_36, x_4_1, x_33, x_80_3_d0, x_80_3_d1, x_80_3_d2, x_80_3_d3, x_80_3_d4, x_69, x_85, cb_ri, cb_rl, cb_rv, cb_th, cb_ite, ps_s, ps_n, u_184_0, u_184_19, a, ii, Int.reduceEq, Int.reduceLT, Int.reduceLE, reduceIte, Int.reduceAdd, Int.reduceSub, Int.reduceMul, Int.reduceNeg, Int.reduceToNat, Bool.false_eq_true, eq_self, if_pos, if_neg]
      rfl
    · show hset (hset (hset h 149 0 0 (n : Int)) 186 0 0 0) 194 0 0 (n : Int) 149 0 0 = _
      rw [hs_t (by omega), hs_t (by omega), hs_eq]
    · rw [tot 193 _ _ (by omega), tot 148 _ _ (by omega)]; exact t4 j hj
    · rw [tot 185 _ _ (by omega), m8]
      rcases i2 with z | ⟨z1, H', N', z2, z3, z4⟩
      · exact Or.inl z
      · exact Or.inr ⟨z1, H', N', RS_e (st 2) z2, z3, LawR_e (lw 1) (fun _ _ => rfl) z4⟩
    · obtain ⟨H', N', q1, q2, q3⟩ := p6 a ha
      rw [am, m7]
      exact ⟨H', N', RS_e (st _) q1, q2, q3⟩
  · refine AGp_q I (v := 0) ⟨h, ?_, Sm_r _ _⟩ (fun g s J => ⟨hset g 186 0 0 0, ?_, rsc_186 g 0⟩)
    · show cl (lc + 80) _ _ _ = _
      rw [in_85]
      by_cases d : x < 0
      · simp (disch := omega) only [x_4_1, x_70, x_6_0, x_35_0, x_33, x_67, x_61, x_1, x_85, x_36, u_85_0, u_85_15, u_85_17, t2, Int.reduceEq, Int.reduceLT, Int.reduceLE, reduceIte, Int.reduceAdd, Int.reduceSub, Int.reduceMul, Int.reduceNeg, Int.reduceToNat, Bool.false_eq_true, eq_self, if_pos, if_neg]
      · simp (disch := omega) only [x_4_1, x_70, x_6_0, x_35_0, x_33, x_67, x_61, x_1, x_85, x_36, u_85_0, u_85_15, u_85_17, t2, Int.reduceEq, Int.reduceLT, Int.reduceLE, reduceIte, Int.reduceAdd, Int.reduceSub, Int.reduceMul, Int.reduceNeg, Int.reduceToNat, Bool.false_eq_true, eq_self, if_pos, if_neg]
    · have a : hset g 186 0 0 0 194 0 0 = (e : Int) := by rw [hs_t (by omega), s _ _ _ (by unfold scr csc rsc stTag; omega)]; exact t3
      have ii := isIn_c (lr + 78) x 0 (e : Int) (hset g 186 0 0 0)
      rw [if_neg c] at ii
      show cl (lr + 80) _ _ _ = _
      rw [in_184]
      simp (disch := omega) only [x_6_0, x_1, x_36, x_4_1, x_33, x_80_3_d0, x_80_3_d1, x_80_3_d2, x_80_3_d3, x_80_3_d4, x_69, x_85, cb_ri, cb_rl, cb_rv, cb_th, cb_ite, ps_s, ps_n, u_184_0, u_184_19, a, ii, Int.reduceEq, Int.reduceLT, Int.reduceLE, reduceIte, Int.reduceAdd, Int.reduceSub, Int.reduceMul, Int.reduceNeg, Int.reduceToNat, Bool.false_eq_true, eq_self, if_pos, if_neg]
