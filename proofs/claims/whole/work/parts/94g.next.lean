/-! WHAT COMES NEXT. -/
theorem INV_z {h : Hp} {H N : Nat} (I : INV h H N) : INV (hset (hset h 149 0 0 0) 194 0 0 0) H N := by
  obtain ⟨⟨r1, r2, r3⟩, ⟨en, t1, t2, t3, t4⟩, ⟨i1, i2⟩, ⟨S, nw, p1, p2, p3, p4, p5, p6⟩, f, ad⟩ := I
  have e : ∀ tt k j, ¬ (k = 0 ∧ (tt = 149 ∨ tt = 194)) → hset (hset h 149 0 0 0) 194 0 0 0 tt k j = h tt k j := fun tt k j hf => by
    rw [hs_o (by omega), hs_o (by omega)]
  have z1 : hset (hset h 149 0 0 0) 194 0 0 0 149 0 0 = 0 := by rw [hs_t (by omega), hs_eq]
  have z2 : hset (hset h 149 0 0 0) 194 0 0 0 194 0 0 = 0 := hs_eq _ _ _ _ _
  generalize hset (hset h 149 0 0 0) 194 0 0 0 = h' at *
  have st : ∀ k t i, stTag t → h' t k i = h t k i := fun k t i ht => e t k i (by unfold stTag at ht; omega)
  have hi : ∀ tt k j, tt ≠ 149 → tt ≠ 194 → h' tt k j = h tt k j := fun tt k j h1 h2 => e tt k j (by omega)
  have m7 : h' 187 0 = h 187 0 := funext (fun j => hi _ _ _ (by omega) (by omega))
  have m8 : h' 188 0 = h 188 0 := funext (fun j => hi _ _ _ (by omega) (by omega))
  have am : ∀ a, actM h' a = actM h a := fun a => funext (fun j => by unfold actM; rw [m7, hi 191 0 _ (by omega) (by omega)])
  refine ⟨⟨by rw [m7]; exact RS_e (st 0) r1, by rw [m7]; exact r2, by rw [m7]; exact LawR_e (fun tt j ht => hi tt 0 j (by omega) (by omega)) (fun _ _ => rfl) r3⟩, ⟨0, by omega, z1, z2, fun j hj => by rw [hi 193 _ _ (by omega) (by omega), hi 148 _ _ (by omega) (by omega)]; exact t4 j hj⟩, ⟨by rw [hi 185 _ _ (by omega) (by omega), hi 189 _ _ (by omega) (by omega)]; exact i1, ?_⟩, ⟨S, nw, by rw [hi _ _ _ (by omega) (by omega)]; exact p1, by rw [hi _ _ _ (by omega) (by omega)]; exact p2, p3, by rw [hi _ _ _ (by omega) (by omega)]; exact p4, p5, fun a ha => ?_⟩, by rw [hi 184 _ _ (by omega) (by omega), hi 198 _ _ (by omega) (by omega)]; exact f, by rw [hi _ _ _ (by omega) (by omega)]; exact ad⟩
  · rw [hi 185 _ _ (by omega) (by omega), m8]
    rcases i2 with z | ⟨z1, H', N', z2, z3, z4⟩
    · exact Or.inl z
    · exact Or.inr ⟨z1, H', N', RS_e (st 2) z2, z3, LawR_e (fun tt j ht => hi tt 1 j (by omega) (by omega)) (fun _ _ => rfl) z4⟩
  · obtain ⟨H', N', q1, q2, q3⟩ := p6 a ha
    rw [am, m7]
    exact ⟨H', N', RS_e (st _) q1, q2, q3⟩
theorem Sm_z {h g h2 : Hp} (s : Sm scr (hset h 149 0 0 0) g) (s2 : Sm rsc (hset g 194 0 0 0) h2) : Sm scr (hset (hset h 149 0 0 0) 194 0 0 0) h2 := fun tt k j hf => by
  rw [s2 tt k j (fun z => hf (scr_m z))]
  by_cases c : tt = 194 ∧ k = 0 ∧ j = 0
  · obtain ⟨rfl, rfl, rfl⟩ := c
    rw [hs_eq, hs_eq]
  · rw [hs_o c, hs_o c]; exact s tt k j hf
/-- a question that uses up the tape -/
theorem AGt_u {T : Nat → Nat} {C R : Hp → Option Rs} {h : Hp} {H N : Nat} (I : INV h H N) {v : Int} (c : ∃ h1, C h = ri v h1 ∧ Sm csc (hset h 149 0 0 0) h1) (r : ∀ g, Sm scr (hset h 149 0 0 0) g → ∃ h2, R g = ri v h2 ∧ h2 186 0 0 = 0 ∧ Sm rsc (hset g 194 0 0 0) h2) : AGt T C R h := by
  obtain ⟨h1, c1, c2⟩ := c
  have s1 : Sm scr (hset h 149 0 0 0) (hset h1 25 0 0 v) := Sm_t (Sm_w (fun _ _ => scr_c) c2) (scr_25 v)
  obtain ⟨h2, r1, r3, r2⟩ := r _ s1
  have s2 := Sm_z s1 r2
  have o : ∀ tt j, tt = 22 ∨ tt = 27 → h2 tt 0 j = h tt 0 j := fun tt j ht => by
    rw [s2 tt 0 j (by unfold scr csc rsc stTag; omega), hs_o (by omega), hs_o (by omega)]
  exact Or.inl ⟨v, h1, c1, h2, r1, r3, by rw [r2 _ _ _ (by unfold rsc; omega), hs_t (by omega), hs_eq], ⟨H, N, INV_scr s2 (INV_z I)⟩, fun j => o 22 j (by omega), o 27 0 (by omega)⟩
theorem AGt_ue {T : Nat → Nat} {C R : Hp → Option Rs} {h : Hp} {H N : Nat} (I : INV h H N) (e : Nat) (hT : 0 < T e) (c : ∃ h1, C h = th e h1 ∧ Sm csc (hset h 149 0 0 0) h1) (r : ∀ g, Sm scr (hset h 149 0 0 0) g → ∃ b h2, R g = ri b h2 ∧ h2 186 0 0 = (T e : Int) ∧ Sm rsc (hset g 194 0 0 0) h2) : AGt T C R h := by
  obtain ⟨h1, c1, c2⟩ := c
  have s1 : Sm scr (hset h 149 0 0 0) h1 := Sm_w (fun _ _ => scr_c) c2
  obtain ⟨b, h2, r1, r3, r2⟩ := r _ s1
  have s2 := Sm_z s1 r2
  have o : ∀ tt j, tt = 22 ∨ tt = 27 → h2 tt 0 j = h tt 0 j := fun tt j ht => by
    rw [s2 tt 0 j (by unfold scr csc rsc stTag; omega), hs_o (by omega), hs_o (by omega)]
  exact Or.inr ⟨e, h1, c1, hT, b, h2, r1, r3, ⟨H, N, INV_scr s2 (INV_z I)⟩, fun j => o 22 j (by omega), o 27 0 (by omega)⟩
def kyP (t : Nat → Int) (i : Nat) : Bool := decide (64 ≤ t i)
theorem isKeyRow_c (lv e : Nat) (h : Hp) (he : e ≤ 400) : cl (lv + 1) 59 [aA 8 0, aI (e : Int)] h = ri (if e ≤ 20 ∧ ¬ anyB (kyP (h 148 0)) e = true then 1 else 0) h := by
  rw [in_59]
  by_cases c : e ≤ 20
  · simp (disch := omega) only [x_4_1, x_1, x_67, x_85, x_7_2_I, x_7_2_A, x_7_2_U, x_61, x_4_2, x_65, x_6_0, x_34, x_38_148, x_64, x_10_2_I, x_10_2_A, x_10_2_U, x_60, u_59_0, u_59_8, u_59_28, u_59_34, Int.reduceEq, Int.reduceLT, Int.reduceLE, reduceIte, Int.reduceAdd, Int.reduceSub, Int.reduceMul, Int.reduceNeg, Int.reduceToNat, Bool.false_eq_true, eq_self, if_pos, if_neg]
    have main := loop_any (F := fun i => run lv 59 10 [aA 8 0, aI (e : Int), aI (i : Int)] [] h) (N := e) (P := kyP (h 148 0)) (r1 := ri 0 h) (r0 := ri 1 h) ?_ ?_
    · refine Eq.trans main ?_
      by_cases c2 : anyB (kyP (h 148 0)) e = true
      · rw [if_pos c2, if_neg (fun z => z.2 c2)]
      · rw [if_neg c2, if_pos ⟨c, c2⟩]
    · intro i hi
      show run _ _ _ _ _ _ = if _ then _ else run _ _ _ _ _ _
      rw [hd_59_10]
      by_cases d : 64 ≤ h 148 0 i
      · rw [if_pos (show kyP (h 148 0) i = true from decide_eq_true d)]
        simp (disch := omega) only [x_4_1, x_1, x_67, x_85, x_7_2_I, x_7_2_A, x_7_2_U, x_61, x_4_2, x_65, x_6_0, x_34, x_38_148, x_64, x_10_2_I, x_10_2_A, x_10_2_U, x_60, u_59_0, u_59_8, u_59_28, u_59_34, tn, d, Int.reduceEq, Int.reduceLT, Int.reduceLE, reduceIte, Int.reduceAdd, Int.reduceSub, Int.reduceMul, Int.reduceNeg, Int.reduceToNat, Bool.false_eq_true, eq_self, if_pos, if_neg]
      · rw [if_neg (show ¬ kyP (h 148 0) i = true from fun z => d (of_decide_eq_true z))]
        simp (disch := omega) only [x_4_1, x_1, x_67, x_85, x_7_2_I, x_7_2_A, x_7_2_U, x_61, x_4_2, x_65, x_6_0, x_34, x_38_148, x_64, x_10_2_I, x_10_2_A, x_10_2_U, x_60, u_59_0, u_59_8, u_59_28, u_59_34, tn, d, Int.reduceEq, Int.reduceLT, Int.reduceLE, reduceIte, Int.reduceAdd, Int.reduceSub, Int.reduceMul, Int.reduceNeg, Int.reduceToNat, Bool.false_eq_true, eq_self, if_pos, if_neg, ci, w32_id]
    · show run _ _ _ _ _ _ = _
      rw [hd_59_10]
      simp (disch := omega) only [x_4_1, x_1, x_67, x_85, x_7_2_I, x_7_2_A, x_7_2_U, x_61, x_4_2, x_65, x_6_0, x_34, x_38_148, x_64, x_10_2_I, x_10_2_A, x_10_2_U, x_60, u_59_0, u_59_8, u_59_28, u_59_34, Int.reduceEq, Int.reduceLT, Int.reduceLE, reduceIte, Int.reduceAdd, Int.reduceSub, Int.reduceMul, Int.reduceNeg, Int.reduceToNat, Bool.false_eq_true, eq_self, if_pos, if_neg]
  · rw [if_neg (fun z => c z.1)]
    simp (disch := omega) only [x_4_1, x_1, x_67, x_85, x_7_2_I, x_7_2_A, x_7_2_U, x_61, x_4_2, x_65, x_6_0, x_34, x_38_148, x_64, x_10_2_I, x_10_2_A, x_10_2_U, x_60, u_59_0, u_59_8, u_59_28, u_59_34, Int.reduceEq, Int.reduceLT, Int.reduceLE, reduceIte, Int.reduceAdd, Int.reduceSub, Int.reduceMul, Int.reduceNeg, Int.reduceToNat, Bool.false_eq_true, eq_self, if_pos, if_neg]
/-- the last keys told stand ahead of a place -/
def smP (T t : Nat → Int) (e p : Nat) (i : Nat) : Bool := decide (T (p - (i + 1)) = t (e - (i + 1)))
def plB (T t : Nat → Int) (e s p : Nat) : Bool := decide (s ≤ p) && allB (smP T t e p) s
theorem standsAhead_m (lv e s p L : Nat) (T t : Nat → Int) (h : Hp) (hL : L ≤ 12) (hT : ∀ j, j < L → h 213 0 j = T j) (ht : ∀ j, j < 400 → h 193 0 j = t j) (hp : p < L) (hs : s ≤ e) (he : e ≤ 20) : cl (lv + 1) 270 [aA 12 0, aI (p : Int), aI (e : Int), aI (s : Int)] h = ri (boI (plB T t e s p)) h := by
  rw [in_270]
  by_cases c : s ≤ p
  · unfold plB
    rw [decide_eq_true c, Bool.true_and]
    simp (disch := omega) only [x_4_3, x_4_1, x_66, x_1, x_60, x_61, x_7_4_I, x_7_4_A, x_7_4_U, x_7_5_I, x_7_5_A, x_7_5_U, x_4_5, x_4_4, x_68, x_6_0, x_34, x_12, x_38_193, x_38_213, x_4_2, x_63, x_10_5_I, x_10_5_A, x_10_5_U, x_85, u_270_0, u_270_9, u_270_10, u_270_51, u_270_52, u_270_60, Int.reduceEq, Int.reduceLT, Int.reduceLE, reduceIte, Int.reduceAdd, Int.reduceSub, Int.reduceMul, Int.reduceNeg, Int.reduceToNat, Bool.false_eq_true, eq_self, if_pos, if_neg]
    have main := loop_any (F := fun i => run lv 270 15 [aA 12 0, aI (p : Int), aI (e : Int), aI (s : Int), aI 1, aI ((i + 1 : Nat) : Int)] [] h) (N := s) (P := fun i => ! smP T t e p i) (r1 := ri 0 h) (r0 := ri 1 h) ?_ ?_
    · refine Eq.trans main ?_
      by_cases c2 : anyB (fun i => ! smP T t e p i) s = true
      · rw [if_pos c2]
        obtain ⟨i, q1, q2⟩ := anyB_iff.mp c2
        have : ¬ allB (smP T t e p) s = true := fun z => by have := allB_iff.mp z i q1; rw [this] at q2; exact absurd q2 (by decide)
        rw [Bool.eq_false_iff.mpr this]; rfl
      · rw [if_neg c2]
        have : allB (smP T t e p) s = true := allB_iff.mpr (fun i hi => by
          cases hb : smP T t e p i with
          | true => rfl
          | false => exact absurd (anyB_iff.mpr ⟨i, hi, by rw [hb]; rfl⟩) c2)
        rw [this]; rfl
    · intro i hi
      have y1 := hT (p - (i + 1)) (by omega)
      have y2 := ht (e - (i + 1)) (by omega)
      have u1 : ((p : Int) - ((i + 1 : Nat) : Int)).toNat = p - (i + 1) := by omega
      have u2 : ((e : Int) - ((i + 1 : Nat) : Int)).toNat = e - (i + 1) := by omega
      show run _ _ _ _ _ _ = if _ then _ else run _ _ _ _ _ _
      rw [hd_270_15]
      by_cases d : T (p - (i + 1)) = t (e - (i + 1))
      · have z : smP T t e p i = true := decide_eq_true d
        rw [z, if_neg (by decide)]
        simp (disch := omega) only [x_4_3, x_4_1, x_66, x_1, x_60, x_61, x_7_4_I, x_7_4_A, x_7_4_U, x_7_5_I, x_7_5_A, x_7_5_U, x_4_5, x_4_4, x_68, x_6_0, x_34, x_12, x_38_193, x_38_213, x_4_2, x_63, x_10_5_I, x_10_5_A, x_10_5_U, x_85, u_270_0, u_270_9, u_270_10, u_270_51, u_270_52, u_270_60, w32_id, u1, u2, y1, y2, d, Int.reduceEq, Int.reduceLT, Int.reduceLE, reduceIte, Int.reduceAdd, Int.reduceSub, Int.reduceMul, Int.reduceNeg, Int.reduceToNat, Bool.false_eq_true, eq_self, if_pos, if_neg, ci]
      · have z : smP T t e p i = false := decide_eq_false d
        rw [z, if_pos (by decide)]
        simp (disch := omega) only [x_4_3, x_4_1, x_66, x_1, x_60, x_61, x_7_4_I, x_7_4_A, x_7_4_U, x_7_5_I, x_7_5_A, x_7_5_U, x_4_5, x_4_4, x_68, x_6_0, x_34, x_12, x_38_193, x_38_213, x_4_2, x_63, x_10_5_I, x_10_5_A, x_10_5_U, x_85, u_270_0, u_270_9, u_270_10, u_270_51, u_270_52, u_270_60, w32_id, u1, u2, y1, y2, d, Int.reduceEq, Int.reduceLT, Int.reduceLE, reduceIte, Int.reduceAdd, Int.reduceSub, Int.reduceMul, Int.reduceNeg, Int.reduceToNat, Bool.false_eq_true, eq_self, if_pos, if_neg, ci]
        rw [hd_270_15]
        by_cases d2 : i + 1 + 1 ≤ s
        · simp (disch := omega) only [x_4_3, x_4_1, x_66, x_1, x_60, x_61, x_7_4_I, x_7_4_A, x_7_4_U, x_7_5_I, x_7_5_A, x_7_5_U, x_4_5, x_4_4, x_68, x_6_0, x_34, x_12, x_38_193, x_38_213, x_4_2, x_63, x_10_5_I, x_10_5_A, x_10_5_U, x_85, u_270_0, u_270_9, u_270_10, u_270_51, u_270_52, u_270_60, Int.reduceEq, Int.reduceLT, Int.reduceLE, reduceIte, Int.reduceAdd, Int.reduceSub, Int.reduceMul, Int.reduceNeg, Int.reduceToNat, Bool.false_eq_true, eq_self, if_pos, if_neg]
        · simp (disch := omega) only [x_4_3, x_4_1, x_66, x_1, x_60, x_61, x_7_4_I, x_7_4_A, x_7_4_U, x_7_5_I, x_7_5_A, x_7_5_U, x_4_5, x_4_4, x_68, x_6_0, x_34, x_12, x_38_193, x_38_213, x_4_2, x_63, x_10_5_I, x_10_5_A, x_10_5_U, x_85, u_270_0, u_270_9, u_270_10, u_270_51, u_270_52, u_270_60, Int.reduceEq, Int.reduceLT, Int.reduceLE, reduceIte, Int.reduceAdd, Int.reduceSub, Int.reduceMul, Int.reduceNeg, Int.reduceToNat, Bool.false_eq_true, eq_self, if_pos, if_neg]
    · show run _ _ _ _ _ _ = _
      rw [hd_270_15]
      simp (disch := omega) only [x_4_3, x_4_1, x_66, x_1, x_60, x_61, x_7_4_I, x_7_4_A, x_7_4_U, x_7_5_I, x_7_5_A, x_7_5_U, x_4_5, x_4_4, x_68, x_6_0, x_34, x_12, x_38_193, x_38_213, x_4_2, x_63, x_10_5_I, x_10_5_A, x_10_5_U, x_85, u_270_0, u_270_9, u_270_10, u_270_51, u_270_52, u_270_60, Int.reduceEq, Int.reduceLT, Int.reduceLE, reduceIte, Int.reduceAdd, Int.reduceSub, Int.reduceMul, Int.reduceNeg, Int.reduceToNat, Bool.false_eq_true, eq_self, if_pos, if_neg]
  · unfold plB
    rw [decide_eq_false c, Bool.false_and]
    simp (disch := omega) only [x_4_3, x_4_1, x_66, x_1, x_60, x_61, x_7_4_I, x_7_4_A, x_7_4_U, x_7_5_I, x_7_5_A, x_7_5_U, x_4_5, x_4_4, x_68, x_6_0, x_34, x_12, x_38_193, x_38_213, x_4_2, x_63, x_10_5_I, x_10_5_A, x_10_5_U, x_85, u_270_0, u_270_9, u_270_10, u_270_51, u_270_52, u_270_60, Int.reduceEq, Int.reduceLT, Int.reduceLE, reduceIte, Int.reduceAdd, Int.reduceSub, Int.reduceMul, Int.reduceNeg, Int.reduceToNat, Bool.false_eq_true, eq_self, if_pos, if_neg]
    rw [hd_270_15]
    by_cases d2 : 1 ≤ s
    · simp (disch := omega) only [x_4_3, x_4_1, x_66, x_1, x_60, x_61, x_7_4_I, x_7_4_A, x_7_4_U, x_7_5_I, x_7_5_A, x_7_5_U, x_4_5, x_4_4, x_68, x_6_0, x_34, x_12, x_38_193, x_38_213, x_4_2, x_63, x_10_5_I, x_10_5_A, x_10_5_U, x_85, u_270_0, u_270_9, u_270_10, u_270_51, u_270_52, u_270_60, Int.reduceEq, Int.reduceLT, Int.reduceLE, reduceIte, Int.reduceAdd, Int.reduceSub, Int.reduceMul, Int.reduceNeg, Int.reduceToNat, Bool.false_eq_true, eq_self, if_pos, if_neg]
      rfl
    · simp (disch := omega) only [x_4_3, x_4_1, x_66, x_1, x_60, x_61, x_7_4_I, x_7_4_A, x_7_4_U, x_7_5_I, x_7_5_A, x_7_5_U, x_4_5, x_4_4, x_68, x_6_0, x_34, x_12, x_38_193, x_38_213, x_4_2, x_63, x_10_5_I, x_10_5_A, x_10_5_U, x_85, u_270_0, u_270_9, u_270_10, u_270_51, u_270_52, u_270_60, Int.reduceEq, Int.reduceLT, Int.reduceLE, reduceIte, Int.reduceAdd, Int.reduceSub, Int.reduceMul, Int.reduceNeg, Int.reduceToNat, Bool.false_eq_true, eq_self, if_pos, if_neg]
      rfl
