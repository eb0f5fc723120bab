/-! QUESTIONS OF THE LOG. -/
def ffst (P : Nat → Bool) (v : Nat → Int) (d : Int) : Nat → Nat → Int
  | 0, _ => d
  | c + 1, s => if P s = true then v s else ffst P v d c (s + 1)
def cntR (P : Nat → Bool) : Nat → Nat → Nat
  | 0, _ => 0
  | c + 1, s => (if P s = true then 1 else 0) + cntR P c (s + 1)
theorem cntR_cnt (P : Nat → Bool) : ∀ c s, cntR P c s = cnt (fun i => P (i + s)) c := by
  intro c
  induction c with
  | zero => intro s; rfl
  | succ c ih =>
    intro s
    rw [cnt_shift]
    show (if P s = true then 1 else 0) + cntR P c (s + 1) = _
    rw [ih (s + 1), Nat.zero_add]
    have e : (fun i => P (i + (s + 1))) = fun i => P (i + 1 + s) := by funext i; congr 1; omega
    rw [e]
def kdB (M : Nat → Int) (a : Nat) : Bool := decide (M (106 + 4 * a + 3) = 0)
def owB (M : Nat → Int) (hd : Int) (a : Nat) : Bool := kdB M a && decide (M (106 + 4 * a + 2) = hd)
def ntB (M : Nat → Int) (n : Int) (a : Nat) : Bool := decide (M (106 + 4 * a + 1) = n)
def shareS (M : Nat → Int) (hd : Int) (S : Nat) : Int := if cnt (kdB M) S = 0 then 0 else ((cnt (owB M hd) S * 100 / cnt (kdB M) S : Nat) : Int)
theorem share_div {o a : Nat} (h1 : a ≠ 0) (h2 : o ≤ 60) : idiv ((o : Int) * 100) (a : Int) = ((o * 100 / a : Nat) : Int) := by
  unfold idiv
  rw [Int.tdiv_eq_ediv_of_nonneg (by omega), show (o : Int) * 100 = ((o * 100 : Nat) : Int) by omega, ← Int.natCast_ediv]
  have hb : o * 100 / a ≤ 6000 := Nat.le_trans (Nat.div_le_self _ _) (by omega)
  generalize o * 100 / a = z at hb ⊢
  exact w32_id (by omega) (by omega)
theorem loop_g {α : Type} {F : Nat → α → Option Rs} {r : Option Rs} {N : Nat} (hs : ∀ i g, i < N → ∃ g', F i g = F (i + 1) g') (he : ∀ g, F N g = r) : ∀ g, F 0 g = r := by
  have key : ∀ d i g, i + d = N → F i g = r := by
    intro d
    induction d with
    | zero => intro i g h; rw [show i = N by omega]; exact he g
    | succ d ih => intro i g h; obtain ⟨g', e⟩ := hs i g (by omega); rw [e]; exact ih (i + 1) g' (by omega)
  exact fun g => key N 0 g (by omega)
/-- as loop_any, with a local that nobody asks for, and answers by place -/
theorem loop_f {α : Type} {F : Nat → α → Option Rs} {r : Nat → Option Rs} {d : Option Rs} {P : Nat → Bool} {N : Nat} (hs : ∀ i g, i < N → ∃ g', F i g = if P i = true then r i else F (i + 1) g') (he : ∀ g, F N g = d) (g : α) : (∃ i, i < N ∧ P i = true ∧ (∀ j, j < i → P j = false) ∧ F 0 g = r i) ∨ ((∀ j, j < N → P j = false) ∧ F 0 g = d) := by
  have key : ∀ c i g, i + c = N → (∀ j, j < i → P j = false) → (∃ i', i' < N ∧ P i' = true ∧ (∀ j, j < i' → P j = false) ∧ F i g = r i') ∨ ((∀ j, j < N → P j = false) ∧ F i g = d) := by
    intro c
    induction c with
    | zero => intro i g h hj; have e : i = N := by omega
              subst e; exact Or.inr ⟨hj, he g⟩
    | succ c ih =>
      intro i g h hj
      obtain ⟨g', e⟩ := hs i g (by omega)
      by_cases hp : P i = true
      · rw [e, if_pos hp]; exact Or.inl ⟨i, by omega, hp, hj, rfl⟩
      · rw [e, if_neg hp]
        exact ih (i + 1) g' (by omega) (fun j hj' => by
          by_cases hji : j = i
          · rw [hji]; simpa using hp
          · exact hj j (by omega))
  exact key N 0 g (by omega) (fun j hj => by omega)
theorem ffst_at {P : Nat → Bool} {v : Nat → Int} {d : Int} {N i : Nat} (hi : i < N) (hp : P i = true) (hj : ∀ j, j < i → P j = false) : ffst P v d N 0 = v i := by
  have key : ∀ c s, s ≤ i → i < s + c → ffst P v d c s = v i := by
    intro c
    induction c with
    | zero => intro s h1 h2; omega
    | succ c ih =>
      intro s h1 h2
      show (if P s = true then v s else ffst P v d c (s + 1)) = _
      by_cases e : s = i
      · subst e; rw [if_pos hp]
      · rw [if_neg (by rw [hj s (by omega)]; exact Bool.false_ne_true)]
        exact ih (s + 1) (by omega) (by omega)
  exact key N 0 (by omega) (by omega)
theorem ffst_no {P : Nat → Bool} {v : Nat → Int} {d : Int} {N : Nat} (hj : ∀ j, j < N → P j = false) : ffst P v d N 0 = d := by
  have key : ∀ c s, s + c ≤ N → ffst P v d c s = d := by
    intro c
    induction c with
    | zero => intro s h; rfl
    | succ c ih =>
      intro s h
      show (if P s = true then v s else ffst P v d c (s + 1)) = _
      rw [if_neg (by rw [hj s (by omega)]; exact Bool.false_ne_true)]
      exact ih (s + 1) (by omega)
  exact key N 0 (by omega)
theorem shareOf_c (lv k S : Nat) (hd : Int) (M : Nat → Int) (h : Hp) (R : RL h k M) (hS : M 12 = (S : Int)) : cl (lv + 3) 34 [aA 4 k, aI hd] h = ri (shareS M hd S) h := by
  obtain ⟨nw, S', r1, r2, r3, r4, r5, r6⟩ := R
  have e : S' = S := by omega
  subst e
  rw [in_34]
  simp (disch := omega) only [x_1, x_7_2_I, x_7_2_A, x_7_2_U, x_7_3_I, x_7_3_A, x_7_3_U, x_7_4_I, x_7_4_A, x_7_4_U, x_61, x_4_4, x_6_0, x_33, x_65, x_79_2_4_d0, x_79_2_4_d1, x_79_2_4_d2, x_79_2_4_d3, x_79_2_4_d4, x_7_5_I, x_7_5_A, x_7_5_U, x_4_5, x_80_1_d0, x_80_1_d1, x_80_1_d2, x_80_1_d3, x_80_1_d4, x_69, x_10_2_I, x_10_2_A, x_10_2_U, x_4_3, x_4_1, x_63, x_60, x_11, x_10_4_I, x_10_4_A, x_10_4_U, x_4_2, x_13, x_14, x_82, cb_ri, cb_rl, cb_rv, cb_th, cb_ite, ps_s, ps_n, u_34_0, u_34_49, u_34_50, u_34_52, u_34_58, u_34_66, u_34_72]
  refine loop_g (F := fun i (g : AV) => run (lv + 2) 34 7 [aA 4 k, aI hd, aI ((cnt (kdB M) i : Nat) : Int), aI ((cnt (owB M hd) i : Nat) : Int), aI (i : Int), g] [] h) (N := S') ?_ ?_ none
  · intro i g hi
    obtain ⟨q1, q2⟩ := r6 i hi
    have c1 := cnt_le (kdB M) i
    have c2 := cnt_le (owB M hd) i
    refine ⟨aI (enc (M (106 + 4 * i)) (M (106 + 4 * i + 1)) (M (106 + 4 * i + 2)) (M (106 + 4 * i + 3))), ?_⟩
    show run _ _ _ _ _ _ = run _ _ _ _ _ _
    rw [hd_34_7]
    have a1 := rowAgo_c lv k nw i h r1 r2 (by omega)
    have a2 := kindIn_c (lv + 1) _ _ _ _ h q2
    have a3 := handIn_c (lv + 1) _ _ _ _ h q2
    by_cases h1 : M (106 + 4 * i + 3) = 0
    · have p1 : kdB M i = true := by simp [kdB, h1]
      by_cases h2 : M (106 + 4 * i + 2) = hd
      · have p2 : owB M hd i = true := by simp [owB, p1, h2]
        simp (disch := omega) only [x_1, x_7_2_I, x_7_2_A, x_7_2_U, x_7_3_I, x_7_3_A, x_7_3_U, x_7_4_I, x_7_4_A, x_7_4_U, x_61, x_4_4, x_6_0, x_33, x_65, x_79_2_4_d0, x_79_2_4_d1, x_79_2_4_d2, x_79_2_4_d3, x_79_2_4_d4, x_7_5_I, x_7_5_A, x_7_5_U, x_4_5, x_80_1_d0, x_80_1_d1, x_80_1_d2, x_80_1_d3, x_80_1_d4, x_69, x_10_2_I, x_10_2_A, x_10_2_U, x_4_3, x_4_1, x_63, x_60, x_11, x_10_4_I, x_10_4_A, x_10_4_U, x_4_2, x_13, x_14, x_82, cb_ri, cb_rl, cb_rv, cb_th, cb_ite, ps_s, ps_n, u_34_0, u_34_49, u_34_50, u_34_52, u_34_58, u_34_66, u_34_72, r3, a1, q1, a2, a3, cnt, p1, p2, Int.reduceEq, Int.reduceLT, Int.reduceLE, reduceIte, Int.reduceAdd, Int.reduceSub, Int.reduceMul, Int.reduceNeg, Int.reduceToNat, Bool.false_eq_true, eq_self, if_pos, if_neg, ci, w32_id]
      · have p2 : owB M hd i = false := by simp [owB, h2]
        simp (disch := omega) only [x_1, x_7_2_I, x_7_2_A, x_7_2_U, x_7_3_I, x_7_3_A, x_7_3_U, x_7_4_I, x_7_4_A, x_7_4_U, x_61, x_4_4, x_6_0, x_33, x_65, x_79_2_4_d0, x_79_2_4_d1, x_79_2_4_d2, x_79_2_4_d3, x_79_2_4_d4, x_7_5_I, x_7_5_A, x_7_5_U, x_4_5, x_80_1_d0, x_80_1_d1, x_80_1_d2, x_80_1_d3, x_80_1_d4, x_69, x_10_2_I, x_10_2_A, x_10_2_U, x_4_3, x_4_1, x_63, x_60, x_11, x_10_4_I, x_10_4_A, x_10_4_U, x_4_2, x_13, x_14, x_82, cb_ri, cb_rl, cb_rv, cb_th, cb_ite, ps_s, ps_n, u_34_0, u_34_49, u_34_50, u_34_52, u_34_58, u_34_66, u_34_72, r3, a1, q1, a2, a3, cnt, p1, p2, Int.reduceEq, Int.reduceLT, Int.reduceLE, reduceIte, Int.reduceAdd, Int.reduceSub, Int.reduceMul, Int.reduceNeg, Int.reduceToNat, Bool.false_eq_true, eq_self, if_pos, if_neg, ci, w32_id, Int.add_zero, Nat.add_zero]
    · have p1 : kdB M i = false := by simp [kdB, h1]
      have p2 : owB M hd i = false := by simp [owB, p1]
      simp (disch := omega) only [x_1, x_7_2_I, x_7_2_A, x_7_2_U, x_7_3_I, x_7_3_A, x_7_3_U, x_7_4_I, x_7_4_A, x_7_4_U, x_61, x_4_4, x_6_0, x_33, x_65, x_79_2_4_d0, x_79_2_4_d1, x_79_2_4_d2, x_79_2_4_d3, x_79_2_4_d4, x_7_5_I, x_7_5_A, x_7_5_U, x_4_5, x_80_1_d0, x_80_1_d1, x_80_1_d2, x_80_1_d3, x_80_1_d4, x_69, x_10_2_I, x_10_2_A, x_10_2_U, x_4_3, x_4_1, x_63, x_60, x_11, x_10_4_I, x_10_4_A, x_10_4_U, x_4_2, x_13, x_14, x_82, cb_ri, cb_rl, cb_rv, cb_th, cb_ite, ps_s, ps_n, u_34_0, u_34_49, u_34_50, u_34_52, u_34_58, u_34_66, u_34_72, r3, a1, q1, a2, a3, cnt, p1, p2, Int.reduceEq, Int.reduceLT, Int.reduceLE, reduceIte, Int.reduceAdd, Int.reduceSub, Int.reduceMul, Int.reduceNeg, Int.reduceToNat, Bool.false_eq_true, eq_self, if_pos, if_neg, ci, w32_id, Nat.add_zero]
  · intro g
    show run _ _ _ _ _ _ = _
    rw [hd_34_7]
    have c2 := cnt_le (owB M hd) S'
    unfold shareS
    by_cases h1 : cnt (kdB M) S' = 0
    · simp (disch := omega) only [x_1, x_7_2_I, x_7_2_A, x_7_2_U, x_7_3_I, x_7_3_A, x_7_3_U, x_7_4_I, x_7_4_A, x_7_4_U, x_61, x_4_4, x_6_0, x_33, x_65, x_79_2_4_d0, x_79_2_4_d1, x_79_2_4_d2, x_79_2_4_d3, x_79_2_4_d4, x_7_5_I, x_7_5_A, x_7_5_U, x_4_5, x_80_1_d0, x_80_1_d1, x_80_1_d2, x_80_1_d3, x_80_1_d4, x_69, x_10_2_I, x_10_2_A, x_10_2_U, x_4_3, x_4_1, x_63, x_60, x_11, x_10_4_I, x_10_4_A, x_10_4_U, x_4_2, x_13, x_14, x_82, cb_ri, cb_rl, cb_rv, cb_th, cb_ite, ps_s, ps_n, u_34_0, u_34_49, u_34_50, u_34_52, u_34_58, u_34_66, u_34_72, r3, h1, Int.reduceEq, Int.reduceLT, Int.reduceLE, reduceIte, Int.reduceAdd, Int.reduceSub, Int.reduceMul, Int.reduceNeg, Int.reduceToNat, Bool.false_eq_true, eq_self, if_pos, if_neg, Int.natCast_zero]
    · have h2 : ¬ ((cnt (kdB M) S' : Nat) : Int) = 0 := by omega
      simp (disch := omega) only [x_1, x_7_2_I, x_7_2_A, x_7_2_U, x_7_3_I, x_7_3_A, x_7_3_U, x_7_4_I, x_7_4_A, x_7_4_U, x_61, x_4_4, x_6_0, x_33, x_65, x_79_2_4_d0, x_79_2_4_d1, x_79_2_4_d2, x_79_2_4_d3, x_79_2_4_d4, x_7_5_I, x_7_5_A, x_7_5_U, x_4_5, x_80_1_d0, x_80_1_d1, x_80_1_d2, x_80_1_d3, x_80_1_d4, x_69, x_10_2_I, x_10_2_A, x_10_2_U, x_4_3, x_4_1, x_63, x_60, x_11, x_10_4_I, x_10_4_A, x_10_4_U, x_4_2, x_13, x_14, x_82, cb_ri, cb_rl, cb_rv, cb_th, cb_ite, ps_s, ps_n, u_34_0, u_34_49, u_34_50, u_34_52, u_34_58, u_34_66, u_34_72, r3, h1, h2, Int.reduceEq, Int.reduceLT, Int.reduceLE, reduceIte, Int.reduceAdd, Int.reduceSub, Int.reduceMul, Int.reduceNeg, Int.reduceToNat, Bool.false_eq_true, eq_self, if_pos, if_neg, w32_id, share_div h1 (show cnt (owB M hd) S' ≤ 60 by omega)]
theorem rowsOf_c (lv k S : Nat) (n : Int) (M : Nat → Int) (h : Hp) (R : RL h k M) (hS : M 12 = (S : Int)) : cl (lv + 3) 35 [aA 4 k, aI n] h = ri ((cnt (ntB M n) S : Nat) : Int) h := by
  obtain ⟨nw, S', r1, r2, r3, r4, r5, r6⟩ := R
  have e : S' = S := by omega
  subst e
  rw [in_35]
  simp (disch := omega) only [x_1, x_7_2_I, x_7_2_A, x_7_2_U, x_7_3_I, x_7_3_A, x_7_3_U, x_61, x_4_3, x_6_0, x_33, x_65, x_79_2_4_d0, x_79_2_4_d1, x_79_2_4_d2, x_79_2_4_d3, x_79_2_4_d4, x_80_1_d0, x_80_1_d1, x_80_1_d2, x_80_1_d3, x_80_1_d4, x_4_1, x_63, x_10_2_I, x_10_2_A, x_10_2_U, x_10_3_I, x_10_3_A, x_10_3_U, x_60, x_4_2, x_82, cb_ri, cb_rl, cb_rv, cb_th, cb_ite, ps_s, ps_n, u_35_0, u_35_27, u_35_33]
  refine loop_up (F := fun i => run (lv + 2) 35 4 [aA 4 k, aI n, aI ((cnt (ntB M n) i : Nat) : Int), aI (i : Int)] [] h) (N := S') ?_ ?_ 0 (by omega)
  · intro i hi
    obtain ⟨q1, q2⟩ := r6 i hi
    have c1 := cnt_le (ntB M n) i
    show run _ _ _ _ _ _ = run _ _ _ _ _ _
    rw [hd_35_4]
    have a1 := rowAgo_c lv k nw i h r1 r2 (by omega)
    have a2 := noteIn_c (lv + 1) _ _ _ _ h q2
    by_cases h1 : M (106 + 4 * i + 1) = n
    · have p1 : ntB M n i = true := by simp [ntB, h1]
      simp (disch := omega) only [x_1, x_7_2_I, x_7_2_A, x_7_2_U, x_7_3_I, x_7_3_A, x_7_3_U, x_61, x_4_3, x_6_0, x_33, x_65, x_79_2_4_d0, x_79_2_4_d1, x_79_2_4_d2, x_79_2_4_d3, x_79_2_4_d4, x_80_1_d0, x_80_1_d1, x_80_1_d2, x_80_1_d3, x_80_1_d4, x_4_1, x_63, x_10_2_I, x_10_2_A, x_10_2_U, x_10_3_I, x_10_3_A, x_10_3_U, x_60, x_4_2, x_82, cb_ri, cb_rl, cb_rv, cb_th, cb_ite, ps_s, ps_n, u_35_0, u_35_27, u_35_33, r3, a1, q1, a2, cnt, p1, Int.reduceEq, Int.reduceLT, Int.reduceLE, reduceIte, Int.reduceAdd, Int.reduceSub, Int.reduceMul, Int.reduceNeg, Int.reduceToNat, Bool.false_eq_true, eq_self, if_pos, if_neg, ci, w32_id]
    · have p1 : ntB M n i = false := by simp [ntB, h1]
      simp (disch := omega) only [x_1, x_7_2_I, x_7_2_A, x_7_2_U, x_7_3_I, x_7_3_A, x_7_3_U, x_61, x_4_3, x_6_0, x_33, x_65, x_79_2_4_d0, x_79_2_4_d1, x_79_2_4_d2, x_79_2_4_d3, x_79_2_4_d4, x_80_1_d0, x_80_1_d1, x_80_1_d2, x_80_1_d3, x_80_1_d4, x_4_1, x_63, x_10_2_I, x_10_2_A, x_10_2_U, x_10_3_I, x_10_3_A, x_10_3_U, x_60, x_4_2, x_82, cb_ri, cb_rl, cb_rv, cb_th, cb_ite, ps_s, ps_n, u_35_0, u_35_27, u_35_33, r3, a1, q1, a2, cnt, p1, Int.reduceEq, Int.reduceLT, Int.reduceLE, reduceIte, Int.reduceAdd, Int.reduceSub, Int.reduceMul, Int.reduceNeg, Int.reduceToNat, Bool.false_eq_true, eq_self, if_pos, if_neg, ci, w32_id, Nat.add_zero]
  · show run _ _ _ _ _ _ = _
    rw [hd_35_4]
    simp (disch := omega) only [x_1, x_7_2_I, x_7_2_A, x_7_2_U, x_7_3_I, x_7_3_A, x_7_3_U, x_61, x_4_3, x_6_0, x_33, x_65, x_79_2_4_d0, x_79_2_4_d1, x_79_2_4_d2, x_79_2_4_d3, x_79_2_4_d4, x_80_1_d0, x_80_1_d1, x_80_1_d2, x_80_1_d3, x_80_1_d4, x_4_1, x_63, x_10_2_I, x_10_2_A, x_10_2_U, x_10_3_I, x_10_3_A, x_10_3_U, x_60, x_4_2, x_82, cb_ri, cb_rl, cb_rv, cb_th, cb_ite, ps_s, ps_n, u_35_0, u_35_27, u_35_33, r3, Int.reduceEq, Int.reduceLT, Int.reduceLE, reduceIte, Int.reduceAdd, Int.reduceSub, Int.reduceMul, Int.reduceNeg, Int.reduceToNat, Bool.false_eq_true, eq_self, if_pos, if_neg]
theorem latestHandOf_c (lv k S : Nat) (n : Int) (M : Nat → Int) (h : Hp) (R : RL h k M) (hS : M 12 = (S : Int)) : cl (lv + 3) 36 [aA 4 k, aI n] h = ri (ffst (ntB M n) (fun a => M (106 + 4 * a + 2)) (-1) S 0) h := by
  obtain ⟨nw, S', r1, r2, r3, r4, r5, r6⟩ := R
  have e : S' = S := by omega
  subst e
  rw [in_36]
  simp (disch := omega) only [x_1, x_7_2_I, x_7_2_A, x_7_2_U, x_61, x_4_2, x_6_0, x_33, x_65, x_79_2_4_d0, x_79_2_4_d1, x_79_2_4_d2, x_79_2_4_d3, x_79_2_4_d4, x_7_3_I, x_7_3_A, x_7_3_U, x_4_3, x_80_1_d0, x_80_1_d1, x_80_1_d2, x_80_1_d3, x_80_1_d4, x_4_1, x_63, x_82, x_10_2_I, x_10_2_A, x_10_2_U, x_60, cb_ri, cb_rl, cb_rv, cb_th, cb_ite, ps_s, ps_n, u_36_0, u_36_29, u_36_35]
  have main := loop_f (F := fun i (g : AV) => run (lv + 2) 36 2 [aA 4 k, aI n, aI (i : Int), g] [] h) (N := S') (P := ntB M n) (r := fun i => ri (M (106 + 4 * i + 2)) h) (d := ri (-1) h) ?_ ?_ none
  · rcases main with ⟨i, hi, hp, hj, e⟩ | ⟨hj, e⟩
    · rw [ffst_at hi hp hj]; exact e
    · rw [ffst_no hj]; exact e
  · intro i g hi
    obtain ⟨q1, q2⟩ := r6 i hi
    refine ⟨aI (enc (M (106 + 4 * i)) (M (106 + 4 * i + 1)) (M (106 + 4 * i + 2)) (M (106 + 4 * i + 3))), ?_⟩
    show run _ _ _ _ _ _ = if _ then _ else run _ _ _ _ _ _
    rw [hd_36_2]
    have a1 := rowAgo_c lv k nw i h r1 r2 (by omega)
    have a2 := noteIn_c (lv + 1) _ _ _ _ h q2
    have a3 := handIn_c (lv + 1) _ _ _ _ h q2
    by_cases h1 : M (106 + 4 * i + 1) = n
    · have p1 : ntB M n i = true := by simp [ntB, h1]
      simp (disch := omega) only [x_1, x_7_2_I, x_7_2_A, x_7_2_U, x_61, x_4_2, x_6_0, x_33, x_65, x_79_2_4_d0, x_79_2_4_d1, x_79_2_4_d2, x_79_2_4_d3, x_79_2_4_d4, x_7_3_I, x_7_3_A, x_7_3_U, x_4_3, x_80_1_d0, x_80_1_d1, x_80_1_d2, x_80_1_d3, x_80_1_d4, x_4_1, x_63, x_82, x_10_2_I, x_10_2_A, x_10_2_U, x_60, cb_ri, cb_rl, cb_rv, cb_th, cb_ite, ps_s, ps_n, u_36_0, u_36_29, u_36_35, r3, a1, q1, a2, a3, p1, Int.reduceEq, Int.reduceLT, Int.reduceLE, reduceIte, Int.reduceAdd, Int.reduceSub, Int.reduceMul, Int.reduceNeg, Int.reduceToNat, Bool.false_eq_true, eq_self, if_pos, if_neg, ci, w32_id]
    · have p1 : ntB M n i = false := by simp [ntB, h1]
      simp (disch := omega) only [x_1, x_7_2_I, x_7_2_A, x_7_2_U, x_61, x_4_2, x_6_0, x_33, x_65, x_79_2_4_d0, x_79_2_4_d1, x_79_2_4_d2, x_79_2_4_d3, x_79_2_4_d4, x_7_3_I, x_7_3_A, x_7_3_U, x_4_3, x_80_1_d0, x_80_1_d1, x_80_1_d2, x_80_1_d3, x_80_1_d4, x_4_1, x_63, x_82, x_10_2_I, x_10_2_A, x_10_2_U, x_60, cb_ri, cb_rl, cb_rv, cb_th, cb_ite, ps_s, ps_n, u_36_0, u_36_29, u_36_35, r3, a1, q1, a2, a3, p1, Int.reduceEq, Int.reduceLT, Int.reduceLE, reduceIte, Int.reduceAdd, Int.reduceSub, Int.reduceMul, Int.reduceNeg, Int.reduceToNat, Bool.false_eq_true, eq_self, if_pos, if_neg, ci, w32_id]
  · intro g
    show run _ _ _ _ _ _ = _
    rw [hd_36_2]
    simp (disch := omega) only [x_1, x_7_2_I, x_7_2_A, x_7_2_U, x_61, x_4_2, x_6_0, x_33, x_65, x_79_2_4_d0, x_79_2_4_d1, x_79_2_4_d2, x_79_2_4_d3, x_79_2_4_d4, x_7_3_I, x_7_3_A, x_7_3_U, x_4_3, x_80_1_d0, x_80_1_d1, x_80_1_d2, x_80_1_d3, x_80_1_d4, x_4_1, x_63, x_82, x_10_2_I, x_10_2_A, x_10_2_U, x_60, cb_ri, cb_rl, cb_rv, cb_th, cb_ite, ps_s, ps_n, u_36_0, u_36_29, u_36_35, r3, Int.reduceEq, Int.reduceLT, Int.reduceLE, reduceIte, Int.reduceAdd, Int.reduceSub, Int.reduceMul, Int.reduceNeg, Int.reduceToNat, Bool.false_eq_true, eq_self, if_pos, if_neg]
/-! the reference's -/
theorem logged_c (lv a w : Nat) (h : Hp) (ha : a < 60) (hw : w < 4) : cl (lv + 1) 305 [aA 12 0, aI (a : Int), aI (w : Int)] h = ri (h 187 0 (106 + 4 * a + w)) h := by
  rw [in_305]
  simp (disch := omega) only [x_6_0, x_34, x_1, x_4_1, x_13, x_11, x_4_2, x_38_187, x_82, u_305_0, w32_id]
  congr 2
theorem mShareOf_c (lv S : Nat) (hd : Int) (h : Hp) (hS : h 187 0 12 = (S : Int)) (hS60 : S ≤ 60) : cl (lv + 2) 232 [aA 12 0, aI hd] h = ri (shareS (h 187 0) hd S) h := by
  rw [in_232]
  simp (disch := omega) only [x_1, x_7_2_I, x_7_2_A, x_7_2_U, x_7_3_I, x_7_3_A, x_7_3_U, x_7_4_I, x_7_4_A, x_7_4_U, x_61, x_4_4, x_6_0, x_34, x_38_187, x_65, x_79_3_12_d0, x_79_3_12_d1, x_79_3_12_d2, x_79_3_12_d3, x_79_3_12_d4, x_68, x_60, x_10_2_I, x_10_2_A, x_10_2_U, x_4_3, x_4_1, x_63, x_11, x_10_4_I, x_10_4_A, x_10_4_U, x_4_2, x_69, x_13, x_14, x_82, cb_ri, cb_rl, cb_rv, cb_th, cb_ite, ps_s, ps_n, u_232_0, u_232_32, u_232_51, u_232_52, u_232_54, u_232_60, u_232_68, u_232_74]
  refine loop_up (F := fun i => run (lv + 1) 232 7 [aA 12 0, aI hd, aI ((cnt (kdB (h 187 0)) i : Nat) : Int), aI ((cnt (owB (h 187 0) hd) i : Nat) : Int), aI (i : Int)] [] h) (N := S) ?_ ?_ 0 (by omega)
  · intro i hi
    have c1 := cnt_le (kdB (h 187 0)) i
    have c2 := cnt_le (owB (h 187 0) hd) i
    have a2 : cl (lv + 1) 305 [aA 12 0, aI (i : Int), aI 2] h = _ := logged_c lv i 2 h (by omega) (by omega)
    have a3 : cl (lv + 1) 305 [aA 12 0, aI (i : Int), aI 3] h = _ := logged_c lv i 3 h (by omega) (by omega)
    show run _ _ _ _ _ _ = run _ _ _ _ _ _
    rw [hd_232_7]
    by_cases h1 : h 187 0 (106 + 4 * i + 3) = 0
    · have p1 : kdB (h 187 0) i = true := by simp [kdB, h1]
      by_cases h2 : h 187 0 (106 + 4 * i + 2) = hd
      · have p2 : owB (h 187 0) hd i = true := by simp [owB, p1, h2]
        simp (disch := omega) only [x_1, x_7_2_I, x_7_2_A, x_7_2_U, x_7_3_I, x_7_3_A, x_7_3_U, x_7_4_I, x_7_4_A, x_7_4_U, x_61, x_4_4, x_6_0, x_34, x_38_187, x_65, x_79_3_12_d0, x_79_3_12_d1, x_79_3_12_d2, x_79_3_12_d3, x_79_3_12_d4, x_68, x_60, x_10_2_I, x_10_2_A, x_10_2_U, x_4_3, x_4_1, x_63, x_11, x_10_4_I, x_10_4_A, x_10_4_U, x_4_2, x_69, x_13, x_14, x_82, cb_ri, cb_rl, cb_rv, cb_th, cb_ite, ps_s, ps_n, u_232_0, u_232_32, u_232_51, u_232_52, u_232_54, u_232_60, u_232_68, u_232_74, hS, a2, a3, h1, h2, cnt, p1, p2, Int.reduceEq, Int.reduceLT, Int.reduceLE, reduceIte, Int.reduceAdd, Int.reduceSub, Int.reduceMul, Int.reduceNeg, Int.reduceToNat, Bool.false_eq_true, eq_self, if_pos, if_neg, ci, w32_id]
      · have p2 : owB (h 187 0) hd i = false := by simp [owB, h2]
        simp (disch := omega) only [x_1, x_7_2_I, x_7_2_A, x_7_2_U, x_7_3_I, x_7_3_A, x_7_3_U, x_7_4_I, x_7_4_A, x_7_4_U, x_61, x_4_4, x_6_0, x_34, x_38_187, x_65, x_79_3_12_d0, x_79_3_12_d1, x_79_3_12_d2, x_79_3_12_d3, x_79_3_12_d4, x_68, x_60, x_10_2_I, x_10_2_A, x_10_2_U, x_4_3, x_4_1, x_63, x_11, x_10_4_I, x_10_4_A, x_10_4_U, x_4_2, x_69, x_13, x_14, x_82, cb_ri, cb_rl, cb_rv, cb_th, cb_ite, ps_s, ps_n, u_232_0, u_232_32, u_232_51, u_232_52, u_232_54, u_232_60, u_232_68, u_232_74, hS, a2, a3, h1, h2, cnt, p1, p2, Int.reduceEq, Int.reduceLT, Int.reduceLE, reduceIte, Int.reduceAdd, Int.reduceSub, Int.reduceMul, Int.reduceNeg, Int.reduceToNat, Bool.false_eq_true, eq_self, if_pos, if_neg, ci, w32_id, Int.add_zero, Nat.add_zero]
    · have p1 : kdB (h 187 0) i = false := by simp [kdB, h1]
      have p2 : owB (h 187 0) hd i = false := by simp [owB, p1]
      simp (disch := omega) only [x_1, x_7_2_I, x_7_2_A, x_7_2_U, x_7_3_I, x_7_3_A, x_7_3_U, x_7_4_I, x_7_4_A, x_7_4_U, x_61, x_4_4, x_6_0, x_34, x_38_187, x_65, x_79_3_12_d0, x_79_3_12_d1, x_79_3_12_d2, x_79_3_12_d3, x_79_3_12_d4, x_68, x_60, x_10_2_I, x_10_2_A, x_10_2_U, x_4_3, x_4_1, x_63, x_11, x_10_4_I, x_10_4_A, x_10_4_U, x_4_2, x_69, x_13, x_14, x_82, cb_ri, cb_rl, cb_rv, cb_th, cb_ite, ps_s, ps_n, u_232_0, u_232_32, u_232_51, u_232_52, u_232_54, u_232_60, u_232_68, u_232_74, hS, a2, a3, h1, cnt, p1, p2, Int.reduceEq, Int.reduceLT, Int.reduceLE, reduceIte, Int.reduceAdd, Int.reduceSub, Int.reduceMul, Int.reduceNeg, Int.reduceToNat, Bool.false_eq_true, eq_self, if_pos, if_neg, ci, w32_id, Nat.add_zero]
  · show run _ _ _ _ _ _ = _
    rw [hd_232_7]
    have c2 := cnt_le (owB (h 187 0) hd) S
    unfold shareS
    by_cases h1 : cnt (kdB (h 187 0)) S = 0
    · simp (disch := omega) only [x_1, x_7_2_I, x_7_2_A, x_7_2_U, x_7_3_I, x_7_3_A, x_7_3_U, x_7_4_I, x_7_4_A, x_7_4_U, x_61, x_4_4, x_6_0, x_34, x_38_187, x_65, x_79_3_12_d0, x_79_3_12_d1, x_79_3_12_d2, x_79_3_12_d3, x_79_3_12_d4, x_68, x_60, x_10_2_I, x_10_2_A, x_10_2_U, x_4_3, x_4_1, x_63, x_11, x_10_4_I, x_10_4_A, x_10_4_U, x_4_2, x_69, x_13, x_14, x_82, cb_ri, cb_rl, cb_rv, cb_th, cb_ite, ps_s, ps_n, u_232_0, u_232_32, u_232_51, u_232_52, u_232_54, u_232_60, u_232_68, u_232_74, hS, h1, Int.reduceEq, Int.reduceLT, Int.reduceLE, reduceIte, Int.reduceAdd, Int.reduceSub, Int.reduceMul, Int.reduceNeg, Int.reduceToNat, Bool.false_eq_true, eq_self, if_pos, if_neg, Int.natCast_zero]
    · have h2 : ¬ ((cnt (kdB (h 187 0)) S : Nat) : Int) = 0 := by omega
      have e := share_div h1 (show cnt (owB (h 187 0) hd) S ≤ 60 by omega)
      rw [Int.mul_comm] at e
      simp (disch := omega) only [x_1, x_7_2_I, x_7_2_A, x_7_2_U, x_7_3_I, x_7_3_A, x_7_3_U, x_7_4_I, x_7_4_A, x_7_4_U, x_61, x_4_4, x_6_0, x_34, x_38_187, x_65, x_79_3_12_d0, x_79_3_12_d1, x_79_3_12_d2, x_79_3_12_d3, x_79_3_12_d4, x_68, x_60, x_10_2_I, x_10_2_A, x_10_2_U, x_4_3, x_4_1, x_63, x_11, x_10_4_I, x_10_4_A, x_10_4_U, x_4_2, x_69, x_13, x_14, x_82, cb_ri, cb_rl, cb_rv, cb_th, cb_ite, ps_s, ps_n, u_232_0, u_232_32, u_232_51, u_232_52, u_232_54, u_232_60, u_232_68, u_232_74, hS, h1, h2, Int.reduceEq, Int.reduceLT, Int.reduceLE, reduceIte, Int.reduceAdd, Int.reduceSub, Int.reduceMul, Int.reduceNeg, Int.reduceToNat, Bool.false_eq_true, eq_self, if_pos, if_neg, w32_id, e]
theorem mLed_l (lv S : Nat) (n : Int) (b : Int) (h : Hp) (hS : h 187 0 12 = (S : Int)) (hS60 : S ≤ 60) : run (lv + 1) 306 42 [aA 12 0, aI n, aI b, aI 0, aI (-1), aI ((S : Int) - 1)] [] h = ri (if b = 0 then ((cnt (ntB (h 187 0) n) S : Nat) : Int) else ffst (ntB (h 187 0) n) (fun a => h 187 0 (106 + 4 * a + 2)) (-1) S 0) h := by
  have main := loop_up (F := fun i => run (lv + 1) 306 42 [aA 12 0, aI n, aI b, aI ((cntR (ntB (h 187 0) n) i (S - i) : Nat) : Int), aI (ffst (ntB (h 187 0) n) (fun a => h 187 0 (106 + 4 * a + 2)) (-1) i (S - i)), aI ((S : Int) - 1 - (i : Int))] [] h) (N := S) (r := ri (if b = 0 then ((cnt (ntB (h 187 0) n) S : Nat) : Int) else ffst (ntB (h 187 0) n) (fun a => h 187 0 (106 + 4 * a + 2)) (-1) S 0) h) ?_ ?_ 0 (by omega)
  · refine Eq.trans ?_ main
    show run _ _ _ _ _ _ = run _ _ _ _ _ _
    rw [show (S : Int) - 1 - ((0 : Nat) : Int) = (S : Int) - 1 by omega]
    rfl
  · intro i hi
    obtain ⟨j, hj⟩ : ∃ j, S - i = j + 1 := ⟨S - i - 1, by omega⟩
    have hj2 : S - (i + 1) = j := by omega
    have hz : (S : Int) - 1 - (i : Int) = (j : Int) := by omega
    have hz2 : (S : Int) - 1 - ((i + 1 : Nat) : Int) = (j : Int) - 1 := by omega
    have a1 : cl (lv + 1) 305 [aA 12 0, aI (j : Int), aI 1] h = _ := logged_c lv j 1 h (by omega) (by omega)
    have a2 : cl (lv + 1) 305 [aA 12 0, aI (j : Int), aI 2] h = _ := logged_c lv j 2 h (by omega) (by omega)
    have c1 : cntR (ntB (h 187 0) n) i (j + 1) ≤ i := by rw [cntR_cnt]; exact cnt_le _ _
    show run _ _ _ _ _ _ = run _ _ _ _ _ _
    rw [hj, hj2, hz, hz2, hd_306_42]
    by_cases h1 : h 187 0 (106 + 4 * j + 1) = n
    · have p1 : ntB (h 187 0) n j = true := by simp [ntB, h1]
      simp (disch := omega) only [x_6_0, x_4_1, x_79_2_12_d0, x_79_2_12_d1, x_79_2_12_d2, x_79_2_12_d3, x_79_2_12_d4, x_69, x_1, x_60, x_61, x_36, x_33, x_73, x_82, x_7_3_I, x_7_3_A, x_7_3_U, x_7_4_I, x_7_4_A, x_7_4_U, x_34, x_38_187, x_12, x_7_5_I, x_7_5_A, x_7_5_U, x_4_5, x_70, x_79_3_12_d0, x_79_3_12_d1, x_79_3_12_d2, x_79_3_12_d3, x_79_3_12_d4, x_62, x_10_3_I, x_10_3_A, x_10_3_U, x_10_5_I, x_10_5_A, x_10_5_U, x_4_2, x_68, x_4_4, x_4_3, cb_ri, cb_rl, cb_rv, cb_th, cb_ite, ps_s, ps_n, u_306_0, u_306_13, u_306_14, u_306_26, u_306_61, u_306_73, u_306_79, u_306_88, u_306_89, a1, a2, p1, cntR, ffst, Int.reduceEq, Int.reduceLT, Int.reduceLE, reduceIte, Int.reduceAdd, Int.reduceSub, Int.reduceMul, Int.reduceNeg, Int.reduceToNat, Bool.false_eq_true, eq_self, if_pos, if_neg, w32_id, Int.add_neg_one]
      rw [show ((cntR (ntB (h 187 0) n) i (j + 1) : Nat) : Int) + 1 = ((1 + cntR (ntB (h 187 0) n) i (j + 1) : Nat) : Int) by omega]
    · have p1 : ntB (h 187 0) n j = false := by simp [ntB, h1]
      simp (disch := omega) only [x_6_0, x_4_1, x_79_2_12_d0, x_79_2_12_d1, x_79_2_12_d2, x_79_2_12_d3, x_79_2_12_d4, x_69, x_1, x_60, x_61, x_36, x_33, x_73, x_82, x_7_3_I, x_7_3_A, x_7_3_U, x_7_4_I, x_7_4_A, x_7_4_U, x_34, x_38_187, x_12, x_7_5_I, x_7_5_A, x_7_5_U, x_4_5, x_70, x_79_3_12_d0, x_79_3_12_d1, x_79_3_12_d2, x_79_3_12_d3, x_79_3_12_d4, x_62, x_10_3_I, x_10_3_A, x_10_3_U, x_10_5_I, x_10_5_A, x_10_5_U, x_4_2, x_68, x_4_4, x_4_3, cb_ri, cb_rl, cb_rv, cb_th, cb_ite, ps_s, ps_n, u_306_0, u_306_13, u_306_14, u_306_26, u_306_61, u_306_73, u_306_79, u_306_88, u_306_89, a1, a2, p1, cntR, ffst, Int.reduceEq, Int.reduceLT, Int.reduceLE, reduceIte, Int.reduceAdd, Int.reduceSub, Int.reduceMul, Int.reduceNeg, Int.reduceToNat, Bool.false_eq_true, eq_self, if_pos, if_neg, w32_id, Nat.zero_add]
      rw [show (j : Int) + -1 = (j : Int) - 1 by omega]
  · show run _ _ _ _ _ _ = _
    rw [Nat.sub_self, show (S : Int) - 1 - (S : Int) = -1 by omega, hd_306_42]
    have e : cntR (ntB (h 187 0) n) S 0 = cnt (ntB (h 187 0) n) S := cntR_cnt _ _ _
    by_cases h1 : b = 0
    · simp (disch := omega) only [x_6_0, x_4_1, x_79_2_12_d0, x_79_2_12_d1, x_79_2_12_d2, x_79_2_12_d3, x_79_2_12_d4, x_69, x_1, x_60, x_61, x_36, x_33, x_73, x_82, x_7_3_I, x_7_3_A, x_7_3_U, x_7_4_I, x_7_4_A, x_7_4_U, x_34, x_38_187, x_12, x_7_5_I, x_7_5_A, x_7_5_U, x_4_5, x_70, x_79_3_12_d0, x_79_3_12_d1, x_79_3_12_d2, x_79_3_12_d3, x_79_3_12_d4, x_62, x_10_3_I, x_10_3_A, x_10_3_U, x_10_5_I, x_10_5_A, x_10_5_U, x_4_2, x_68, x_4_4, x_4_3, cb_ri, cb_rl, cb_rv, cb_th, cb_ite, ps_s, ps_n, u_306_0, u_306_13, u_306_14, u_306_26, u_306_61, u_306_73, u_306_79, u_306_88, u_306_89, h1, e, Int.reduceEq, Int.reduceLT, Int.reduceLE, reduceIte, Int.reduceAdd, Int.reduceSub, Int.reduceMul, Int.reduceNeg, Int.reduceToNat, Bool.false_eq_true, eq_self, if_pos, if_neg]
    · simp (disch := omega) only [x_6_0, x_4_1, x_79_2_12_d0, x_79_2_12_d1, x_79_2_12_d2, x_79_2_12_d3, x_79_2_12_d4, x_69, x_1, x_60, x_61, x_36, x_33, x_73, x_82, x_7_3_I, x_7_3_A, x_7_3_U, x_7_4_I, x_7_4_A, x_7_4_U, x_34, x_38_187, x_12, x_7_5_I, x_7_5_A, x_7_5_U, x_4_5, x_70, x_79_3_12_d0, x_79_3_12_d1, x_79_3_12_d2, x_79_3_12_d3, x_79_3_12_d4, x_62, x_10_3_I, x_10_3_A, x_10_3_U, x_10_5_I, x_10_5_A, x_10_5_U, x_4_2, x_68, x_4_4, x_4_3, cb_ri, cb_rl, cb_rv, cb_th, cb_ite, ps_s, ps_n, u_306_0, u_306_13, u_306_14, u_306_26, u_306_61, u_306_73, u_306_79, u_306_88, u_306_89, h1, e, Int.reduceEq, Int.reduceLT, Int.reduceLE, reduceIte, Int.reduceAdd, Int.reduceSub, Int.reduceMul, Int.reduceNeg, Int.reduceToNat, Bool.false_eq_true, eq_self, if_pos, if_neg]
