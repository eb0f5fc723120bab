/-! LOOKS AHEAD. -/
def plI (M : Nat → Int) (L : List LN) (H N : Nat) (dr : Bool) (k : Nat) : Nat → Int := itr (fun _ m => plM m L H N dr) M k
theorem plI_ok {M : Nat → Int} {L : List LN} {H N : Nat} {dr : Bool} (G : GM M H N) (g : GL M) (hL : LM M L) : ∀ k, GM (plI M L H N dr k) H N ∧ GL (plI M L H N dr k) ∧ LM (plI M L H N dr k) L ∧ (∀ j, 346 ≤ j → plI M L H N dr k j = M j) ∧ plI M L H N dr k 1 = M 1 ∧ plI M L H N dr k 2 = M 2 := by
  intro k
  induction k with
  | zero => exact ⟨G, g, hL, fun _ _ => rfl, rfl, rfl⟩
  | succ k ih =>
    obtain ⟨a, b, c, d, e, f⟩ := ih
    obtain ⟨p1, p2, p3, p4⟩ := pl_ok (L := L) (dr := dr) a
    have d' : ∀ j, 346 ≤ j → plM (plI M L H N dr k) L H N dr j = M j := fun j hj => by rw [p2 j hj]; exact d j hj
    refine ⟨p1, GL_pl b, ?_, d', p3.trans e, p4.trans f⟩
    show LM (plM (plI M L H N dr k) L H N dr) L
    unfold LM at hL ⊢
    rw [p3, e, p4, f, show (fun i => plM (plI M L H N dr k) L H N dr (346 + i)) = fun i => M (346 + i) from funext (fun i => d' _ (by omega))]
    exact hL
def lfS (M : Nat → Int) (L : List LN) (H N : Nat) : Nat := cnt (lfP M L H N (M 5)) N
def goS (M : Nat → Int) (L : List LN) (H N : Nat) (dr : Bool) (k : Nat) : Nat := sumN (fun i => lfS (plI M L H N dr i) L H N) k
theorem goS_b (M : Nat → Int) (L : List LN) (H : Nat) {N : Nat} (dr : Bool) (hN : N ≤ 14) (k : Nat) : goS M L H N dr k ≤ 14 * k := sumN_b (K := 14) (fun i => Nat.le_trans (cnt_le _ _) hN) k
/-- the draft is some turns ahead of a memory -/
def DrA (h q : Hp) (H N : Nat) (m : Nat → Int) : Prop := RS q 1 m H N ∧ Sm csc h q
theorem draft_c (lv H N : Nat) (h : Hp) (I : INV h H N) : ∃ h1, cl (lv + 2) 46 [aA 7 1, aA 7 0] h = rv h1 ∧ DrA h h1 H N (h 187 0) := by
  obtain ⟨h1, e1, cpy⟩ := copyFrom_c lv 0 1 h (by omega)
  exact ⟨h1, e1, RS_cp cpy I.1.1, csc_cp cpy⟩
theorem play_d (lv H N : Nat) (dr : Bool) (h q : Hp) (m : Nat → Int) (L : List LN) (W : LawW h 0 L) (D : DrA h q H N m) (G : GM m H N) : ∃ q', cl (lv + 6) 71 [aA 9 0, aA 7 1, aI (boI dr)] q = ri ((lfS m L H N : Nat) : Int) q' ∧ DrA h q' H N (plM m L H N dr) := by
  obtain ⟨q', a, b, c⟩ := playBeat_c lv 1 H N m L dr q D.1 G (LawW_e (fun tt j ht => D.2 tt 0 j (by unfold csc stTag; omega)) W)
  exact ⟨q', a, b, Sm_t D.2 (fun tt k j hf => c tt k j (by unfold csc stTag at hf; unfold pyFr stFr stTag fwFr lwFr; omega))⟩
theorem leftAhead_c (lv H N : Nat) (h : Hp) (I : INV h H N) (L : List LN) (W : LawW h 0 L) (hL : LM (h 187 0) L) : ∃ h', cl (lv + 7) 154 [aA 11 0] h = ri ((goS (h 187 0) L H N false 12 : Nat) : Int) h' ∧ Sm csc h h' := by
  have hN := I.1.2.1.2.1.2.1
  obtain ⟨h1, e1, D1⟩ := draft_c (lv + 4) H N h I
  have gb := goS_b (h 187 0) L H false hN
  have main := loop_p (S := Hp) (F := fun k (q : Hp) => run (lv + 6) 154 15 [aA 11 0, aI ((goS (h 187 0) L H N false k : Nat) : Int), aI (k : Int)] [] q)
    (I := fun k q => DrA h q H N (plI (h 187 0) L H N false k))
    (Q := fun r => ∃ h', r = ri ((goS (h 187 0) L H N false 12 : Nat) : Int) h' ∧ Sm csc h h') (N := 12) ?_ ?_ h1 D1
  · obtain ⟨h', f1, f2⟩ := main
    refine ⟨h', ?_, f2⟩
    rw [← f1, in_154]
    simp (disch := omega) only [x_6_0, x_35_1, x_35_0, x_79_2_7_d0, x_79_2_7_d1, x_79_2_7_d2, x_79_2_7_d3, x_79_2_7_d4, x_1, x_7_1_I, x_7_1_A, x_7_1_U, x_7_2_I, x_7_2_A, x_7_2_U, x_61, x_4_2, x_65, x_4_1, x_79_3_9_d0, x_79_3_9_d1, x_79_3_9_d2, x_79_3_9_d3, x_79_3_9_d4, x_11, x_10_2_I, x_10_2_A, x_10_2_U, x_60, x_82, cb_ri, cb_rl, cb_rv, cb_th, cb_ite, ps_s, ps_n, u_154_0, u_154_42, e1]
    rfl
  · intro k q hk D
    obtain ⟨q', a, b⟩ := play_d lv H N false h q _ L W D (plI_ok I.1.2.1 (RL_GL I.1.1.2.2.2) hL k).1
    have a : cl (lv + 6) 71 [aA 9 0, aA 7 1, aI 0] q = _ := a
    have g1 := gb k
    have lb : lfS (plI (h 187 0) L H N false k) L H N ≤ 14 := Nat.le_trans (cnt_le _ _) hN
    refine ⟨q', ?_, b⟩
    show run _ _ _ _ _ _ = run _ _ _ [_, aI ((goS (h 187 0) L H N false k + lfS (plI (h 187 0) L H N false k) L H N : Nat) : Int), _] _ _
    rw [hd_154_15]
    simp (disch := omega) only [x_6_0, x_35_1, x_35_0, x_79_2_7_d0, x_79_2_7_d1, x_79_2_7_d2, x_79_2_7_d3, x_79_2_7_d4, x_1, x_7_1_I, x_7_1_A, x_7_1_U, x_7_2_I, x_7_2_A, x_7_2_U, x_61, x_4_2, x_65, x_4_1, x_79_3_9_d0, x_79_3_9_d1, x_79_3_9_d2, x_79_3_9_d3, x_79_3_9_d4, x_11, x_10_2_I, x_10_2_A, x_10_2_U, x_60, x_82, cb_ri, cb_rl, cb_rv, cb_th, cb_ite, ps_s, ps_n, u_154_0, u_154_42, a, Int.reduceEq, Int.reduceLT, Int.reduceLE, reduceIte, Int.reduceAdd, Int.reduceSub, Int.reduceMul, Int.reduceNeg, Int.reduceToNat, Bool.false_eq_true, eq_self, if_pos, if_neg, ci, w32_id, Int.natCast_add]
  · intro q D
    refine ⟨q, ?_, D.2⟩
    try simp only
    rw [hd_154_15]
    simp (disch := omega) only [x_6_0, x_35_1, x_35_0, x_79_2_7_d0, x_79_2_7_d1, x_79_2_7_d2, x_79_2_7_d3, x_79_2_7_d4, x_1, x_7_1_I, x_7_1_A, x_7_1_U, x_7_2_I, x_7_2_A, x_7_2_U, x_61, x_4_2, x_65, x_4_1, x_79_3_9_d0, x_79_3_9_d1, x_79_3_9_d2, x_79_3_9_d3, x_79_3_9_d4, x_11, x_10_2_I, x_10_2_A, x_10_2_U, x_60, x_82, cb_ri, cb_rl, cb_rv, cb_th, cb_ite, ps_s, ps_n, u_154_0, u_154_42, Int.reduceEq, Int.reduceLT, Int.reduceLE, reduceIte, Int.reduceAdd, Int.reduceSub, Int.reduceMul, Int.reduceNeg, Int.reduceToNat, Bool.false_eq_true, eq_self, if_pos, if_neg]
/-! the reference's asides -/
theorem putsAside_m (lv : Nat) (h : Hp) : ∃ h', cl (lv + 1) 200 [aA 12 0] h = rv h' ∧ (∀ j, j < 346 → h' 190 0 j = h 187 0 j) ∧ ∀ tt k j, ¬ (tt = 190 ∧ k = 0) → h' tt k j = h tt k j := by
  have main := loop_p (S := Hp) (F := fun i (q : Hp) => run lv 200 2 [aA 12 0, aI (i : Int)] [] q)
    (I := fun i q => (∀ j, j < i → q 190 0 j = h 187 0 j) ∧ ∀ tt k j, ¬ (tt = 190 ∧ k = 0) → q tt k j = h tt k j)
    (Q := fun r => ∃ h', r = rv h' ∧ (∀ j, j < 346 → h' 190 0 j = h 187 0 j) ∧ ∀ tt k j, ¬ (tt = 190 ∧ k = 0) → h' tt k j = h tt k j) (N := 346) ?_ ?_ h ⟨fun j hj => by omega, fun _ _ _ _ => rfl⟩
  · rw [in_200]
    simp (disch := omega) only [x_1, x_7_1_I, x_7_1_A, x_7_1_U, x_61, x_4_1, x_65, x_6_0, x_34, x_38_187, x_38_190, x_39_187, x_39_190, x_10_1_I, x_10_1_A, x_10_1_U, x_60, x_83, u_200_0, u_200_27]
    exact main
  · rintro i q hi ⟨i1, i2⟩
    have e : q 187 0 i = h 187 0 i := i2 _ _ _ (by omega)
    refine ⟨hset q 190 0 i (h 187 0 i), ?_, fun j hj => ?_, fun tt k j hf => by rw [hs_o (by omega)]; exact i2 tt k j hf⟩
    · try simp only
      rw [hd_200_2]
      simp (disch := omega) only [x_1, x_7_1_I, x_7_1_A, x_7_1_U, x_61, x_4_1, x_65, x_6_0, x_34, x_38_187, x_38_190, x_39_187, x_39_190, x_10_1_I, x_10_1_A, x_10_1_U, x_60, x_83, u_200_0, u_200_27, tn, e, Int.reduceEq, Int.reduceLT, Int.reduceLE, reduceIte, Int.reduceAdd, Int.reduceSub, Int.reduceMul, Int.reduceNeg, Int.reduceToNat, Bool.false_eq_true, eq_self, if_pos, if_neg, ci, w32_id]
    · by_cases c : j = i
      · rw [c, hs_eq]
      · rw [hs_i c]; exact i1 j (by omega)
  · rintro q ⟨i1, i2⟩
    refine ⟨q, ?_, i1, i2⟩
    try simp only
    rw [hd_200_2]
    simp (disch := omega) only [x_1, x_7_1_I, x_7_1_A, x_7_1_U, x_61, x_4_1, x_65, x_6_0, x_34, x_38_187, x_38_190, x_39_187, x_39_190, x_10_1_I, x_10_1_A, x_10_1_U, x_60, x_83, u_200_0, u_200_27, Int.reduceEq, Int.reduceLT, Int.reduceLE, reduceIte, Int.reduceAdd, Int.reduceSub, Int.reduceMul, Int.reduceNeg, Int.reduceToNat, Bool.false_eq_true, eq_self, if_pos, if_neg]
theorem comesBack_m (lv : Nat) (M : Nat → Int) (h : Hp) (h1 : ∀ j, j < 346 → h 190 0 j = M j) (h2 : ∀ j, 346 ≤ j → h 187 0 j = M j) : ∃ h', cl (lv + 1) 201 [aA 12 0] h = rv h' ∧ h' 187 0 = M ∧ ∀ tt k j, ¬ (tt = 187 ∧ k = 0) → h' tt k j = h tt k j := by
  have main := loop_p (S := Hp) (F := fun i (q : Hp) => run lv 201 2 [aA 12 0, aI (i : Int)] [] q)
    (I := fun i q => (∀ j, j < i → q 187 0 j = M j) ∧ (∀ j, 346 ≤ j → q 187 0 j = M j) ∧ ∀ tt k j, ¬ (tt = 187 ∧ k = 0) → q tt k j = h tt k j)
    (Q := fun r => ∃ h', r = rv h' ∧ h' 187 0 = M ∧ ∀ tt k j, ¬ (tt = 187 ∧ k = 0) → h' tt k j = h tt k j) (N := 346) ?_ ?_ h ⟨fun j hj => by omega, h2, fun _ _ _ _ => rfl⟩
  · rw [in_201]
    simp (disch := omega) only [x_1, x_7_1_I, x_7_1_A, x_7_1_U, x_61, x_4_1, x_65, x_6_0, x_34, x_38_187, x_38_190, x_39_187, x_39_190, x_10_1_I, x_10_1_A, x_10_1_U, x_60, x_83, u_201_0, u_201_27]
    exact main
  · rintro i q hi ⟨i1, i3, i2⟩
    have e : q 190 0 i = M i := by rw [i2 _ _ _ (by omega)]; exact h1 i hi
    refine ⟨hset q 187 0 i (M i), ?_, fun j hj => ?_, fun j hj => by rw [hs_i (by omega)]; exact i3 j hj, fun tt k j hf => by rw [hs_o (by omega)]; exact i2 tt k j hf⟩
    · try simp only
      rw [hd_201_2]
      simp (disch := omega) only [x_1, x_7_1_I, x_7_1_A, x_7_1_U, x_61, x_4_1, x_65, x_6_0, x_34, x_38_187, x_38_190, x_39_187, x_39_190, x_10_1_I, x_10_1_A, x_10_1_U, x_60, x_83, u_201_0, u_201_27, tn, e, Int.reduceEq, Int.reduceLT, Int.reduceLE, reduceIte, Int.reduceAdd, Int.reduceSub, Int.reduceMul, Int.reduceNeg, Int.reduceToNat, Bool.false_eq_true, eq_self, if_pos, if_neg, ci, w32_id]
    · by_cases c : j = i
      · rw [c, hs_eq]
      · rw [hs_i c]; exact i1 j (by omega)
  · rintro q ⟨i1, i3, i2⟩
    refine ⟨q, ?_, funext (fun j => ?_), i2⟩
    · try simp only
      rw [hd_201_2]
      simp (disch := omega) only [x_1, x_7_1_I, x_7_1_A, x_7_1_U, x_61, x_4_1, x_65, x_6_0, x_34, x_38_187, x_38_190, x_39_187, x_39_190, x_10_1_I, x_10_1_A, x_10_1_U, x_60, x_83, u_201_0, u_201_27, Int.reduceEq, Int.reduceLT, Int.reduceLE, reduceIte, Int.reduceAdd, Int.reduceSub, Int.reduceMul, Int.reduceNeg, Int.reduceToNat, Bool.false_eq_true, eq_self, if_pos, if_neg]
    · by_cases c : j < 346
      · exact i1 j c
      · exact i3 j (by omega)
theorem goes_m (lv H N n : Nat) (dr : Bool) (h : Hp) (L : List LN) (hL : LM (h 187 0) L) (G : GM (h 187 0) H N) (g12 : GL (h 187 0)) (hW : ∀ x ∈ L, LnG x) (hl : L.length ≤ 12) (ha : h 206 0 0 = -1) (hn : n ≤ 1000) :
    ∃ h', cl (lv + 39) 230 [aA 12 0, aI (n : Int), aI (boI dr)] h = ri ((goS (h 187 0) L H N dr n : Nat) : Int) h' ∧ h' 187 0 = plI (h 187 0) L H N dr n ∧ ∀ tt k j, ¬ tuFr tt k → h' tt k j = h tt k j := by
  have hN := G.2.1.2.1
  have gb := goS_b (h 187 0) L H dr hN
  have main := loop_p (S := Hp) (F := fun k (q : Hp) => run (lv + 38) 230 5 [aA 12 0, aI (n : Int), aI (boI dr), aI ((goS (h 187 0) L H N dr k : Nat) : Int), aI (k : Int)] [] q)
    (I := fun k q => q 187 0 = plI (h 187 0) L H N dr k ∧ ∀ tt k j, ¬ tuFr tt k → q tt k j = h tt k j)
    (Q := fun r => ∃ h', r = ri ((goS (h 187 0) L H N dr n : Nat) : Int) h' ∧ h' 187 0 = plI (h 187 0) L H N dr n ∧ ∀ tt k j, ¬ tuFr tt k → h' tt k j = h tt k j) (N := n) ?_ ?_ h ⟨rfl, fun _ _ _ _ => rfl⟩
  · rw [in_230]
    simp (disch := omega) only [x_1, x_7_3_I, x_7_3_A, x_7_3_U, x_7_4_I, x_7_4_A, x_7_4_U, x_61, x_4_4, x_4_1, x_65, x_4_3, x_6_0, x_4_2, x_79_2_12_d0, x_79_2_12_d1, x_79_2_12_d2, x_79_2_12_d3, x_79_2_12_d4, x_11, x_10_4_I, x_10_4_A, x_10_4_U, x_60, x_82, cb_ri, cb_rl, cb_rv, cb_th, cb_ite, ps_s, ps_n, u_230_0, u_230_25]
    exact main
  · rintro k q hk ⟨i1, i2⟩
    obtain ⟨o1, o2, o3, -⟩ := plI_ok (dr := dr) G g12 hL k
    obtain ⟨q', t1, t2, t3⟩ := turns_m lv H N dr q L (by rw [i1]; exact o3) (by rw [i1]; exact o1) (by rw [i1]; exact o2) hW hl (by rw [i2 _ _ _ (by unfold tuFr wiFr loFr mbFr maFr woFr crFr; omega)]; exact ha)
    rw [i1] at t1 t2
    have t1 : _ = ri ((lfS (plI (h 187 0) L H N dr k) L H N : Nat) : Int) q' := t1
    have g1 := gb k
    have lb : lfS (plI (h 187 0) L H N dr k) L H N ≤ 14 := Nat.le_trans (cnt_le _ _) hN
    refine ⟨q', ?_, t2, fun tt k j hf => by rw [t3 tt k j hf]; exact i2 tt k j hf⟩
    show run _ _ _ _ _ _ = run _ _ _ [_, _, _, aI ((goS (h 187 0) L H N dr k + lfS (plI (h 187 0) L H N dr k) L H N : Nat) : Int), _] _ _
    rw [hd_230_5]
    simp (disch := omega) only [x_1, x_7_3_I, x_7_3_A, x_7_3_U, x_7_4_I, x_7_4_A, x_7_4_U, x_61, x_4_4, x_4_1, x_65, x_4_3, x_6_0, x_4_2, x_79_2_12_d0, x_79_2_12_d1, x_79_2_12_d2, x_79_2_12_d3, x_79_2_12_d4, x_11, x_10_4_I, x_10_4_A, x_10_4_U, x_60, x_82, cb_ri, cb_rl, cb_rv, cb_th, cb_ite, ps_s, ps_n, u_230_0, u_230_25, t1, Int.reduceEq, Int.reduceLT, Int.reduceLE, reduceIte, Int.reduceAdd, Int.reduceSub, Int.reduceMul, Int.reduceNeg, Int.reduceToNat, Bool.false_eq_true, eq_self, if_pos, if_neg, ci, w32_id, Int.natCast_add]
  · rintro q ⟨i1, i2⟩
    refine ⟨q, ?_, i1, i2⟩
    try simp only
    rw [hd_230_5]
    simp (disch := omega) only [x_1, x_7_3_I, x_7_3_A, x_7_3_U, x_7_4_I, x_7_4_A, x_7_4_U, x_61, x_4_4, x_4_1, x_65, x_4_3, x_6_0, x_4_2, x_79_2_12_d0, x_79_2_12_d1, x_79_2_12_d2, x_79_2_12_d3, x_79_2_12_d4, x_11, x_10_4_I, x_10_4_A, x_10_4_U, x_60, x_82, cb_ri, cb_rl, cb_rv, cb_th, cb_ite, ps_s, ps_n, u_230_0, u_230_25, Int.reduceEq, Int.reduceLT, Int.reduceLE, reduceIte, Int.reduceAdd, Int.reduceSub, Int.reduceMul, Int.reduceNeg, Int.reduceToNat, Bool.false_eq_true, eq_self, if_pos, if_neg]
/-- what is needed of the reference before it looks ahead -/
def Rdy (g : Hp) (M : Nat → Int) (L : List LN) (H N : Nat) : Prop := g 187 0 = M ∧ GM M H N ∧ GL M ∧ LM M L ∧ (∀ x ∈ L, LnG x) ∧ L.length ≤ 12 ∧ g 206 0 0 = -1
theorem rdy_of {h g : Hp} {H N : Nat} {L : List LN} (v : Int) (I : INV h H N) (s : Sm scr h g) (J : INV g H N) (hL : LM (h 187 0) L) (hW : ∀ x ∈ L, LnG x) (hl : L.length ≤ 12) : Rdy (hset g 186 0 0 v) (h 187 0) L H N := ⟨by rw [h186_m, Sm_187 s scr_187], I.1.2.1, RL_GL I.1.1.2.2.2, hL, hW, hl, (INV_186 v J).2.2.2.2.2⟩
theorem rsc_tu {g g' : Hp} (e : ∀ tt k j, ¬ tuFr tt k → g' tt k j = g tt k j) : ∀ tt k j, ¬ rsc tt k → ¬ (tt = 187 ∧ k = 0) → g' tt k j = g tt k j := fun tt k j hf h7 => e tt k j (by unfold rsc at hf; unfold tuFr wiFr loFr mbFr maFr woFr crFr; omega)
/-- aside, turns, and back again -/
theorem aside_go (lv H N n : Nat) (dr : Bool) (g : Hp) (M : Nat → Int) (L : List LN) (R : Rdy g M L H N) (hn : n ≤ 1000) : ∃ g1 g2 g3, cl (lv + 39) 200 [aA 12 0] g = rv g1 ∧ cl (lv + 39) 230 [aA 12 0, aI (n : Int), aI (boI dr)] g1 = ri ((goS M L H N dr n : Nat) : Int) g2 ∧ g2 187 0 = plI M L H N dr n ∧ cl (lv + 39) 201 [aA 12 0] g2 = rv g3 ∧ Sm rsc g g3 ∧ g3 186 0 0 = g 186 0 0 := by
  obtain ⟨r1, r2, r3, r4, r5, r6, r7⟩ := R
  obtain ⟨g1, a1, a2, a3⟩ := putsAside_m (lv + 38) g
  have k7 : g1 187 0 = M := by rw [← r1]; funext j; exact a3 _ _ _ (by omega)
  obtain ⟨g2, b1, b2, b3⟩ := goes_m lv H N n dr g1 L (by rw [k7]; exact r4) (by rw [k7]; exact r2) (by rw [k7]; exact r3) r5 r6 (by rw [a3 _ _ _ (by omega)]; exact r7) hn
  rw [k7] at b1 b2
  obtain ⟨-, -, -, o4, -⟩ := plI_ok (dr := dr) r2 r3 r4 n
  obtain ⟨g3, c1, c2, c3⟩ := comesBack_m (lv + 38) M g2 (fun j hj => by rw [b3 _ _ _ (by unfold tuFr wiFr loFr mbFr maFr woFr crFr; omega), a2 j hj, r1]) (fun j hj => by rw [b2]; exact o4 j hj)
  refine ⟨g1, g2, g3, a1, b1, b2, c1, fun tt k j hf => ?_, ?_⟩
  · by_cases e : tt = 187 ∧ k = 0
    · rw [e.1, e.2, c2, r1]
    · rw [c3 tt k j e, rsc_tu b3 tt k j hf e, a3 tt k j (by unfold rsc at hf; omega)]
  · rw [c3 _ _ _ (by omega), b3 _ _ _ (by unfold tuFr wiFr loFr mbFr maFr woFr crFr; omega), a3 _ _ _ (by omega)]
theorem ag_part (lc lr H N : Nat) (h : Hp) (I : INV h H N) : AGp (fun h => cl (lc + 80) 107 [aA 11 0] h) (fun h => cl (lr + 80) 256 [aA 12 0] h) h := by
  obtain ⟨L, W, hL, hW, hl⟩ := INV_law I
  refine AGp_q I (v := ((goS (h 187 0) L H N false 12 : Nat) : Int)) ?_ (fun g s J => ?_)
  · obtain ⟨h1, a1, a2⟩ := leftAhead_c (lc + 72) H N h I L W hL
    refine ⟨h1, ?_, a2⟩
    show cl (lc + 80) _ _ _ = _
    rw [in_107]
    simp (disch := omega) only [x_6_0, x_79_1_11_d0, x_79_1_11_d1, x_79_1_11_d2, x_79_1_11_d3, x_79_1_11_d4, x_82, cb_ri, cb_rl, cb_rv, cb_th, cb_ite, ps_s, ps_n, u_107_0, a1]
  · obtain ⟨g1, g2, g3, b1, b2, -, b4, b5, -⟩ := aside_go (lr + 39) H N 12 false (hset g 186 0 0 0) (h 187 0) L (rdy_of 0 I s J hL hW hl) (by omega)
    have b2 : cl (lr + 78) 230 [aA 12 0, aI 12, aI 0] g1 = _ := b2
    have pf : cl (lr + 79) 255 [aA 12 0] (hset g 186 0 0 0) = ri ((goS (h 187 0) L H N false 12 : Nat) : Int) g3 := by
      rw [in_255]
      simp (disch := omega) only [x_6_0, x_79_1_12_d0, x_79_1_12_d1, x_79_1_12_d2, x_79_1_12_d3, x_79_1_12_d4, x_1, x_79_3_12_d0, x_79_3_12_d1, x_79_3_12_d2, x_79_3_12_d3, x_79_3_12_d4, x_7_1_I, x_7_1_A, x_7_1_U, x_4_1, x_82, cb_ri, cb_rl, cb_rv, cb_th, cb_ite, ps_s, ps_n, u_255_0, b1, b2, b4]
    refine ⟨g3, ?_, Sm_t (rsc_186 g 0) b5⟩
    show cl (lr + 80) _ _ _ = _
    rw [in_256]
    simp (disch := omega) only [x_6_0, x_1, x_36, x_79_1_12_d0, x_79_1_12_d1, x_79_1_12_d2, x_79_1_12_d3, x_79_1_12_d4, x_82, cb_ri, cb_rl, cb_rv, cb_th, cb_ite, ps_s, ps_n, u_256_0, pf]
theorem ag_easy (lc lr H N : Nat) (h : Hp) (I : INV h H N) : AGp (fun h => cl (lc + 80) 108 [aA 11 0] h) (fun h => cl (lr + 80) 257 [aA 12 0] h) h := by
  obtain ⟨L, W, hL, hW, hl⟩ := INV_law I
  refine AGp_q I (v := if ((goS (h 187 0) L H N false 12 : Nat) : Int) = 0 then 1 else 0) ?_ (fun g s J => ?_)
  · obtain ⟨h1, a1, a2⟩ := leftAhead_c (lc + 72) H N h I L W hL
    refine ⟨h1, ?_, a2⟩
    show cl (lc + 80) _ _ _ = _
    rw [in_108]
    by_cases c : ((goS (h 187 0) L H N false 12 : Nat) : Int) = 0
    · simp (disch := omega) only [x_6_0, x_79_1_11_d0, x_79_1_11_d1, x_79_1_11_d2, x_79_1_11_d3, x_79_1_11_d4, x_69, x_1, x_60, x_61, x_85, cb_ri, cb_rl, cb_rv, cb_th, cb_ite, ps_s, ps_n, u_108_0, u_108_11, u_108_12, a1, c, Int.reduceEq, Int.reduceLT, Int.reduceLE, reduceIte, Int.reduceAdd, Int.reduceSub, Int.reduceMul, Int.reduceNeg, Int.reduceToNat, Bool.false_eq_true, eq_self, if_pos, if_neg]
    · simp (disch := omega) only [x_6_0, x_79_1_11_d0, x_79_1_11_d1, x_79_1_11_d2, x_79_1_11_d3, x_79_1_11_d4, x_69, x_1, x_60, x_61, x_85, cb_ri, cb_rl, cb_rv, cb_th, cb_ite, ps_s, ps_n, u_108_0, u_108_11, u_108_12, a1, c, Int.reduceEq, Int.reduceLT, Int.reduceLE, reduceIte, Int.reduceAdd, Int.reduceSub, Int.reduceMul, Int.reduceNeg, Int.reduceToNat, Bool.false_eq_true, eq_self, if_pos, if_neg]
  · obtain ⟨g1, g2, g3, b1, b2, -, b4, b5, -⟩ := aside_go (lr + 39) H N 12 false (hset g 186 0 0 0) (h 187 0) L (rdy_of 0 I s J hL hW hl) (by omega)
    have b2 : cl (lr + 78) 230 [aA 12 0, aI 12, aI 0] g1 = _ := b2
    have pf : cl (lr + 79) 255 [aA 12 0] (hset g 186 0 0 0) = ri ((goS (h 187 0) L H N false 12 : Nat) : Int) g3 := by
      rw [in_255]
      simp (disch := omega) only [x_6_0, x_79_1_12_d0, x_79_1_12_d1, x_79_1_12_d2, x_79_1_12_d3, x_79_1_12_d4, x_1, x_79_3_12_d0, x_79_3_12_d1, x_79_3_12_d2, x_79_3_12_d3, x_79_3_12_d4, x_7_1_I, x_7_1_A, x_7_1_U, x_4_1, x_82, cb_ri, cb_rl, cb_rv, cb_th, cb_ite, ps_s, ps_n, u_255_0, b1, b2, b4]
    refine ⟨g3, ?_, Sm_t (rsc_186 g 0) b5⟩
    show cl (lr + 80) _ _ _ = _
    rw [in_257]
    by_cases c : ((goS (h 187 0) L H N false 12 : Nat) : Int) = 0
    · simp (disch := omega) only [x_6_0, x_1, x_36, x_79_1_12_d0, x_79_1_12_d1, x_79_1_12_d2, x_79_1_12_d3, x_79_1_12_d4, x_69, x_60, x_61, x_85, cb_ri, cb_rl, cb_rv, cb_th, cb_ite, ps_s, ps_n, u_257_0, u_257_16, u_257_17, pf, c, Int.reduceEq, Int.reduceLT, Int.reduceLE, reduceIte, Int.reduceAdd, Int.reduceSub, Int.reduceMul, Int.reduceNeg, Int.reduceToNat, Bool.false_eq_true, eq_self, if_pos, if_neg]
    · simp (disch := omega) only [x_6_0, x_1, x_36, x_79_1_12_d0, x_79_1_12_d1, x_79_1_12_d2, x_79_1_12_d3, x_79_1_12_d4, x_69, x_60, x_61, x_85, cb_ri, cb_rl, cb_rv, cb_th, cb_ite, ps_s, ps_n, u_257_0, u_257_16, u_257_17, pf, c, Int.reduceEq, Int.reduceLT, Int.reduceLE, reduceIte, Int.reduceAdd, Int.reduceSub, Int.reduceMul, Int.reduceNeg, Int.reduceToNat, Bool.false_eq_true, eq_self, if_pos, if_neg]
