/-! SINGLE ACTS. -/
theorem AGt_set {T : Nat → Nat} {C R : Hp → Option Rs} {h : Hp} {H N H' N' lc lr : Nat} (I : INV h H N) (i : Nat) (x v : Int) (hi : i < 346) (i1 : i ≠ 1) (i2 : i ≠ 2) (G : GM (upM (h 187 0) i x) H' N')
    (c : ∀ hr, cl (lc + 79) 37 [aA 5 0, aA 7 0] h = rv hr → RS hr 0 (h 187 0) H N → ∃ h1, C h = ri v h1 ∧ (∀ tt k j, ¬ stFr 0 tt k → h1 tt k j = hr tt k j) ∧ RS h1 0 (upM (h 187 0) i x) H' N')
    (r : ∀ g g', g 187 0 = h 187 0 → cl (lr + 79) 240 [aA 12 0, aI (i : Int), aI x] (hset g 186 0 0 0) = ri (h 187 0 i) g' → g' 186 0 0 = 0 → R g = ri v g') : AGt T C R h := by
  obtain ⟨⟨r1, r2, r3⟩, tp, im, ⟨S, nw, p1, p2, p3, p4, p5, p6⟩, f, ad⟩ := I
  have I : INV h H N := ⟨⟨r1, r2, r3⟩, tp, im, ⟨S, nw, p1, p2, p3, p4, p5, p6⟩, f, ad⟩
  obtain ⟨hr, k1, k2, k3, k4, k5, k6⟩ := remember_c (lc + 76) H N S nw h (h 187 0) r1 p1 p3 p4 p5
  obtain ⟨h1, c1, c2, c3⟩ := c hr k1 k5
  have n0 : ∀ tt k, k = 3 + (nw + 1) % 12 ∨ tt = 125 ∨ tt = 126 → ¬ stFr 0 tt k := fun tt k ht => by unfold stFr stTag; omega
  -- the same state, seen by the reference
  have tot : ∀ tt k j, ¬ (stFr 0 tt k ∨ reFr nw tt k ∨ csc tt k) → h1 tt k j = h tt k j := fun tt k j hf => by
    rw [c2 tt k j (fun z => hf (Or.inl z))]; exact k6 tt k j (fun z => hf (Or.inr (Or.inl z)))
  let g : Hp := hset (hset h1 25 0 0 v) 186 0 0 0
  have s : Sm (fun tt k => rsc tt k ∨ (tt = 25 ∧ k = 0)) h1 g := fun tt k j hf => by
    have n1 : ¬ rsc tt k := fun z => hf (Or.inl z)
    have n2 : ¬ (tt = 25 ∧ k = 0) := fun z => hf (Or.inr z)
    unfold rsc at n1
    show hset (hset h1 25 0 0 v) 186 0 0 0 tt k j = _
    rw [hs_o (by omega), hs_o (by omega)]
  have o1 : ∀ tt j, 187 ≤ tt → h1 tt 0 j = h tt 0 j := fun tt j ht => tot tt 0 j (by unfold reFr stFr csc stTag; omega)
  have g192 : g 192 0 0 = (S : Int) := by rw [s _ _ _ (by unfold rsc; omega), o1 _ _ (by omega)]; exact p2
  have g7 : g 187 0 = h 187 0 := funext (fun j => by rw [s _ _ _ (by unfold rsc; omega), o1 _ _ (by omega)])
  obtain ⟨g', b1, b2, b3, b4, b5⟩ := sets_m (lr + 77) S i x g g192 p3 hi
  rw [g7] at b1
  have z6 : hset g' 187 0 i x 186 0 0 = 0 := by rw [hs_t (by omega), b5 _ _ _ (by omega)]; exact hs_eq _ _ _ _ _
  have z7 : hset g' 187 0 i x 187 0 = upM (h 187 0) i x := by
    rw [hs_187]; congr 1; rw [← g7]; funext j; exact b5 _ _ _ (by omega)
  have K2 : h1 125 0 0 = (((nw + 1) % 12 : Nat) : Int) := by rw [c2 _ _ _ (n0 _ _ (by omega))]; exact k2
  have K3 : h1 126 0 0 = ((min 12 (S + 1) : Nat) : Int) := by rw [c2 _ _ _ (n0 _ _ (by omega))]; exact k3
  have K4 : RS h1 (3 + (nw + 1) % 12) (h 187 0) H N := RS_e (fun t i _ => c2 t _ i (n0 _ _ (Or.inl rfl))) k4
  obtain ⟨j1, j2, j3⟩ := AG_act (h2 := hset g' 187 0 i x) (H' := H') (N' := N') I p1 p4 tot K2 K3 K4 s b2 b3 b4 b5 (fun tt k j hf => hs_o (by omega)) (by rw [z7]; exact c3) (by rw [z7]; exact G) (fun j hj => by rw [z7, up_ne (by omega)])
  exact Or.inl ⟨v, h1, c1, _, r (hset h1 25 0 0 v) _ (by rw [← g7]; funext j; exact (hs_t (by omega)).symm) b1 z6, z6, by rw [hs_t (by omega), b5 _ _ _ (by omega)]; show hset (hset h1 25 0 0 v) 186 0 0 0 25 0 0 = v; rw [hs_t (by omega), hs_eq], j1, j2, j3⟩
/-! answers that are booleans -/
def isB (C : Hp → Option Rs) (h : Hp) : Prop := ∀ v h1, C h = ri v h1 → v = 0 ∨ v = 1
theorem isB_q {C : Hp → Option Rs} {h : Hp} {v : Int} (hv : v = 0 ∨ v = 1) (c : ∃ h1, C h = ri v h1) : isB C h := fun w h2 e => by
  obtain ⟨h1, c⟩ := c
  rw [c] at e
  have : v = w := by
    unfold ri aI at e
    simp at e
    exact e.1
  rw [← this]; exact hv
theorem isB_e {C : Hp → Option Rs} {h : Hp} {e : Nat} (c : ∃ h1, C h = th e h1) : isB C h := fun w h2 e' => by
  obtain ⟨h1, c⟩ := c
  rw [c] at e'
  simp [ri, th] at e'
theorem isB_set {C : Hp → Option Rs} {h : Hp} {H N lc : Nat} (I : INV h H N) {v : Int} (hv : v = 0 ∨ v = 1)
    (c : ∀ hr, cl (lc + 79) 37 [aA 5 0, aA 7 0] h = rv hr → RS hr 0 (h 187 0) H N → ∃ h1, C h = ri v h1) : isB C h := by
  obtain ⟨⟨r1, r2, r3⟩, tp, im, ⟨S, nw, p1, p2, p3, p4, p5, p6⟩, f, ad⟩ := I
  obtain ⟨hr, k1, k2, k3, k4, k5, k6⟩ := remember_c (lc + 76) H N S nw h (h 187 0) r1 p1 p3 p4 p5
  exact isB_q hv (c hr k1 k5)
def AGb (T : Nat → Nat) (C R : Hp → Option Rs) (h : Hp) : Prop := AGt T C R h ∧ isB C h
theorem AGb_e {T : Nat → Nat} {C R : Hp → Option Rs} {h : Hp} {H N : Nat} (I : INV h H N) (e : Nat) (hT : 0 < T e) (c : ∃ h1, C h = th e h1 ∧ Sm csc h h1) (r : ∀ g, Sm scr h g → INV g H N → ∃ b h2, R g = ri b h2 ∧ h2 186 0 0 = (T e : Int) ∧ Sm rsc g h2) : AGb T C R h :=
  ⟨AGt_e I e hT c r, isB_e (let ⟨h1, x, _⟩ := c; ⟨h1, x⟩)⟩
theorem AGb_set {T : Nat → Nat} {C R : Hp → Option Rs} {h : Hp} {H N H' N' lc lr : Nat} (I : INV h H N) (i : Nat) (x v : Int) (hv : v = 0 ∨ v = 1) (hi : i < 346) (i1 : i ≠ 1) (i2 : i ≠ 2) (G : GM (upM (h 187 0) i x) H' N')
    (c : ∀ hr, cl (lc + 79) 37 [aA 5 0, aA 7 0] h = rv hr → RS hr 0 (h 187 0) H N → ∃ h1, C h = ri v h1 ∧ (∀ tt k j, ¬ stFr 0 tt k → h1 tt k j = hr tt k j) ∧ RS h1 0 (upM (h 187 0) i x) H' N')
    (r : ∀ g g', g 187 0 = h 187 0 → cl (lr + 79) 240 [aA 12 0, aI (i : Int), aI x] (hset g 186 0 0 0) = ri (h 187 0 i) g' → g' 186 0 0 = 0 → R g = ri v g') : AGb T C R h :=
  ⟨AGt_set I i x v hi i1 i2 G c r, isB_set I hv (fun hr k1 R => let ⟨h1, x, _⟩ := c hr k1 R; ⟨h1, x⟩)⟩
theorem T2 : 0 < t2 2 := by decide
theorem ag_put (lc lr H N : Nat) (p w : Int) (h : Hp) (I : INV h H N) : AGt t2 (fun h => cl (lc + 80) 94 [aA 11 0, aI p, aI w] h) (fun h => cl (lr + 80) 241 [aA 12 0, aI p, aI w] h) h := by
  have hH := I.1.2.1.1.2.1
  have cp := checkHand_c (lc + 78) H p h I.1.1.1.1
  by_cases c : 0 ≤ p ∧ p < H
  · rw [if_pos c] at cp
    by_cases d : 0 ≤ w ∧ w ≤ 63
    · obtain ⟨x, rfl⟩ := Int.eq_ofNat_of_zero_le c.1
      have hx : x < H := by omega
      refine AGt_set (lc := lc) (lr := lr) (H' := H) (N' := N) I (14 + 6 * x + 1) w (h 187 0 (14 + 6 * x + 1)) (by omega) (by omega) (by omega) (GM_at hx d I.1.2.1) (fun hr k1 R => ?_) (fun g g' g7 b1 z6 => ?_)
      · have e : hr 130 0 x = h 187 0 (14 + 6 * x + 1) := (R.1.2.2.2 x hx).2.1
        refine ⟨hset hr 130 0 x w, ?_, fun tt k j hf => hs_o (by unfold stFr stTag at hf; omega), RS_hd (f := 1) w (by omega) hx R⟩
        show cl (lc + 80) _ _ _ = _
        rw [in_94]
        simp (disch := omega) only [x_6_0, x_4_1, x_79_2_11_d0, x_79_2_11_d1, x_79_2_11_d2, x_79_2_11_d3, x_79_2_11_d4, x_4_2, x_70, x_1, x_64, x_61, x_84, x_35_0, x_79_2_5_d0, x_79_2_5_d1, x_79_2_5_d2, x_79_2_5_d3, x_79_2_5_d4, x_34, x_38_130, x_7_3_I, x_7_3_A, x_7_3_U, x_39_130, x_4_3, x_82, cb_ri, cb_rl, cb_rv, cb_th, cb_ite, ps_s, ps_n, u_94_0, u_94_15, u_94_25, cp, k1, tn, e, Int.reduceEq, Int.reduceLT, Int.reduceLE, reduceIte, Int.reduceAdd, Int.reduceSub, Int.reduceMul, Int.reduceNeg, Int.reduceToNat, Bool.false_eq_true, eq_self, if_pos, if_neg]
      · have ih := isHand_c (lr + 77) H (x : Int) g (by rw [g7]; exact I.1.2.1.1.1) hH
        rw [if_pos c] at ih
        have ii := isIn_c (lr + 78) w 0 63 g
        rw [if_pos d] at ii
        have e : ((14 : Int) + 6 * (x : Int) + 1) = ((14 + 6 * x + 1 : Nat) : Int) := by omega
        show cl (lr + 80) _ _ _ = _
        rw [in_241]
        simp (disch := omega) only [x_6_0, x_4_1, x_79_2_12_d0, x_79_2_12_d1, x_79_2_12_d2, x_79_2_12_d3, x_79_2_12_d4, x_68, x_4_2, x_1, x_80_3_d0, x_80_3_d1, x_80_3_d2, x_80_3_d3, x_80_3_d4, x_69, x_61, x_60, x_36, x_33, x_73, x_13, x_11, x_79_3_12_d0, x_79_3_12_d1, x_79_3_12_d2, x_79_3_12_d3, x_79_3_12_d4, x_82, cb_ri, cb_rl, cb_rv, cb_th, cb_ite, ps_s, ps_n, u_241_0, u_241_19, u_241_23, u_241_24, u_241_38, u_241_52, ih, ii, hs_eq, e, b1, Int.reduceEq, Int.reduceLT, Int.reduceLE, reduceIte, Int.reduceAdd, Int.reduceSub, Int.reduceMul, Int.reduceNeg, Int.reduceToNat, Bool.false_eq_true, eq_self, if_pos, if_neg, w32_id]
    · refine AGt_e I 2 (by decide) ⟨h, ?_, Sm_r _ _⟩ (fun g s J => ⟨0, hset g 186 0 0 1, ?_, hs_eq _ _ _ _ _, rsc_186 g 1⟩)
      · show cl (lc + 80) _ _ _ = _
        rw [in_94]
        by_cases d1 : w < 0
        · simp (disch := omega) only [x_6_0, x_4_1, x_79_2_11_d0, x_79_2_11_d1, x_79_2_11_d2, x_79_2_11_d3, x_79_2_11_d4, x_4_2, x_70, x_1, x_64, x_61, x_84, x_35_0, x_79_2_5_d0, x_79_2_5_d1, x_79_2_5_d2, x_79_2_5_d3, x_79_2_5_d4, x_34, x_38_130, x_7_3_I, x_7_3_A, x_7_3_U, x_39_130, x_4_3, x_82, cb_ri, cb_rl, cb_rv, cb_th, cb_ite, ps_s, ps_n, u_94_0, u_94_15, u_94_25, cp, Int.reduceEq, Int.reduceLT, Int.reduceLE, reduceIte, Int.reduceAdd, Int.reduceSub, Int.reduceMul, Int.reduceNeg, Int.reduceToNat, Bool.false_eq_true, eq_self, if_pos, if_neg]
        · simp (disch := omega) only [x_6_0, x_4_1, x_79_2_11_d0, x_79_2_11_d1, x_79_2_11_d2, x_79_2_11_d3, x_79_2_11_d4, x_4_2, x_70, x_1, x_64, x_61, x_84, x_35_0, x_79_2_5_d0, x_79_2_5_d1, x_79_2_5_d2, x_79_2_5_d3, x_79_2_5_d4, x_34, x_38_130, x_7_3_I, x_7_3_A, x_7_3_U, x_39_130, x_4_3, x_82, cb_ri, cb_rl, cb_rv, cb_th, cb_ite, ps_s, ps_n, u_94_0, u_94_15, u_94_25, cp, Int.reduceEq, Int.reduceLT, Int.reduceLE, reduceIte, Int.reduceAdd, Int.reduceSub, Int.reduceMul, Int.reduceNeg, Int.reduceToNat, Bool.false_eq_true, eq_self, if_pos, if_neg]
      · have ih := inH J (lr + 77) p
        rw [if_pos c] at ih
        have ii := isIn_c (lr + 78) w 0 63 g
        rw [if_neg d] at ii
        show cl (lr + 80) _ _ _ = _
        rw [in_241]
        simp (disch := omega) only [x_6_0, x_4_1, x_79_2_12_d0, x_79_2_12_d1, x_79_2_12_d2, x_79_2_12_d3, x_79_2_12_d4, x_68, x_4_2, x_1, x_80_3_d0, x_80_3_d1, x_80_3_d2, x_80_3_d3, x_80_3_d4, x_69, x_61, x_60, x_36, x_33, x_73, x_13, x_11, x_79_3_12_d0, x_79_3_12_d1, x_79_3_12_d2, x_79_3_12_d3, x_79_3_12_d4, x_82, cb_ri, cb_rl, cb_rv, cb_th, cb_ite, ps_s, ps_n, u_241_0, u_241_19, u_241_23, u_241_24, u_241_38, u_241_52, ih, ii, hs_eq, Int.reduceEq, Int.reduceLT, Int.reduceLE, reduceIte, Int.reduceAdd, Int.reduceSub, Int.reduceMul, Int.reduceNeg, Int.reduceToNat, Bool.false_eq_true, eq_self, if_pos, if_neg]
  · rw [if_neg c] at cp
    refine AGt_e I 2 (by decide) ⟨h, ?_, Sm_r _ _⟩ (fun g s J => ⟨0, hset g 186 0 0 1, ?_, hs_eq _ _ _ _ _, rsc_186 g 1⟩)
    · show cl (lc + 80) _ _ _ = _
      rw [in_94]
      simp (disch := omega) only [x_6_0, x_4_1, x_79_2_11_d0, x_79_2_11_d1, x_79_2_11_d2, x_79_2_11_d3, x_79_2_11_d4, x_4_2, x_70, x_1, x_64, x_61, x_84, x_35_0, x_79_2_5_d0, x_79_2_5_d1, x_79_2_5_d2, x_79_2_5_d3, x_79_2_5_d4, x_34, x_38_130, x_7_3_I, x_7_3_A, x_7_3_U, x_39_130, x_4_3, x_82, cb_ri, cb_rl, cb_rv, cb_th, cb_ite, ps_s, ps_n, u_94_0, u_94_15, u_94_25, cp]
    · have ih := inH J (lr + 77) p
      rw [if_neg c] at ih
      show cl (lr + 80) _ _ _ = _
      rw [in_241]
      simp (disch := omega) only [x_6_0, x_4_1, x_79_2_12_d0, x_79_2_12_d1, x_79_2_12_d2, x_79_2_12_d3, x_79_2_12_d4, x_68, x_4_2, x_1, x_80_3_d0, x_80_3_d1, x_80_3_d2, x_80_3_d3, x_80_3_d4, x_69, x_61, x_60, x_36, x_33, x_73, x_13, x_11, x_79_3_12_d0, x_79_3_12_d1, x_79_3_12_d2, x_79_3_12_d3, x_79_3_12_d4, x_82, cb_ri, cb_rl, cb_rv, cb_th, cb_ite, ps_s, ps_n, u_241_0, u_241_19, u_241_23, u_241_24, u_241_38, u_241_52, ih, hs_eq, Int.reduceEq, Int.reduceLT, Int.reduceLE, reduceIte, Int.reduceAdd, Int.reduceSub, Int.reduceMul, Int.reduceNeg, Int.reduceToNat, Bool.false_eq_true, eq_self, if_pos, if_neg]
theorem ag_rest (lc lr H N : Nat) (p : Int) (h : Hp) (I : INV h H N) : AGt t2 (fun h => cl (lc + 80) 95 [aA 11 0, aI p] h) (fun h => cl (lr + 80) 242 [aA 12 0, aI p] h) h := by
  have hH := I.1.2.1.1.2.1
  have cp := checkHand_c (lc + 78) H p h I.1.1.1.1
  by_cases c : 0 ≤ p ∧ p < H
  · rw [if_pos c] at cp
    obtain ⟨x, rfl⟩ := Int.eq_ofNat_of_zero_le c.1
    have hx : x < H := by omega
    refine AGt_set (lc := lc) (lr := lr) (H' := H) (N' := N) I (14 + 6 * x + 4) 0 (h 187 0 (14 + 6 * x + 4)) (by omega) (by omega) (by omega) (GM_ti hx (by omega) I.1.2.1) (fun hr k1 R => ?_) (fun g g' g7 b1 z6 => ?_)
    · have e : hr 133 0 x = h 187 0 (14 + 6 * x + 4) := (R.1.2.2.2 x hx).2.2.2.2
      refine ⟨hset hr 133 0 x 0, ?_, fun tt k j hf => hs_o (by unfold stFr stTag at hf; omega), RS_hd (f := 4) 0 (by omega) hx R⟩
      show cl (lc + 80) _ _ _ = _
      rw [in_95]
      simp (disch := omega) only [x_6_0, x_4_1, x_79_2_11_d0, x_79_2_11_d1, x_79_2_11_d2, x_79_2_11_d3, x_79_2_11_d4, x_35_0, x_79_2_5_d0, x_79_2_5_d1, x_79_2_5_d2, x_79_2_5_d3, x_79_2_5_d4, x_34, x_38_133, x_7_2_I, x_7_2_A, x_7_2_U, x_1, x_39_133, x_4_2, x_82, cb_ri, cb_rl, cb_rv, cb_th, cb_ite, ps_s, ps_n, u_95_0, cp, k1, tn, e, Int.reduceEq, Int.reduceLT, Int.reduceLE, reduceIte, Int.reduceAdd, Int.reduceSub, Int.reduceMul, Int.reduceNeg, Int.reduceToNat, Bool.false_eq_true, eq_self, if_pos, if_neg]
    · have ih := isHand_c (lr + 77) H (x : Int) g (by rw [g7]; exact I.1.2.1.1.1) hH
      rw [if_pos c] at ih
      have e : ((14 : Int) + 6 * (x : Int) + 4) = ((14 + 6 * x + 4 : Nat) : Int) := by omega
      show cl (lr + 80) _ _ _ = _
      rw [in_242]
      simp (disch := omega) only [x_6_0, x_4_1, x_79_2_12_d0, x_79_2_12_d1, x_79_2_12_d2, x_79_2_12_d3, x_79_2_12_d4, x_69, x_1, x_60, x_61, x_36, x_33, x_73, x_13, x_11, x_79_3_12_d0, x_79_3_12_d1, x_79_3_12_d2, x_79_3_12_d3, x_79_3_12_d4, x_82, cb_ri, cb_rl, cb_rv, cb_th, cb_ite, ps_s, ps_n, u_242_0, u_242_13, u_242_14, u_242_28, u_242_42, ih, hs_eq, e, b1, Int.reduceEq, Int.reduceLT, Int.reduceLE, reduceIte, Int.reduceAdd, Int.reduceSub, Int.reduceMul, Int.reduceNeg, Int.reduceToNat, Bool.false_eq_true, eq_self, if_pos, if_neg, w32_id]
  · rw [if_neg c] at cp
    refine AGt_e I 2 (by decide) ⟨h, ?_, Sm_r _ _⟩ (fun g s J => ⟨0, hset g 186 0 0 1, ?_, hs_eq _ _ _ _ _, rsc_186 g 1⟩)
    · show cl (lc + 80) _ _ _ = _
      rw [in_95]
      simp (disch := omega) only [x_6_0, x_4_1, x_79_2_11_d0, x_79_2_11_d1, x_79_2_11_d2, x_79_2_11_d3, x_79_2_11_d4, x_35_0, x_79_2_5_d0, x_79_2_5_d1, x_79_2_5_d2, x_79_2_5_d3, x_79_2_5_d4, x_34, x_38_133, x_7_2_I, x_7_2_A, x_7_2_U, x_1, x_39_133, x_4_2, x_82, cb_ri, cb_rl, cb_rv, cb_th, cb_ite, ps_s, ps_n, u_95_0, cp]
    · have ih := inH J (lr + 77) p
      rw [if_neg c] at ih
      show cl (lr + 80) _ _ _ = _
      rw [in_242]
      simp (disch := omega) only [x_6_0, x_4_1, x_79_2_12_d0, x_79_2_12_d1, x_79_2_12_d2, x_79_2_12_d3, x_79_2_12_d4, x_69, x_1, x_60, x_61, x_36, x_33, x_73, x_13, x_11, x_79_3_12_d0, x_79_3_12_d1, x_79_3_12_d2, x_79_3_12_d3, x_79_3_12_d4, x_82, cb_ri, cb_rl, cb_rv, cb_th, cb_ite, ps_s, ps_n, u_242_0, u_242_13, u_242_14, u_242_28, u_242_42, ih, hs_eq, Int.reduceEq, Int.reduceLT, Int.reduceLE, reduceIte, Int.reduceAdd, Int.reduceSub, Int.reduceMul, Int.reduceNeg, Int.reduceToNat, Bool.false_eq_true, eq_self, if_pos, if_neg]
theorem GM_sl {M : Nat → Int} {H N : Nat} {v : Int} (hv : 0 ≤ v ∧ v ≤ 100) (G : GM M H N) : GM (upM M 7 v) H N := by
  obtain ⟨⟨a1, a2, a3⟩, ⟨b1, b2, b3, b4⟩, gx⟩ := G
  refine GM_ch (fun j h1 h2 => up_ne (by omega)) (up_ne (by omega)) (up_ne (by omega)) (fun i hi => ?_) ?_ ⟨⟨a1, a2, a3⟩, ⟨b1, b2, b3, b4⟩, gx⟩
  · obtain ⟨q0, q1, q2, q3, q4, q5⟩ := a3 i hi
    rw [up_ne (by omega), up_ne (by omega), up_ne (by omega), up_ne (by omega), up_ne (by omega), up_ne (by omega)]
    exact ⟨rfl, q1, rfl, rfl, q4, rfl⟩
  · obtain ⟨c1, c2, c3, c4, c5⟩ := gx
    exact ⟨by rw [up_ne (by omega)]; exact c1, by rw [up_ne (by omega)]; exact c2, by rw [up_ne (by omega)]; exact c3, by rw [up_eq]; exact hv, fun j hj => by rw [up_ne (by omega)]; exact c5 j hj⟩
theorem ag_slip (lc lr H N : Nat) (w : Int) (h : Hp) (I : INV h H N) : AGt t0 (fun h => cl (lc + 80) 99 [aA 11 0, aI w] h) (fun h => cl (lr + 80) 246 [aA 12 0, aI w] h) h := by
  by_cases d : 0 ≤ w ∧ w ≤ 100
  · refine AGt_set (lc := lc) (lr := lr) (H' := H) (N' := N) I 7 w (h 187 0 7) (by omega) (by omega) (by omega) (GM_sl d I.1.2.1) (fun hr k1 R => ?_) (fun g g' g7 b1 z6 => ?_)
    · have e : hr 146 0 0 = h 187 0 7 := R.2.2.1.2.2.2.1
      refine ⟨hset hr 146 0 0 w, ?_, fun tt k j hf => hs_o (by unfold stFr stTag at hf; omega), RS_x w (by omega) R⟩
      show cl (lc + 80) _ _ _ = _
      rw [in_99]
      simp (disch := omega) only [x_4_1, x_70, x_1, x_67, x_61, x_84, x_6_0, x_35_0, x_79_2_5_d0, x_79_2_5_d1, x_79_2_5_d2, x_79_2_5_d3, x_79_2_5_d4, x_33, x_7_2_I, x_7_2_A, x_7_2_U, x_36, x_4_2, x_82, cb_ri, cb_rl, cb_rv, cb_th, cb_ite, ps_s, ps_n, u_99_0, u_99_10, u_99_21, k1, e, Int.reduceEq, Int.reduceLT, Int.reduceLE, reduceIte, Int.reduceAdd, Int.reduceSub, Int.reduceMul, Int.reduceNeg, Int.reduceToNat, Bool.false_eq_true, eq_self, if_pos, if_neg]
    · have ii := isIn_c (lr + 78) w 0 100 g
      rw [if_pos d] at ii
      have b1 : cl (lr + 79) 240 [aA 12 0, aI 7, aI w] (hset g 186 0 0 0) = ri (h 187 0 7) g' := b1
      show cl (lr + 80) _ _ _ = _
      rw [in_246]
      simp (disch := omega) only [x_6_0, x_4_1, x_1, x_80_3_d0, x_80_3_d1, x_80_3_d2, x_80_3_d3, x_80_3_d4, x_69, x_60, x_61, x_36, x_33, x_73, x_79_3_12_d0, x_79_3_12_d1, x_79_3_12_d2, x_79_3_12_d3, x_79_3_12_d4, x_82, cb_ri, cb_rl, cb_rv, cb_th, cb_ite, ps_s, ps_n, u_246_0, u_246_15, u_246_16, u_246_30, u_246_37, ii, hs_eq, b1, Int.reduceEq, Int.reduceLT, Int.reduceLE, reduceIte, Int.reduceAdd, Int.reduceSub, Int.reduceMul, Int.reduceNeg, Int.reduceToNat, Bool.false_eq_true, eq_self, if_pos, if_neg]
  · refine AGt_e I 0 (by decide) ⟨h, ?_, Sm_r _ _⟩ (fun g s J => ⟨0, hset g 186 0 0 1, ?_, hs_eq _ _ _ _ _, rsc_186 g 1⟩)
    · show cl (lc + 80) _ _ _ = _
      rw [in_99]
      by_cases d1 : w < 0
      · simp (disch := omega) only [x_4_1, x_70, x_1, x_67, x_61, x_84, x_6_0, x_35_0, x_79_2_5_d0, x_79_2_5_d1, x_79_2_5_d2, x_79_2_5_d3, x_79_2_5_d4, x_33, x_7_2_I, x_7_2_A, x_7_2_U, x_36, x_4_2, x_82, cb_ri, cb_rl, cb_rv, cb_th, cb_ite, ps_s, ps_n, u_99_0, u_99_10, u_99_21, Int.reduceEq, Int.reduceLT, Int.reduceLE, reduceIte, Int.reduceAdd, Int.reduceSub, Int.reduceMul, Int.reduceNeg, Int.reduceToNat, Bool.false_eq_true, eq_self, if_pos, if_neg]
      · simp (disch := omega) only [x_4_1, x_70, x_1, x_67, x_61, x_84, x_6_0, x_35_0, x_79_2_5_d0, x_79_2_5_d1, x_79_2_5_d2, x_79_2_5_d3, x_79_2_5_d4, x_33, x_7_2_I, x_7_2_A, x_7_2_U, x_36, x_4_2, x_82, cb_ri, cb_rl, cb_rv, cb_th, cb_ite, ps_s, ps_n, u_99_0, u_99_10, u_99_21, Int.reduceEq, Int.reduceLT, Int.reduceLE, reduceIte, Int.reduceAdd, Int.reduceSub, Int.reduceMul, Int.reduceNeg, Int.reduceToNat, Bool.false_eq_true, eq_self, if_pos, if_neg]
    · have ii := isIn_c (lr + 78) w 0 100 g
      rw [if_neg d] at ii
      show cl (lr + 80) _ _ _ = _
      rw [in_246]
      simp (disch := omega) only [x_6_0, x_4_1, x_1, x_80_3_d0, x_80_3_d1, x_80_3_d2, x_80_3_d3, x_80_3_d4, x_69, x_60, x_61, x_36, x_33, x_73, x_79_3_12_d0, x_79_3_12_d1, x_79_3_12_d2, x_79_3_12_d3, x_79_3_12_d4, x_82, cb_ri, cb_rl, cb_rv, cb_th, cb_ite, ps_s, ps_n, u_246_0, u_246_15, u_246_16, u_246_30, u_246_37, ii, hs_eq, Int.reduceEq, Int.reduceLT, Int.reduceLE, reduceIte, Int.reduceAdd, Int.reduceSub, Int.reduceMul, Int.reduceNeg, Int.reduceToNat, Bool.false_eq_true, eq_self, if_pos, if_neg]
