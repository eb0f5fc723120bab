/-! WHO IS SURE, WHO DOUBTS. -/
def boB (w : WS) (x y : Nat) : Bool := !decide (w.2.2.1 x = -1) && !decide (w.2.2.1 y = -1)
def cdB (ab : Nat → Nat → Bool) (w : WS) (x y : Nat) : Bool := ab (w.2.2.1 y).toNat x && ab (w.2.2.1 x).toNat y
theorem bothHold_c (lv x y N : Nat) (h : Hp) (w : WS) (Y : WyC h N w) (hx : x < 6) (hy : y < 6) : cl (lv + 1) 163 [aA 11 0, aI (x : Int), aI (y : Int)] h = ri (boI (boB w x y)) h := by
  have y1 := Y.2.1 x hx
  have y2 := Y.2.1 y hy
  unfold boB
  rw [in_163]
  by_cases c1 : w.2.2.1 x = -1
  · rw [c1] at y1
    simp (disch := omega) only [x_6_0, x_35_0, x_34, x_4_1, x_38_166, x_1, x_62, x_4_2, x_60, x_61, x_85, u_163_0, u_163_30, u_163_31, tn, y1, c1, decide_true, Bool.not_true, Bool.false_and, boI, Int.reduceEq, Int.reduceLT, Int.reduceLE, reduceIte, Int.reduceAdd, Int.reduceSub, Int.reduceMul, Int.reduceNeg, Int.reduceToNat, Bool.false_eq_true, eq_self, if_pos, if_neg]
  · by_cases c2 : w.2.2.1 y = -1
    · rw [c2] at y2
      simp (disch := omega) only [x_6_0, x_35_0, x_34, x_4_1, x_38_166, x_1, x_62, x_4_2, x_60, x_61, x_85, u_163_0, u_163_30, u_163_31, tn, y1, y2, c1, c2, decide_true, decide_false, Bool.not_true, Bool.and_false, boI, Int.reduceEq, Int.reduceLT, Int.reduceLE, reduceIte, Int.reduceAdd, Int.reduceSub, Int.reduceMul, Int.reduceNeg, Int.reduceToNat, Bool.false_eq_true, eq_self, if_pos, if_neg]
    · simp (disch := omega) only [x_6_0, x_35_0, x_34, x_4_1, x_38_166, x_1, x_62, x_4_2, x_60, x_61, x_85, u_163_0, u_163_30, u_163_31, tn, y1, y2, c1, c2, decide_false, Bool.not_false, Bool.and_true, boI, Int.reduceEq, Int.reduceLT, Int.reduceLE, reduceIte, Int.reduceAdd, Int.reduceSub, Int.reduceMul, Int.reduceNeg, Int.reduceToNat, Bool.false_eq_true, eq_self, if_pos, if_neg]
theorem could_c (lv x y H N : Nat) (b : Int) (h : Hp) (M : Nat → Int) (L : List LN) (R : RS h 0 M H N) (G : GM M H N) (W : LawW h 0 L) (Y : WyC h N (wayW M L H N b)) (hx : x < H) (hy : y < H) (hb : boB (wayW M L H N b) x y = true) :
    ∃ h', cl (lv + 4) 164 [aA 11 0, aI (x : Int), aI (y : Int)] h = ri (boI (cdB (abM M L) (wayW M L H N b) x y)) h' ∧ ∀ tt k j, ¬ lwFr 0 tt k → h' tt k j = h tt k j := by
  have hH := G.1.2.1
  have wi := way_inv M L H N b
  unfold boB at hb
  rw [Bool.and_eq_true] at hb
  have y1 := Y.2.1 x (by omega)
  have y2 := Y.2.1 y (by omega)
  rcases wi.2.1 x with e | ⟨nx, ex, dx, -, -⟩
  · rw [e] at hb; simp at hb
  rcases wi.2.1 y with e | ⟨ny, ey, dy, -, -⟩
  · rw [e] at hb; simp at hb
  rw [ex] at y1
  rw [ey] at y2
  unfold cdB
  rw [ex, ey, tn, tn]
  obtain ⟨h1, a1, a2⟩ := isAble_k lv 0 0 x ny H N M h L R G W hx dy.1
  have a1 : _ = ri (boI (abM M L ny x)) h1 := a1
  obtain ⟨h2, b1, b2⟩ := isAble_k lv 0 0 y nx H N M h1 L (RS_lw a2 R) G (LawW_same a2 W) hy dx.1
  have b1 : _ = ri (boI (abM M L nx y)) h2 := b1
  have z1 : h1 166 0 x = (nx : Int) := by rw [a2 _ _ _ (by unfold lwFr; omega)]; exact y1
  rw [in_164]
  cases c1 : abM M L ny x with
  | true =>
    rw [c1] at a1
    have a1 : _ = ri 1 h1 := a1
    refine ⟨h2, ?_, fun tt k j hf => by rw [b2 tt k j hf, a2 tt k j hf]⟩
    cases c2 : abM M L nx y with
    | true =>
      rw [c2] at b1
      have b1 : _ = ri 1 h2 := b1
      simp (disch := omega) only [x_6_0, x_35_0, x_4_1, x_34, x_4_2, x_38_166, x_79_4_1_d0, x_79_4_1_d1, x_79_4_1_d2, x_79_4_1_d3, x_79_4_1_d4, x_68, x_1, x_60, x_61, x_85, cb_ri, cb_rl, cb_rv, cb_th, cb_ite, ps_s, ps_n, u_164_0, u_164_52, u_164_53, tn, y2, a1, z1, b1, Bool.and_true, boI, Int.reduceEq, Int.reduceLT, Int.reduceLE, reduceIte, Int.reduceAdd, Int.reduceSub, Int.reduceMul, Int.reduceNeg, Int.reduceToNat, Bool.false_eq_true, eq_self, if_pos, if_neg]
    | false =>
      rw [c2] at b1
      have b1 : _ = ri 0 h2 := b1
      simp (disch := omega) only [x_6_0, x_35_0, x_4_1, x_34, x_4_2, x_38_166, x_79_4_1_d0, x_79_4_1_d1, x_79_4_1_d2, x_79_4_1_d3, x_79_4_1_d4, x_68, x_1, x_60, x_61, x_85, cb_ri, cb_rl, cb_rv, cb_th, cb_ite, ps_s, ps_n, u_164_0, u_164_52, u_164_53, tn, y2, a1, z1, b1, Bool.and_false, boI, Int.reduceEq, Int.reduceLT, Int.reduceLE, reduceIte, Int.reduceAdd, Int.reduceSub, Int.reduceMul, Int.reduceNeg, Int.reduceToNat, Bool.false_eq_true, eq_self, if_pos, if_neg]
  | false =>
    rw [c1] at a1
    have a1 : _ = ri 0 h1 := a1
    refine ⟨h1, ?_, a2⟩
    simp (disch := omega) only [x_6_0, x_35_0, x_4_1, x_34, x_4_2, x_38_166, x_79_4_1_d0, x_79_4_1_d1, x_79_4_1_d2, x_79_4_1_d3, x_79_4_1_d4, x_68, x_1, x_60, x_61, x_85, cb_ri, cb_rl, cb_rv, cb_th, cb_ite, ps_s, ps_n, u_164_0, u_164_52, u_164_53, tn, y2, a1, Bool.false_and, boI, Int.reduceEq, Int.reduceLT, Int.reduceLE, reduceIte, Int.reduceAdd, Int.reduceSub, Int.reduceMul, Int.reduceNeg, Int.reduceToNat, Bool.false_eq_true, eq_self, if_pos, if_neg]
theorem haveBoth_m (lv x y : Nat) (h : Hp) (w : WS) (Y : WyM h w) (hx : x < 7) (hy : y < 7) : cl (lv + 1) 285 [aA 12 0, aI (x : Int), aI (y : Int)] h = ri (boI (boB w x y)) h := by
  have y1 := Y.2 x hx
  have y2 := Y.2 y hy
  unfold boB
  rw [in_285]
  by_cases c1 : w.2.2.1 x = -1
  · rw [c1] at y1
    simp (disch := omega) only [x_6_0, x_34, x_4_1, x_38_211, x_1, x_62, x_4_2, x_60, x_61, x_85, u_285_0, u_285_24, u_285_25, tn, y1, c1, decide_true, Bool.not_true, Bool.false_and, boI, Int.reduceEq, Int.reduceLT, Int.reduceLE, reduceIte, Int.reduceAdd, Int.reduceSub, Int.reduceMul, Int.reduceNeg, Int.reduceToNat, Bool.false_eq_true, eq_self, if_pos, if_neg]
  · by_cases c2 : w.2.2.1 y = -1
    · rw [c2] at y2
      simp (disch := omega) only [x_6_0, x_34, x_4_1, x_38_211, x_1, x_62, x_4_2, x_60, x_61, x_85, u_285_0, u_285_24, u_285_25, tn, y1, y2, c1, c2, decide_true, decide_false, Bool.not_true, Bool.and_false, boI, Int.reduceEq, Int.reduceLT, Int.reduceLE, reduceIte, Int.reduceAdd, Int.reduceSub, Int.reduceMul, Int.reduceNeg, Int.reduceToNat, Bool.false_eq_true, eq_self, if_pos, if_neg]
    · simp (disch := omega) only [x_6_0, x_34, x_4_1, x_38_211, x_1, x_62, x_4_2, x_60, x_61, x_85, u_285_0, u_285_24, u_285_25, tn, y1, y2, c1, c2, decide_false, Bool.not_false, Bool.and_true, boI, Int.reduceEq, Int.reduceLT, Int.reduceLE, reduceIte, Int.reduceAdd, Int.reduceSub, Int.reduceMul, Int.reduceNeg, Int.reduceToNat, Bool.false_eq_true, eq_self, if_pos, if_neg]
theorem isSure_m (lv x y H N : Nat) (b : Int) (h : Hp) (M : Nat → Int) (L : List LN) (hH : H ≤ 6) (hN : N ≤ 14) (Y : WyM h (wayW M L H N b)) (C : CT h N H (abM M L)) (hx : x < H) (hy : y < H) (hb : boB (wayW M L H N b) x y = true) : cl (lv + 1) 284 [aA 12 0, aI (x : Int), aI (y : Int)] h = ri (boI (!cdB (abM M L) (wayW M L H N b) x y)) h := by
  have wi := way_inv M L H N b
  unfold boB at hb
  rw [Bool.and_eq_true] at hb
  have y1 := Y.2 x (by omega)
  have y2 := Y.2 y (by omega)
  rcases wi.2.1 x with e | ⟨nx, ex, dx, -, -⟩
  · rw [e] at hb; simp at hb
  rcases wi.2.1 y with e | ⟨ny, ey, dy, -, -⟩
  · rw [e] at hb; simp at hb
  rw [ex] at y1
  rw [ey] at y2
  unfold cdB
  rw [ex, ey, tn, tn]
  have t1 := C ny dy.1 x hx
  have t2 := C nx dx.1 y hy
  have e1 : (14 * (x : Int) + (ny : Int)).toNat = 14 * x + ny := by omega
  have e2 : (14 * (y : Int) + (nx : Int)).toNat = 14 * y + nx := by omega
  rw [in_284]
  cases c1 : abM M L ny x with
  | true =>
    rw [c1] at t1
    have t1 : h 205 0 (14 * x + ny) = 1 := t1
    cases c2 : abM M L nx y with
    | true =>
      rw [c2] at t2
      have t2 : h 205 0 (14 * y + nx) = 1 := t2
      simp (disch := omega) only [x_6_0, x_34, x_1, x_4_1, x_13, x_4_2, x_38_211, x_11, x_40_205, x_68, x_69, x_61, x_60, x_85, u_284_0, u_284_38, u_284_42, u_284_43, tn, y1, y2, e1, e2, t1, t2, w32_id, Bool.and_true, Bool.not_true, boI, Int.reduceEq, Int.reduceLT, Int.reduceLE, reduceIte, Int.reduceAdd, Int.reduceSub, Int.reduceMul, Int.reduceNeg, Int.reduceToNat, Bool.false_eq_true, eq_self, if_pos, if_neg]
    | false =>
      rw [c2] at t2
      have t2 : h 205 0 (14 * y + nx) = 0 := t2
      simp (disch := omega) only [x_6_0, x_34, x_1, x_4_1, x_13, x_4_2, x_38_211, x_11, x_40_205, x_68, x_69, x_61, x_60, x_85, u_284_0, u_284_38, u_284_42, u_284_43, tn, y1, y2, e1, e2, t1, t2, w32_id, Bool.and_false, Bool.not_false, boI, Int.reduceEq, Int.reduceLT, Int.reduceLE, reduceIte, Int.reduceAdd, Int.reduceSub, Int.reduceMul, Int.reduceNeg, Int.reduceToNat, Bool.false_eq_true, eq_self, if_pos, if_neg]
  | false =>
    rw [c1] at t1
    have t1 : h 205 0 (14 * x + ny) = 0 := t1
    simp (disch := omega) only [x_6_0, x_34, x_1, x_4_1, x_13, x_4_2, x_38_211, x_11, x_40_205, x_68, x_69, x_61, x_60, x_85, u_284_0, u_284_38, u_284_42, u_284_43, tn, y1, y2, e1, t1, w32_id, Bool.false_and, Bool.not_false, boI, Int.reduceEq, Int.reduceLT, Int.reduceLE, reduceIte, Int.reduceAdd, Int.reduceSub, Int.reduceMul, Int.reduceNeg, Int.reduceToNat, Bool.false_eq_true, eq_self, if_pos, if_neg]
theorem ag_sure (lc lr H N : Nat) (p q b : Int) (h : Hp) (I : INV h H N) : AGt t20 (fun h => cl (lc + 80) 126 [aA 11 0, aI p, aI q, aI b] h) (fun h => cl (lr + 80) 286 [aA 12 0, aI p, aI q, aI b] h) h := by
  have hH := I.1.2.1.1.2.1
  have hN := I.1.2.1.2.1.2.1
  have cb := checkBeat_c (lc + 78) b h
  have ch := checkHand_c (lc + 78) H p h I.1.1.1.1
  have cq := checkHand_c (lc + 78) H q h I.1.1.1.1
  obtain ⟨L, W, hL, hW, hl⟩ := INV_law I
  by_cases c : ((0 ≤ p ∧ p < H) ∧ (0 ≤ q ∧ q < H)) ∧ (0 ≤ b ∧ b < 12)
  · rw [if_pos c.1.1] at ch
    rw [if_pos c.1.2] at cq
    rw [if_pos c.2] at cb
    by_cases ce : p = q
    · refine AGt_e I 0 (by decide) ⟨h, ?_, Sm_r _ _⟩ (fun g s J => ⟨0, hset g 186 0 0 2, ?_, hs_eq _ _ _ _ _, rsc_186 g 2⟩)
      · show cl (lc + 80) _ _ _ = _
        rw [in_126]
        simp (disch := omega) only [x_6_0, x_4_1, x_79_2_11_d0, x_79_2_11_d1, x_79_2_11_d2, x_79_2_11_d3, x_79_2_11_d4, x_4_2, x_4_3, x_80_1_d0, x_80_1_d1, x_80_1_d2, x_80_1_d3, x_80_1_d4, x_63, x_84, x_35_0, x_79_3_10_d0, x_79_3_10_d1, x_79_3_10_d2, x_79_3_10_d3, x_79_3_10_d4, x_79_3_11_d0, x_79_3_11_d1, x_79_3_11_d2, x_79_3_11_d3, x_79_3_11_d4, x_68, x_69, x_1, x_60, x_61, x_85, cb_ri, cb_rl, cb_rv, cb_th, cb_ite, ps_s, ps_n, u_126_0, u_126_30, u_126_64, u_126_65, cb, ch, cq, ce, Int.reduceEq, Int.reduceLT, Int.reduceLE, reduceIte, Int.reduceAdd, Int.reduceSub, Int.reduceMul, Int.reduceNeg, Int.reduceToNat, Bool.false_eq_true, eq_self, if_pos, if_neg]
      · show cl (lr + 80) _ _ _ = _
        have ib := isBeat_c (lr + 77) b g
        have ih := inH J (lr + 77) p
        have iq := inH J (lr + 77) q
        rw [if_pos c.2] at ib
        rw [if_pos c.1.1] at ih
        rw [if_pos c.1.2] at iq
        rw [in_286]
        subst ce
        simp (disch := omega) only [x_6_0, x_4_1, x_79_2_12_d0, x_79_2_12_d1, x_79_2_12_d2, x_79_2_12_d3, x_79_2_12_d4, x_68, x_4_2, x_4_3, x_80_1_d0, x_80_1_d1, x_80_1_d2, x_80_1_d3, x_80_1_d4, x_69, x_61, x_1, x_60, x_63, x_36, x_33, x_73, x_85, x_79_3_12_d0, x_79_3_12_d1, x_79_3_12_d2, x_79_3_12_d3, x_79_3_12_d4, cb_ri, cb_rl, cb_rv, cb_th, cb_ite, ps_s, ps_n, u_286_0, u_286_24, u_286_28, u_286_37, u_286_38, u_286_50, u_286_77, u_286_78, ib, ih, iq, hs_eq, Int.reduceEq, Int.reduceLT, Int.reduceLE, reduceIte, Int.reduceAdd, Int.reduceSub, Int.reduceMul, Int.reduceNeg, Int.reduceToNat, Bool.false_eq_true, eq_self, if_pos, if_neg]
    · obtain ⟨x, rfl⟩ : ∃ x : Nat, p = (x : Int) := ⟨p.toNat, by omega⟩
      obtain ⟨y, rfl⟩ : ∃ y : Nat, q = (y : Int) := ⟨q.toNat, by omega⟩
      refine AGt_q I (v := boI (boB (wayW (h 187 0) L H N b) x y && !cdB (abM (h 187 0) L) (wayW (h 187 0) L H N b) x y)) ?_ (fun g s J => ?_)
      · obtain ⟨h1, a1, a2, a3⟩ := findI (lc + 74) H N b h I L W
        have R1 : INV h1 H N := INV_scr (Sm_w (fun _ _ => scr_c) a3) I
        have k7 : h1 187 0 = h 187 0 := Sm_187 a3 (by unfold csc stTag; omega)
        have W1 : LawW h1 0 L := LawW_e (fun tt j ht => a3 tt 0 j (by unfold csc stTag; omega)) W
        have bh := bothHold_c (lc + 78) x y N h1 _ a2 (by omega) (by omega)
        cases c1 : boB (wayW (h 187 0) L H N b) x y with
        | true =>
          rw [c1] at bh
          have bh : _ = ri 1 h1 := bh
          obtain ⟨h2, d1, d2⟩ := could_c (lc + 75) x y H N b h1 (h 187 0) L (by rw [← k7]; exact R1.1.1) I.1.2.1 W1 a2 (by omega) (by omega) c1
          rw [Bool.true_and]
          refine ⟨h2, ?_, Sm_t a3 (csc_lw d2)⟩
          show cl (lc + 80) _ _ _ = _
          rw [in_126]
          cases c2 : cdB (abM (h 187 0) L) (wayW (h 187 0) L H N b) x y with
          | true =>
            rw [c2] at d1
            have d1 : _ = ri 1 h2 := d1
            simp (disch := omega) only [x_6_0, x_4_1, x_79_2_11_d0, x_79_2_11_d1, x_79_2_11_d2, x_79_2_11_d3, x_79_2_11_d4, x_4_2, x_4_3, x_80_1_d0, x_80_1_d1, x_80_1_d2, x_80_1_d3, x_80_1_d4, x_63, x_84, x_35_0, x_79_3_10_d0, x_79_3_10_d1, x_79_3_10_d2, x_79_3_10_d3, x_79_3_10_d4, x_79_3_11_d0, x_79_3_11_d1, x_79_3_11_d2, x_79_3_11_d3, x_79_3_11_d4, x_68, x_69, x_1, x_60, x_61, x_85, cb_ri, cb_rl, cb_rv, cb_th, cb_ite, ps_s, ps_n, u_126_0, u_126_30, u_126_64, u_126_65, cb, ch, cq, ce, a1, bh, d1, Bool.not_true, boI, Int.reduceEq, Int.reduceLT, Int.reduceLE, reduceIte, Int.reduceAdd, Int.reduceSub, Int.reduceMul, Int.reduceNeg, Int.reduceToNat, Bool.false_eq_true, eq_self, if_pos, if_neg]
          | false =>
            rw [c2] at d1
            have d1 : _ = ri 0 h2 := d1
            simp (disch := omega) only [x_6_0, x_4_1, x_79_2_11_d0, x_79_2_11_d1, x_79_2_11_d2, x_79_2_11_d3, x_79_2_11_d4, x_4_2, x_4_3, x_80_1_d0, x_80_1_d1, x_80_1_d2, x_80_1_d3, x_80_1_d4, x_63, x_84, x_35_0, x_79_3_10_d0, x_79_3_10_d1, x_79_3_10_d2, x_79_3_10_d3, x_79_3_10_d4, x_79_3_11_d0, x_79_3_11_d1, x_79_3_11_d2, x_79_3_11_d3, x_79_3_11_d4, x_68, x_69, x_1, x_60, x_61, x_85, cb_ri, cb_rl, cb_rv, cb_th, cb_ite, ps_s, ps_n, u_126_0, u_126_30, u_126_64, u_126_65, cb, ch, cq, ce, a1, bh, d1, Bool.not_false, boI, Int.reduceEq, Int.reduceLT, Int.reduceLE, reduceIte, Int.reduceAdd, Int.reduceSub, Int.reduceMul, Int.reduceNeg, Int.reduceToNat, Bool.false_eq_true, eq_self, if_pos, if_neg]
        | false =>
          rw [c1] at bh
          have bh : _ = ri 0 h1 := bh
          rw [Bool.false_and]
          refine ⟨h1, ?_, a3⟩
          show cl (lc + 80) _ _ _ = _
          rw [in_126]
          simp (disch := omega) only [x_6_0, x_4_1, x_79_2_11_d0, x_79_2_11_d1, x_79_2_11_d2, x_79_2_11_d3, x_79_2_11_d4, x_4_2, x_4_3, x_80_1_d0, x_80_1_d1, x_80_1_d2, x_80_1_d3, x_80_1_d4, x_63, x_84, x_35_0, x_79_3_10_d0, x_79_3_10_d1, x_79_3_10_d2, x_79_3_10_d3, x_79_3_10_d4, x_79_3_11_d0, x_79_3_11_d1, x_79_3_11_d2, x_79_3_11_d3, x_79_3_11_d4, x_68, x_69, x_1, x_60, x_61, x_85, cb_ri, cb_rl, cb_rv, cb_th, cb_ite, ps_s, ps_n, u_126_0, u_126_30, u_126_64, u_126_65, cb, ch, cq, ce, a1, bh, boI, Int.reduceEq, Int.reduceLT, Int.reduceLE, reduceIte, Int.reduceAdd, Int.reduceSub, Int.reduceMul, Int.reduceNeg, Int.reduceToNat, Bool.false_eq_true, eq_self, if_pos, if_neg]
      · obtain ⟨h2, a1, a2, a3, a4, a5, a6, a7⟩ := wayI (lr + 42) H N b 0 h g I s J L hL hW hl
        have ib := isBeat_c (lr + 77) b g
        have ih := inH J (lr + 77) (x : Int)
        have iq := inH J (lr + 77) (y : Int)
        rw [if_pos c.2] at ib
        rw [if_pos c.1.1] at ih
        rw [if_pos c.1.2] at iq
        have bh := haveBoth_m (lr + 78) x y h2 _ a2 (by omega) (by omega)
        refine ⟨h2, ?_, a5, a7⟩
        show cl (lr + 80) _ _ _ = _
        rw [in_286]
        cases c1 : boB (wayW (h 187 0) L H N b) x y with
        | true =>
          rw [c1] at bh
          have bh : _ = ri 1 h2 := bh
          have is := isSure_m (lr + 78) x y H N b h2 (h 187 0) L hH hN a2 a3 (by omega) (by omega) c1
          rw [Bool.true_and]
          cases c2 : cdB (abM (h 187 0) L) (wayW (h 187 0) L H N b) x y with
          | true =>
            rw [c2] at is
            have is : _ = ri 0 h2 := is
            simp (disch := omega) only [x_6_0, x_4_1, x_79_2_12_d0, x_79_2_12_d1, x_79_2_12_d2, x_79_2_12_d3, x_79_2_12_d4, x_68, x_4_2, x_4_3, x_80_1_d0, x_80_1_d1, x_80_1_d2, x_80_1_d3, x_80_1_d4, x_69, x_61, x_1, x_60, x_63, x_36, x_33, x_73, x_85, x_79_3_12_d0, x_79_3_12_d1, x_79_3_12_d2, x_79_3_12_d3, x_79_3_12_d4, cb_ri, cb_rl, cb_rv, cb_th, cb_ite, ps_s, ps_n, u_286_0, u_286_24, u_286_28, u_286_37, u_286_38, u_286_50, u_286_77, u_286_78, ib, ih, iq, ce, hs_eq, a1, bh, is, Bool.not_true, boI, Int.reduceEq, Int.reduceLT, Int.reduceLE, reduceIte, Int.reduceAdd, Int.reduceSub, Int.reduceMul, Int.reduceNeg, Int.reduceToNat, Bool.false_eq_true, eq_self, if_pos, if_neg]
          | false =>
            rw [c2] at is
            have is : _ = ri 1 h2 := is
            simp (disch := omega) only [x_6_0, x_4_1, x_79_2_12_d0, x_79_2_12_d1, x_79_2_12_d2, x_79_2_12_d3, x_79_2_12_d4, x_68, x_4_2, x_4_3, x_80_1_d0, x_80_1_d1, x_80_1_d2, x_80_1_d3, x_80_1_d4, x_69, x_61, x_1, x_60, x_63, x_36, x_33, x_73, x_85, x_79_3_12_d0, x_79_3_12_d1, x_79_3_12_d2, x_79_3_12_d3, x_79_3_12_d4, cb_ri, cb_rl, cb_rv, cb_th, cb_ite, ps_s, ps_n, u_286_0, u_286_24, u_286_28, u_286_37, u_286_38, u_286_50, u_286_77, u_286_78, ib, ih, iq, ce, hs_eq, a1, bh, is, Bool.not_false, boI, Int.reduceEq, Int.reduceLT, Int.reduceLE, reduceIte, Int.reduceAdd, Int.reduceSub, Int.reduceMul, Int.reduceNeg, Int.reduceToNat, Bool.false_eq_true, eq_self, if_pos, if_neg]
        | false =>
          rw [c1] at bh
          have bh : _ = ri 0 h2 := bh
          rw [Bool.false_and]
          simp (disch := omega) only [x_6_0, x_4_1, x_79_2_12_d0, x_79_2_12_d1, x_79_2_12_d2, x_79_2_12_d3, x_79_2_12_d4, x_68, x_4_2, x_4_3, x_80_1_d0, x_80_1_d1, x_80_1_d2, x_80_1_d3, x_80_1_d4, x_69, x_61, x_1, x_60, x_63, x_36, x_33, x_73, x_85, x_79_3_12_d0, x_79_3_12_d1, x_79_3_12_d2, x_79_3_12_d3, x_79_3_12_d4, cb_ri, cb_rl, cb_rv, cb_th, cb_ite, ps_s, ps_n, u_286_0, u_286_24, u_286_28, u_286_37, u_286_38, u_286_50, u_286_77, u_286_78, ib, ih, iq, ce, hs_eq, a1, bh, boI, Int.reduceEq, Int.reduceLT, Int.reduceLE, reduceIte, Int.reduceAdd, Int.reduceSub, Int.reduceMul, Int.reduceNeg, Int.reduceToNat, Bool.false_eq_true, eq_self, if_pos, if_neg]
  · refine AGt_e I 2 (by decide) ⟨h, ?_, Sm_r _ _⟩ (fun g s J => ⟨0, hset g 186 0 0 1, ?_, hs_eq _ _ _ _ _, rsc_186 g 1⟩)
    · show cl (lc + 80) _ _ _ = _
      rw [in_126]
      by_cases c1 : 0 ≤ p ∧ p < H
      · rw [if_pos c1] at ch
        by_cases c2 : 0 ≤ q ∧ q < H
        · rw [if_pos c2] at cq
          rw [if_neg (fun z => c ⟨⟨c1, c2⟩, z⟩)] at cb
          simp (disch := omega) only [x_6_0, x_4_1, x_79_2_11_d0, x_79_2_11_d1, x_79_2_11_d2, x_79_2_11_d3, x_79_2_11_d4, x_4_2, x_4_3, x_80_1_d0, x_80_1_d1, x_80_1_d2, x_80_1_d3, x_80_1_d4, x_63, x_84, x_35_0, x_79_3_10_d0, x_79_3_10_d1, x_79_3_10_d2, x_79_3_10_d3, x_79_3_10_d4, x_79_3_11_d0, x_79_3_11_d1, x_79_3_11_d2, x_79_3_11_d3, x_79_3_11_d4, x_68, x_69, x_1, x_60, x_61, x_85, cb_ri, cb_rl, cb_rv, cb_th, cb_ite, ps_s, ps_n, u_126_0, u_126_30, u_126_64, u_126_65, cb, ch, cq]
        · rw [if_neg c2] at cq
          simp (disch := omega) only [x_6_0, x_4_1, x_79_2_11_d0, x_79_2_11_d1, x_79_2_11_d2, x_79_2_11_d3, x_79_2_11_d4, x_4_2, x_4_3, x_80_1_d0, x_80_1_d1, x_80_1_d2, x_80_1_d3, x_80_1_d4, x_63, x_84, x_35_0, x_79_3_10_d0, x_79_3_10_d1, x_79_3_10_d2, x_79_3_10_d3, x_79_3_10_d4, x_79_3_11_d0, x_79_3_11_d1, x_79_3_11_d2, x_79_3_11_d3, x_79_3_11_d4, x_68, x_69, x_1, x_60, x_61, x_85, cb_ri, cb_rl, cb_rv, cb_th, cb_ite, ps_s, ps_n, u_126_0, u_126_30, u_126_64, u_126_65, ch, cq]
      · rw [if_neg c1] at ch
        simp (disch := omega) only [x_6_0, x_4_1, x_79_2_11_d0, x_79_2_11_d1, x_79_2_11_d2, x_79_2_11_d3, x_79_2_11_d4, x_4_2, x_4_3, x_80_1_d0, x_80_1_d1, x_80_1_d2, x_80_1_d3, x_80_1_d4, x_63, x_84, x_35_0, x_79_3_10_d0, x_79_3_10_d1, x_79_3_10_d2, x_79_3_10_d3, x_79_3_10_d4, x_79_3_11_d0, x_79_3_11_d1, x_79_3_11_d2, x_79_3_11_d3, x_79_3_11_d4, x_68, x_69, x_1, x_60, x_61, x_85, cb_ri, cb_rl, cb_rv, cb_th, cb_ite, ps_s, ps_n, u_126_0, u_126_30, u_126_64, u_126_65, ch]
    · show cl (lr + 80) _ _ _ = _
      have ib := isBeat_c (lr + 77) b g
      have ih := inH J (lr + 77) p
      have iq := inH J (lr + 77) q
      rw [in_286]
      by_cases c1 : 0 ≤ p ∧ p < H
      · rw [if_pos c1] at ih
        by_cases c2 : 0 ≤ q ∧ q < H
        · rw [if_pos c2] at iq
          rw [if_neg (fun z => c ⟨⟨c1, c2⟩, z⟩)] at ib
          simp (disch := omega) only [x_6_0, x_4_1, x_79_2_12_d0, x_79_2_12_d1, x_79_2_12_d2, x_79_2_12_d3, x_79_2_12_d4, x_68, x_4_2, x_4_3, x_80_1_d0, x_80_1_d1, x_80_1_d2, x_80_1_d3, x_80_1_d4, x_69, x_61, x_1, x_60, x_63, x_36, x_33, x_73, x_85, x_79_3_12_d0, x_79_3_12_d1, x_79_3_12_d2, x_79_3_12_d3, x_79_3_12_d4, cb_ri, cb_rl, cb_rv, cb_th, cb_ite, ps_s, ps_n, u_286_0, u_286_24, u_286_28, u_286_37, u_286_38, u_286_50, u_286_77, u_286_78, ib, ih, iq, hs_eq, Int.reduceEq, Int.reduceLT, Int.reduceLE, reduceIte, Int.reduceAdd, Int.reduceSub, Int.reduceMul, Int.reduceNeg, Int.reduceToNat, Bool.false_eq_true, eq_self, if_pos, if_neg]
        · rw [if_neg c2] at iq
          simp (disch := omega) only [x_6_0, x_4_1, x_79_2_12_d0, x_79_2_12_d1, x_79_2_12_d2, x_79_2_12_d3, x_79_2_12_d4, x_68, x_4_2, x_4_3, x_80_1_d0, x_80_1_d1, x_80_1_d2, x_80_1_d3, x_80_1_d4, x_69, x_61, x_1, x_60, x_63, x_36, x_33, x_73, x_85, x_79_3_12_d0, x_79_3_12_d1, x_79_3_12_d2, x_79_3_12_d3, x_79_3_12_d4, cb_ri, cb_rl, cb_rv, cb_th, cb_ite, ps_s, ps_n, u_286_0, u_286_24, u_286_28, u_286_37, u_286_38, u_286_50, u_286_77, u_286_78, ih, iq, hs_eq, Int.reduceEq, Int.reduceLT, Int.reduceLE, reduceIte, Int.reduceAdd, Int.reduceSub, Int.reduceMul, Int.reduceNeg, Int.reduceToNat, Bool.false_eq_true, eq_self, if_pos, if_neg]
      · rw [if_neg c1] at ih
        simp (disch := omega) only [x_6_0, x_4_1, x_79_2_12_d0, x_79_2_12_d1, x_79_2_12_d2, x_79_2_12_d3, x_79_2_12_d4, x_68, x_4_2, x_4_3, x_80_1_d0, x_80_1_d1, x_80_1_d2, x_80_1_d3, x_80_1_d4, x_69, x_61, x_1, x_60, x_63, x_36, x_33, x_73, x_85, x_79_3_12_d0, x_79_3_12_d1, x_79_3_12_d2, x_79_3_12_d3, x_79_3_12_d4, cb_ri, cb_rl, cb_rv, cb_th, cb_ite, ps_s, ps_n, u_286_0, u_286_24, u_286_28, u_286_37, u_286_38, u_286_50, u_286_77, u_286_78, ih, hs_eq, Int.reduceEq, Int.reduceLT, Int.reduceLE, reduceIte, Int.reduceAdd, Int.reduceSub, Int.reduceMul, Int.reduceNeg, Int.reduceToNat, Bool.false_eq_true, eq_self, if_pos, if_neg]
def dbB (ab : Nat → Nat → Bool) (w : WS) (x y : Nat) : Bool := decide (x < y) && (boB w x y && cdB ab w x y)
theorem db_0 (ab : Nat → Nat → Bool) (w : WS) (x : Nat) : ∀ y, y ≤ x + 1 → cnt (dbB ab w x) y = 0 := by
  intro y
  induction y with
  | zero => intro _; rfl
  | succ y ih =>
    intro hy
    show cnt (dbB ab w x) y + (if dbB ab w x y = true then 1 else 0) = 0
    rw [ih (by omega), if_neg (by unfold dbB; simp; omega)]
theorem ag_doubt (lc lr H N : Nat) (b : Int) (h : Hp) (I : INV h H N) : AGt t2 (fun h => cl (lc + 80) 127 [aA 11 0, aI b] h) (fun h => cl (lr + 80) 287 [aA 12 0, aI b] h) h := by
  have hH := I.1.2.1.1.2.1
  have hN := I.1.2.1.2.1.2.1
  have cb := checkBeat_c (lc + 78) b h
  obtain ⟨L, W, hL, hW, hl⟩ := INV_law I
  by_cases c : 0 ≤ b ∧ b < 12
  · rw [if_pos c] at cb
    have sb := sumN_b (f := fun x => cnt (dbB (abM (h 187 0) L) (wayW (h 187 0) L H N b) x) H) (K := 6) (fun i => Nat.le_trans (cnt_le _ _) hH)
    refine AGt_q I (v := ((sumN (fun x => cnt (dbB (abM (h 187 0) L) (wayW (h 187 0) L H N b) x) H) H : Nat) : Int)) ?_ (fun g s J => ?_)
    · obtain ⟨h1, a1, a2, a3⟩ := findI (lc + 74) H N b h I L W
      have R1 : INV h1 H N := INV_scr (Sm_w (fun _ _ => scr_c) a3) I
      have k7 : h1 187 0 = h 187 0 := Sm_187 a3 (by unfold csc stTag; omega)
      have W1 : LawW h1 0 L := LawW_e (fun tt j ht => a3 tt 0 j (by unfold csc stTag; omega)) W
      have outer := loop_p (S := AV × Hp) (F := fun x (q : AV × Hp) => run (lc + 79) 127 20 [aA 11 0, aI b, aI ((sumN (fun x => cnt (dbB (abM (h 187 0) L) (wayW (h 187 0) L H N b) x) H) x : Nat) : Int), aI (x : Int), q.1] [] q.2)
        (I := fun x q => ∀ tt k j, ¬ lwFr 0 tt k → q.2 tt k j = h1 tt k j)
        (Q := fun r => ∃ h', r = ri ((sumN (fun x => cnt (dbB (abM (h 187 0) L) (wayW (h 187 0) L H N b) x) H) H : Nat) : Int) h' ∧ ∀ tt k j, ¬ lwFr 0 tt k → h' tt k j = h1 tt k j) (N := H) ?_ ?_ (none, h1) (fun _ _ _ _ => rfl)
      · obtain ⟨h', e1, e2⟩ := outer
        refine ⟨h', ?_, Sm_t a3 (csc_lw e2)⟩
        show cl (lc + 80) _ _ _ = _
        rw [← e1, in_127]
        simp (disch := omega) only [x_4_1, x_80_1_d0, x_80_1_d1, x_80_1_d2, x_80_1_d3, x_80_1_d4, x_6_0, x_35_0, x_79_3_10_d0, x_79_3_10_d1, x_79_3_10_d2, x_79_3_10_d3, x_79_3_10_d4, x_1, x_7_2_I, x_7_2_A, x_7_2_U, x_7_3_I, x_7_3_A, x_7_3_U, x_61, x_4_3, x_33, x_65, x_11, x_7_4_I, x_7_4_A, x_7_4_U, x_4_4, x_79_3_11_d0, x_79_3_11_d1, x_79_3_11_d2, x_79_3_11_d3, x_79_3_11_d4, x_68, x_10_2_I, x_10_2_A, x_10_2_U, x_10_4_I, x_10_4_A, x_10_4_U, x_60, x_10_3_I, x_10_3_A, x_10_3_U, x_4_2, x_82, cb_ri, cb_rl, cb_rv, cb_th, cb_ite, ps_s, ps_n, u_127_0, u_127_71, u_127_77, u_127_83, cb, a1]
        rfl
      · rintro x ⟨v4, q⟩ hx hq
        simp only at hq ⊢
        have s1 := sb x
        have n39 : ∀ g : Hp, (∀ tt k j, ¬ lwFr 0 tt k → g tt k j = h1 tt k j) → g 139 0 0 = (H : Int) := fun g hg => by rw [hg _ _ _ (by unfold lwFr; omega)]; exact R1.1.1.1.1
        have inner := loop_p (S := Hp) (F := fun y (q : Hp) => run (lc + 79) 127 36 [aA 11 0, aI b, aI ((sumN (fun x => cnt (dbB (abM (h 187 0) L) (wayW (h 187 0) L H N b) x) H) x + cnt (dbB (abM (h 187 0) L) (wayW (h 187 0) L H N b) x) (x + 1 + y) : Nat) : Int), aI (x : Int), aI ((x + 1 + y : Nat) : Int)] [] q)
          (I := fun y q => ∀ tt k j, ¬ lwFr 0 tt k → q tt k j = h1 tt k j)
          (Q := fun r => ∃ h', r = run (lc + 79) 127 20 [aA 11 0, aI b, aI ((sumN (fun x => cnt (dbB (abM (h 187 0) L) (wayW (h 187 0) L H N b) x) H) x + cnt (dbB (abM (h 187 0) L) (wayW (h 187 0) L H N b) x) H : Nat) : Int), aI ((x + 1 : Nat) : Int), aI (H : Int)] [] h' ∧ ∀ tt k j, ¬ lwFr 0 tt k → h' tt k j = h1 tt k j) (N := H - (x + 1)) ?_ ?_ q hq
        · obtain ⟨h', e1, e2⟩ := inner
          refine ⟨(aI (H : Int), h'), ?_, e2⟩
          have q39 := n39 q hq
          simp only [Nat.add_zero, db_0 _ _ x (x + 1) (Nat.le_refl _)] at e1
          show run _ _ _ _ _ _ = run _ _ _ [_, _, aI ((sumN (fun x => cnt (dbB (abM (h 187 0) L) (wayW (h 187 0) L H N b) x) H) x + cnt (dbB (abM (h 187 0) L) (wayW (h 187 0) L H N b) x) H : Nat) : Int), _, _] _ _
          rw [← e1, hd_127_20]
          simp (disch := omega) only [x_4_1, x_80_1_d0, x_80_1_d1, x_80_1_d2, x_80_1_d3, x_80_1_d4, x_6_0, x_35_0, x_79_3_10_d0, x_79_3_10_d1, x_79_3_10_d2, x_79_3_10_d3, x_79_3_10_d4, x_1, x_7_2_I, x_7_2_A, x_7_2_U, x_7_3_I, x_7_3_A, x_7_3_U, x_61, x_4_3, x_33, x_65, x_11, x_7_4_I, x_7_4_A, x_7_4_U, x_4_4, x_79_3_11_d0, x_79_3_11_d1, x_79_3_11_d2, x_79_3_11_d3, x_79_3_11_d4, x_68, x_10_2_I, x_10_2_A, x_10_2_U, x_10_4_I, x_10_4_A, x_10_4_U, x_60, x_10_3_I, x_10_3_A, x_10_3_U, x_4_2, x_82, cb_ri, cb_rl, cb_rv, cb_th, cb_ite, ps_s, ps_n, u_127_0, u_127_71, u_127_77, u_127_83, q39, Int.reduceEq, Int.reduceLT, Int.reduceLE, reduceIte, Int.reduceAdd, Int.reduceSub, Int.reduceMul, Int.reduceNeg, Int.reduceToNat, Bool.false_eq_true, eq_self, if_pos, if_neg, ci, w32_id]
        · intro y q hy hq
          have q39 := n39 q hq
          have c1 := cnt_le (dbB (abM (h 187 0) L) (wayW (h 187 0) L H N b) x) (x + 1 + y)
          have Yq : WyC q N (wayW (h 187 0) L H N b) := ⟨fun n hn => by rw [hq _ _ _ (by unfold lwFr; omega)]; exact a2.1 n hn, fun i hi => by rw [hq _ _ _ (by unfold lwFr; omega)]; exact a2.2.1 i hi, by rw [hq _ _ _ (by unfold lwFr; omega)]; exact a2.2.2.1, by rw [hq _ _ _ (by unfold lwFr; omega)]; exact a2.2.2.2⟩
          have bh := bothHold_c (lc + 78) x (x + 1 + y) N q _ Yq (by omega) (by omega)
          have hlt : x < x + 1 + y := by omega
          have ez : ((x + 1 + (y + 1) : Nat) : Int) = ((x + 1 + y : Nat) : Int) + 1 := by omega
          show ∃ s', _ = run _ _ _ [_, _, aI ((sumN (fun x => cnt (dbB (abM (h 187 0) L) (wayW (h 187 0) L H N b) x) H) x + (cnt (dbB (abM (h 187 0) L) (wayW (h 187 0) L H N b) x) (x + 1 + y) + if dbB (abM (h 187 0) L) (wayW (h 187 0) L H N b) x (x + 1 + y) = true then 1 else 0) : Nat) : Int), _, aI ((x + 1 + (y + 1) : Nat) : Int)] _ s' ∧ _
          generalize sumN (fun x => cnt (dbB (abM (h 187 0) L) (wayW (h 187 0) L H N b) x) H) x = sm at s1 ⊢
          rw [ez]
          cases d1 : boB (wayW (h 187 0) L H N b) x (x + 1 + y) with
          | true =>
            rw [d1] at bh
            have bh : _ = ri 1 q := bh
            obtain ⟨q2, f1, f2⟩ := could_c (lc + 75) x (x + 1 + y) H N b q (h 187 0) L (RS_lw hq (by rw [← k7]; exact R1.1.1)) I.1.2.1 (LawW_same hq W1) Yq (by omega) (by omega) d1
            have hq2 : ∀ tt k j, ¬ lwFr 0 tt k → q2 tt k j = h1 tt k j := fun tt k j hf => by rw [f2 tt k j hf]; exact hq tt k j hf
            cases d2 : cdB (abM (h 187 0) L) (wayW (h 187 0) L H N b) x (x + 1 + y) with
            | true =>
              rw [d2] at f1
              have f1 : _ = ri 1 q2 := f1
              have p : dbB (abM (h 187 0) L) (wayW (h 187 0) L H N b) x (x + 1 + y) = true := by simp [dbB, d1, d2, hlt]
              refine ⟨q2, ?_, hq2⟩
              rw [if_pos p, ← Nat.add_assoc, hd_127_36]
              generalize hz : x + 1 + y = z at *
              simp (disch := omega) only [x_4_1, x_80_1_d0, x_80_1_d1, x_80_1_d2, x_80_1_d3, x_80_1_d4, x_6_0, x_35_0, x_79_3_10_d0, x_79_3_10_d1, x_79_3_10_d2, x_79_3_10_d3, x_79_3_10_d4, x_1, x_7_2_I, x_7_2_A, x_7_2_U, x_7_3_I, x_7_3_A, x_7_3_U, x_61, x_4_3, x_33, x_65, x_11, x_7_4_I, x_7_4_A, x_7_4_U, x_4_4, x_79_3_11_d0, x_79_3_11_d1, x_79_3_11_d2, x_79_3_11_d3, x_79_3_11_d4, x_68, x_10_2_I, x_10_2_A, x_10_2_U, x_10_4_I, x_10_4_A, x_10_4_U, x_60, x_10_3_I, x_10_3_A, x_10_3_U, x_4_2, x_82, cb_ri, cb_rl, cb_rv, cb_th, cb_ite, ps_s, ps_n, u_127_0, u_127_71, u_127_77, u_127_83, q39, bh, f1, Int.reduceEq, Int.reduceLT, Int.reduceLE, reduceIte, Int.reduceAdd, Int.reduceSub, Int.reduceMul, Int.reduceNeg, Int.reduceToNat, Bool.false_eq_true, eq_self, if_pos, if_neg, ci, w32_id]
            | false =>
              rw [d2] at f1
              have f1 : _ = ri 0 q2 := f1
              have p : dbB (abM (h 187 0) L) (wayW (h 187 0) L H N b) x (x + 1 + y) = false := by simp [dbB, d2]
              refine ⟨q2, ?_, hq2⟩
              rw [if_neg (by rw [p]; exact Bool.false_ne_true), hd_127_36]
              generalize hz : x + 1 + y = z at *
              simp (disch := omega) only [x_4_1, x_80_1_d0, x_80_1_d1, x_80_1_d2, x_80_1_d3, x_80_1_d4, x_6_0, x_35_0, x_79_3_10_d0, x_79_3_10_d1, x_79_3_10_d2, x_79_3_10_d3, x_79_3_10_d4, x_1, x_7_2_I, x_7_2_A, x_7_2_U, x_7_3_I, x_7_3_A, x_7_3_U, x_61, x_4_3, x_33, x_65, x_11, x_7_4_I, x_7_4_A, x_7_4_U, x_4_4, x_79_3_11_d0, x_79_3_11_d1, x_79_3_11_d2, x_79_3_11_d3, x_79_3_11_d4, x_68, x_10_2_I, x_10_2_A, x_10_2_U, x_10_4_I, x_10_4_A, x_10_4_U, x_60, x_10_3_I, x_10_3_A, x_10_3_U, x_4_2, x_82, cb_ri, cb_rl, cb_rv, cb_th, cb_ite, ps_s, ps_n, u_127_0, u_127_71, u_127_77, u_127_83, q39, bh, f1, Nat.add_zero, Int.reduceEq, Int.reduceLT, Int.reduceLE, reduceIte, Int.reduceAdd, Int.reduceSub, Int.reduceMul, Int.reduceNeg, Int.reduceToNat, Bool.false_eq_true, eq_self, if_pos, if_neg, w32_id]
          | false =>
            rw [d1] at bh
            have bh : _ = ri 0 q := bh
            have p : dbB (abM (h 187 0) L) (wayW (h 187 0) L H N b) x (x + 1 + y) = false := by simp [dbB, d1]
            refine ⟨q, ?_, hq⟩
            rw [if_neg (by rw [p]; exact Bool.false_ne_true), hd_127_36]
            generalize hz : x + 1 + y = z at *
            simp (disch := omega) only [x_4_1, x_80_1_d0, x_80_1_d1, x_80_1_d2, x_80_1_d3, x_80_1_d4, x_6_0, x_35_0, x_79_3_10_d0, x_79_3_10_d1, x_79_3_10_d2, x_79_3_10_d3, x_79_3_10_d4, x_1, x_7_2_I, x_7_2_A, x_7_2_U, x_7_3_I, x_7_3_A, x_7_3_U, x_61, x_4_3, x_33, x_65, x_11, x_7_4_I, x_7_4_A, x_7_4_U, x_4_4, x_79_3_11_d0, x_79_3_11_d1, x_79_3_11_d2, x_79_3_11_d3, x_79_3_11_d4, x_68, x_10_2_I, x_10_2_A, x_10_2_U, x_10_4_I, x_10_4_A, x_10_4_U, x_60, x_10_3_I, x_10_3_A, x_10_3_U, x_4_2, x_82, cb_ri, cb_rl, cb_rv, cb_th, cb_ite, ps_s, ps_n, u_127_0, u_127_71, u_127_77, u_127_83, q39, bh, Nat.add_zero, Int.reduceEq, Int.reduceLT, Int.reduceLE, reduceIte, Int.reduceAdd, Int.reduceSub, Int.reduceMul, Int.reduceNeg, Int.reduceToNat, Bool.false_eq_true, eq_self, if_pos, if_neg, w32_id]
        · intro q hq
          have q39 := n39 q hq
          refine ⟨q, ?_, hq⟩
          try simp only
          rw [show x + 1 + (H - (x + 1)) = H by omega, hd_127_36]
          simp (disch := omega) only [x_4_1, x_80_1_d0, x_80_1_d1, x_80_1_d2, x_80_1_d3, x_80_1_d4, x_6_0, x_35_0, x_79_3_10_d0, x_79_3_10_d1, x_79_3_10_d2, x_79_3_10_d3, x_79_3_10_d4, x_1, x_7_2_I, x_7_2_A, x_7_2_U, x_7_3_I, x_7_3_A, x_7_3_U, x_61, x_4_3, x_33, x_65, x_11, x_7_4_I, x_7_4_A, x_7_4_U, x_4_4, x_79_3_11_d0, x_79_3_11_d1, x_79_3_11_d2, x_79_3_11_d3, x_79_3_11_d4, x_68, x_10_2_I, x_10_2_A, x_10_2_U, x_10_4_I, x_10_4_A, x_10_4_U, x_60, x_10_3_I, x_10_3_A, x_10_3_U, x_4_2, x_82, cb_ri, cb_rl, cb_rv, cb_th, cb_ite, ps_s, ps_n, u_127_0, u_127_71, u_127_77, u_127_83, q39, Int.reduceEq, Int.reduceLT, Int.reduceLE, reduceIte, Int.reduceAdd, Int.reduceSub, Int.reduceMul, Int.reduceNeg, Int.reduceToNat, Bool.false_eq_true, eq_self, if_pos, if_neg, ci, w32_id]
      · rintro ⟨v4, q⟩ hq
        simp only at hq ⊢
        have q39 : q 139 0 0 = (H : Int) := by rw [hq _ _ _ (by unfold lwFr; omega)]; exact R1.1.1.1.1
        refine ⟨q, ?_, hq⟩
        rw [hd_127_20]
        simp (disch := omega) only [x_4_1, x_80_1_d0, x_80_1_d1, x_80_1_d2, x_80_1_d3, x_80_1_d4, x_6_0, x_35_0, x_79_3_10_d0, x_79_3_10_d1, x_79_3_10_d2, x_79_3_10_d3, x_79_3_10_d4, x_1, x_7_2_I, x_7_2_A, x_7_2_U, x_7_3_I, x_7_3_A, x_7_3_U, x_61, x_4_3, x_33, x_65, x_11, x_7_4_I, x_7_4_A, x_7_4_U, x_4_4, x_79_3_11_d0, x_79_3_11_d1, x_79_3_11_d2, x_79_3_11_d3, x_79_3_11_d4, x_68, x_10_2_I, x_10_2_A, x_10_2_U, x_10_4_I, x_10_4_A, x_10_4_U, x_60, x_10_3_I, x_10_3_A, x_10_3_U, x_4_2, x_82, cb_ri, cb_rl, cb_rv, cb_th, cb_ite, ps_s, ps_n, u_127_0, u_127_71, u_127_77, u_127_83, q39, Int.reduceEq, Int.reduceLT, Int.reduceLE, reduceIte, Int.reduceAdd, Int.reduceSub, Int.reduceMul, Int.reduceNeg, Int.reduceToNat, Bool.false_eq_true, eq_self, if_pos, if_neg]
    · obtain ⟨h2, a1, a2, a3, a4, a5, a6, a7⟩ := wayI (lr + 42) H N b 0 h g I s J L hL hW hl
      have ib := isBeat_c (lr + 77) b g
      rw [if_pos c] at ib
      have m3 : h2 187 0 3 = (H : Int) := by rw [a4]; exact I.1.2.1.1.1
      refine ⟨h2, ?_, a5, a7⟩
      show cl (lr + 80) _ _ _ = _
      rw [in_287]
      simp (disch := omega) only [x_6_0, x_4_1, x_80_1_d0, x_80_1_d1, x_80_1_d2, x_80_1_d3, x_80_1_d4, x_69, x_1, x_60, x_61, x_36, x_33, x_73, x_82, x_79_2_12_d0, x_79_2_12_d1, x_79_2_12_d2, x_79_2_12_d3, x_79_2_12_d4, x_7_2_I, x_7_2_A, x_7_2_U, x_7_3_I, x_7_3_A, x_7_3_U, x_4_3, x_34, x_38_187, x_65, x_11, x_7_4_I, x_7_4_A, x_7_4_U, x_4_4, x_4_2, x_79_3_12_d0, x_79_3_12_d1, x_79_3_12_d2, x_79_3_12_d3, x_79_3_12_d4, x_68, x_10_4_I, x_10_4_A, x_10_4_U, x_10_3_I, x_10_3_A, x_10_3_U, cb_ri, cb_rl, cb_rv, cb_th, cb_ite, ps_s, ps_n, u_287_0, u_287_12, u_287_13, u_287_25, u_287_85, u_287_86, u_287_94, u_287_100, ib, hs_eq, a1, Int.reduceEq, Int.reduceLT, Int.reduceLE, reduceIte, Int.reduceAdd, Int.reduceSub, Int.reduceMul, Int.reduceNeg, Int.reduceToNat, Bool.false_eq_true, eq_self, if_pos, if_neg]
      refine loop_g (F := fun x (v : AV) => run (lr + 79) 287 34 [aA 12 0, aI b, aI ((sumN (fun x => cnt (dbB (abM (h 187 0) L) (wayW (h 187 0) L H N b) x) H) x : Nat) : Int), aI (x : Int), v] [] h2) (N := H) ?_ ?_ none
      · intro x v hx
        refine ⟨aI (H : Int), ?_⟩
        show run _ _ _ _ _ _ = run _ _ _ [_, _, aI ((sumN (fun x => cnt (dbB (abM (h 187 0) L) (wayW (h 187 0) L H N b) x) H) x + cnt (dbB (abM (h 187 0) L) (wayW (h 187 0) L H N b) x) H : Nat) : Int), _, _] _ _
        have s1 := sb x
        rw [hd_287_34]
        simp (disch := omega) only [x_6_0, x_4_1, x_80_1_d0, x_80_1_d1, x_80_1_d2, x_80_1_d3, x_80_1_d4, x_69, x_1, x_60, x_61, x_36, x_33, x_73, x_82, x_79_2_12_d0, x_79_2_12_d1, x_79_2_12_d2, x_79_2_12_d3, x_79_2_12_d4, x_7_2_I, x_7_2_A, x_7_2_U, x_7_3_I, x_7_3_A, x_7_3_U, x_4_3, x_34, x_38_187, x_65, x_11, x_7_4_I, x_7_4_A, x_7_4_U, x_4_4, x_4_2, x_79_3_12_d0, x_79_3_12_d1, x_79_3_12_d2, x_79_3_12_d3, x_79_3_12_d4, x_68, x_10_4_I, x_10_4_A, x_10_4_U, x_10_3_I, x_10_3_A, x_10_3_U, cb_ri, cb_rl, cb_rv, cb_th, cb_ite, ps_s, ps_n, u_287_0, u_287_12, u_287_13, u_287_25, u_287_85, u_287_86, u_287_94, u_287_100, m3, Int.reduceEq, Int.reduceLT, Int.reduceLE, reduceIte, Int.reduceAdd, Int.reduceSub, Int.reduceMul, Int.reduceNeg, Int.reduceToNat, Bool.false_eq_true, eq_self, if_pos, if_neg, ci, w32_id]
        have main := loop_up (F := fun y => run (lr + 79) 287 49 [aA 12 0, aI b, aI ((sumN (fun x => cnt (dbB (abM (h 187 0) L) (wayW (h 187 0) L H N b) x) H) x + cnt (dbB (abM (h 187 0) L) (wayW (h 187 0) L H N b) x) (x + 1 + y) : Nat) : Int), aI (x : Int), aI ((x + 1 + y : Nat) : Int)] [] h2) (N := H - (x + 1)) (r := run (lr + 79) 287 34 [aA 12 0, aI b, aI ((sumN (fun x => cnt (dbB (abM (h 187 0) L) (wayW (h 187 0) L H N b) x) H) x + cnt (dbB (abM (h 187 0) L) (wayW (h 187 0) L H N b) x) H : Nat) : Int), aI ((x + 1 : Nat) : Int), aI (H : Int)] [] h2) ?_ ?_ 0 (by omega)
        · simp only [Nat.add_zero, db_0 _ _ x (x + 1) (Nat.le_refl _)] at main
          exact main
        · intro y hy
          have c1 := cnt_le (dbB (abM (h 187 0) L) (wayW (h 187 0) L H N b) x) (x + 1 + y)
          have bh := haveBoth_m (lr + 78) x (x + 1 + y) h2 _ a2 (by omega) (by omega)
          have hlt : x < x + 1 + y := by omega
          have ez : ((x + 1 + (y + 1) : Nat) : Int) = ((x + 1 + y : Nat) : Int) + 1 := by omega
          show run _ _ _ _ _ _ = run _ _ _ [_, _, aI ((sumN (fun x => cnt (dbB (abM (h 187 0) L) (wayW (h 187 0) L H N b) x) H) x + (cnt (dbB (abM (h 187 0) L) (wayW (h 187 0) L H N b) x) (x + 1 + y) + if dbB (abM (h 187 0) L) (wayW (h 187 0) L H N b) x (x + 1 + y) = true then 1 else 0) : Nat) : Int), _, aI ((x + 1 + (y + 1) : Nat) : Int)] _ _
          generalize sumN (fun x => cnt (dbB (abM (h 187 0) L) (wayW (h 187 0) L H N b) x) H) x = sm at s1 ⊢
          rw [ez, hd_287_49]
          cases d1 : boB (wayW (h 187 0) L H N b) x (x + 1 + y) with
          | true =>
            rw [d1] at bh
            have bh : _ = ri 1 h2 := bh
            have is := isSure_m (lr + 78) x (x + 1 + y) H N b h2 (h 187 0) L hH hN a2 a3 (by omega) (by omega) d1
            cases d2 : cdB (abM (h 187 0) L) (wayW (h 187 0) L H N b) x (x + 1 + y) with
            | true =>
              rw [d2] at is
              have is : _ = ri 0 h2 := is
              have p : dbB (abM (h 187 0) L) (wayW (h 187 0) L H N b) x (x + 1 + y) = true := by simp [dbB, d1, d2, hlt]
              rw [if_pos p, ← Nat.add_assoc]
              generalize hz : x + 1 + y = z at *
              simp (disch := omega) only [x_6_0, x_4_1, x_80_1_d0, x_80_1_d1, x_80_1_d2, x_80_1_d3, x_80_1_d4, x_69, x_1, x_60, x_61, x_36, x_33, x_73, x_82, x_79_2_12_d0, x_79_2_12_d1, x_79_2_12_d2, x_79_2_12_d3, x_79_2_12_d4, x_7_2_I, x_7_2_A, x_7_2_U, x_7_3_I, x_7_3_A, x_7_3_U, x_4_3, x_34, x_38_187, x_65, x_11, x_7_4_I, x_7_4_A, x_7_4_U, x_4_4, x_4_2, x_79_3_12_d0, x_79_3_12_d1, x_79_3_12_d2, x_79_3_12_d3, x_79_3_12_d4, x_68, x_10_4_I, x_10_4_A, x_10_4_U, x_10_3_I, x_10_3_A, x_10_3_U, cb_ri, cb_rl, cb_rv, cb_th, cb_ite, ps_s, ps_n, u_287_0, u_287_12, u_287_13, u_287_25, u_287_85, u_287_86, u_287_94, u_287_100, m3, bh, is, Int.reduceEq, Int.reduceLT, Int.reduceLE, reduceIte, Int.reduceAdd, Int.reduceSub, Int.reduceMul, Int.reduceNeg, Int.reduceToNat, Bool.false_eq_true, eq_self, if_pos, if_neg, ci, w32_id]
            | false =>
              rw [d2] at is
              have is : _ = ri 1 h2 := is
              have p : dbB (abM (h 187 0) L) (wayW (h 187 0) L H N b) x (x + 1 + y) = false := by simp [dbB, d2]
              rw [if_neg (by rw [p]; exact Bool.false_ne_true)]
              generalize hz : x + 1 + y = z at *
              simp (disch := omega) only [x_6_0, x_4_1, x_80_1_d0, x_80_1_d1, x_80_1_d2, x_80_1_d3, x_80_1_d4, x_69, x_1, x_60, x_61, x_36, x_33, x_73, x_82, x_79_2_12_d0, x_79_2_12_d1, x_79_2_12_d2, x_79_2_12_d3, x_79_2_12_d4, x_7_2_I, x_7_2_A, x_7_2_U, x_7_3_I, x_7_3_A, x_7_3_U, x_4_3, x_34, x_38_187, x_65, x_11, x_7_4_I, x_7_4_A, x_7_4_U, x_4_4, x_4_2, x_79_3_12_d0, x_79_3_12_d1, x_79_3_12_d2, x_79_3_12_d3, x_79_3_12_d4, x_68, x_10_4_I, x_10_4_A, x_10_4_U, x_10_3_I, x_10_3_A, x_10_3_U, cb_ri, cb_rl, cb_rv, cb_th, cb_ite, ps_s, ps_n, u_287_0, u_287_12, u_287_13, u_287_25, u_287_85, u_287_86, u_287_94, u_287_100, m3, bh, is, Nat.add_zero, Int.reduceEq, Int.reduceLT, Int.reduceLE, reduceIte, Int.reduceAdd, Int.reduceSub, Int.reduceMul, Int.reduceNeg, Int.reduceToNat, Bool.false_eq_true, eq_self, if_pos, if_neg, w32_id, Int.add_zero]
          | false =>
            rw [d1] at bh
            have bh : _ = ri 0 h2 := bh
            have p : dbB (abM (h 187 0) L) (wayW (h 187 0) L H N b) x (x + 1 + y) = false := by simp [dbB, d1]
            rw [if_neg (by rw [p]; exact Bool.false_ne_true)]
            generalize hz : x + 1 + y = z at *
            simp (disch := omega) only [x_6_0, x_4_1, x_80_1_d0, x_80_1_d1, x_80_1_d2, x_80_1_d3, x_80_1_d4, x_69, x_1, x_60, x_61, x_36, x_33, x_73, x_82, x_79_2_12_d0, x_79_2_12_d1, x_79_2_12_d2, x_79_2_12_d3, x_79_2_12_d4, x_7_2_I, x_7_2_A, x_7_2_U, x_7_3_I, x_7_3_A, x_7_3_U, x_4_3, x_34, x_38_187, x_65, x_11, x_7_4_I, x_7_4_A, x_7_4_U, x_4_4, x_4_2, x_79_3_12_d0, x_79_3_12_d1, x_79_3_12_d2, x_79_3_12_d3, x_79_3_12_d4, x_68, x_10_4_I, x_10_4_A, x_10_4_U, x_10_3_I, x_10_3_A, x_10_3_U, cb_ri, cb_rl, cb_rv, cb_th, cb_ite, ps_s, ps_n, u_287_0, u_287_12, u_287_13, u_287_25, u_287_85, u_287_86, u_287_94, u_287_100, m3, bh, Nat.add_zero, Int.reduceEq, Int.reduceLT, Int.reduceLE, reduceIte, Int.reduceAdd, Int.reduceSub, Int.reduceMul, Int.reduceNeg, Int.reduceToNat, Bool.false_eq_true, eq_self, if_pos, if_neg, w32_id, Int.add_zero]
        · show run _ _ _ _ _ _ = _
          rw [show x + 1 + (H - (x + 1)) = H by omega, hd_287_49]
          simp (disch := omega) only [x_6_0, x_4_1, x_80_1_d0, x_80_1_d1, x_80_1_d2, x_80_1_d3, x_80_1_d4, x_69, x_1, x_60, x_61, x_36, x_33, x_73, x_82, x_79_2_12_d0, x_79_2_12_d1, x_79_2_12_d2, x_79_2_12_d3, x_79_2_12_d4, x_7_2_I, x_7_2_A, x_7_2_U, x_7_3_I, x_7_3_A, x_7_3_U, x_4_3, x_34, x_38_187, x_65, x_11, x_7_4_I, x_7_4_A, x_7_4_U, x_4_4, x_4_2, x_79_3_12_d0, x_79_3_12_d1, x_79_3_12_d2, x_79_3_12_d3, x_79_3_12_d4, x_68, x_10_4_I, x_10_4_A, x_10_4_U, x_10_3_I, x_10_3_A, x_10_3_U, cb_ri, cb_rl, cb_rv, cb_th, cb_ite, ps_s, ps_n, u_287_0, u_287_12, u_287_13, u_287_25, u_287_85, u_287_86, u_287_94, u_287_100, m3, Int.reduceEq, Int.reduceLT, Int.reduceLE, reduceIte, Int.reduceAdd, Int.reduceSub, Int.reduceMul, Int.reduceNeg, Int.reduceToNat, Bool.false_eq_true, eq_self, if_pos, if_neg, ci, w32_id]
      · intro v
        show run _ _ _ _ _ _ = _
        rw [hd_287_34]
        simp (disch := omega) only [x_6_0, x_4_1, x_80_1_d0, x_80_1_d1, x_80_1_d2, x_80_1_d3, x_80_1_d4, x_69, x_1, x_60, x_61, x_36, x_33, x_73, x_82, x_79_2_12_d0, x_79_2_12_d1, x_79_2_12_d2, x_79_2_12_d3, x_79_2_12_d4, x_7_2_I, x_7_2_A, x_7_2_U, x_7_3_I, x_7_3_A, x_7_3_U, x_4_3, x_34, x_38_187, x_65, x_11, x_7_4_I, x_7_4_A, x_7_4_U, x_4_4, x_4_2, x_79_3_12_d0, x_79_3_12_d1, x_79_3_12_d2, x_79_3_12_d3, x_79_3_12_d4, x_68, x_10_4_I, x_10_4_A, x_10_4_U, x_10_3_I, x_10_3_A, x_10_3_U, cb_ri, cb_rl, cb_rv, cb_th, cb_ite, ps_s, ps_n, u_287_0, u_287_12, u_287_13, u_287_25, u_287_85, u_287_86, u_287_94, u_287_100, m3, Int.reduceEq, Int.reduceLT, Int.reduceLE, reduceIte, Int.reduceAdd, Int.reduceSub, Int.reduceMul, Int.reduceNeg, Int.reduceToNat, Bool.false_eq_true, eq_self, if_pos, if_neg]
  · rw [if_neg c] at cb
    refine AGt_e I 2 (by decide) ⟨h, ?_, Sm_r _ _⟩ (fun g s J => ⟨0, hset g 186 0 0 1, ?_, hs_eq _ _ _ _ _, rsc_186 g 1⟩)
    · show cl (lc + 80) _ _ _ = _
      rw [in_127]
      simp (disch := omega) only [x_4_1, x_80_1_d0, x_80_1_d1, x_80_1_d2, x_80_1_d3, x_80_1_d4, x_6_0, x_35_0, x_79_3_10_d0, x_79_3_10_d1, x_79_3_10_d2, x_79_3_10_d3, x_79_3_10_d4, x_1, x_7_2_I, x_7_2_A, x_7_2_U, x_7_3_I, x_7_3_A, x_7_3_U, x_61, x_4_3, x_33, x_65, x_11, x_7_4_I, x_7_4_A, x_7_4_U, x_4_4, x_79_3_11_d0, x_79_3_11_d1, x_79_3_11_d2, x_79_3_11_d3, x_79_3_11_d4, x_68, x_10_2_I, x_10_2_A, x_10_2_U, x_10_4_I, x_10_4_A, x_10_4_U, x_60, x_10_3_I, x_10_3_A, x_10_3_U, x_4_2, x_82, cb_ri, cb_rl, cb_rv, cb_th, cb_ite, ps_s, ps_n, u_127_0, u_127_71, u_127_77, u_127_83, cb]
    · show cl (lr + 80) _ _ _ = _
      have ib := isBeat_c (lr + 77) b g
      rw [if_neg c] at ib
      rw [in_287]
      simp (disch := omega) only [x_6_0, x_4_1, x_80_1_d0, x_80_1_d1, x_80_1_d2, x_80_1_d3, x_80_1_d4, x_69, x_1, x_60, x_61, x_36, x_33, x_73, x_82, x_79_2_12_d0, x_79_2_12_d1, x_79_2_12_d2, x_79_2_12_d3, x_79_2_12_d4, x_7_2_I, x_7_2_A, x_7_2_U, x_7_3_I, x_7_3_A, x_7_3_U, x_4_3, x_34, x_38_187, x_65, x_11, x_7_4_I, x_7_4_A, x_7_4_U, x_4_4, x_4_2, x_79_3_12_d0, x_79_3_12_d1, x_79_3_12_d2, x_79_3_12_d3, x_79_3_12_d4, x_68, x_10_4_I, x_10_4_A, x_10_4_U, x_10_3_I, x_10_3_A, x_10_3_U, cb_ri, cb_rl, cb_rv, cb_th, cb_ite, ps_s, ps_n, u_287_0, u_287_12, u_287_13, u_287_25, u_287_85, u_287_86, u_287_94, u_287_100, ib, hs_eq, Int.reduceEq, Int.reduceLT, Int.reduceLE, reduceIte, Int.reduceAdd, Int.reduceSub, Int.reduceMul, Int.reduceNeg, Int.reduceToNat, Bool.false_eq_true, eq_self, if_pos, if_neg]
