/-! QUESTIONS OF A HAND, A NOTE. -/
theorem sw2D : swD 2 = 139 := id rfl
theorem sw2T : swT 2 = [(0, 52), (1, 62), (2, 72), (3, 82), (4, 92), (5, 102), (6, 114), (7, 126)] := id rfl
theorem sw4D : swD 4 = 103 := id rfl
theorem sw4T : swT 4 = [(0, 40), (1, 50), (2, 60), (3, 70), (4, 82)] := id rfl
theorem sw6D : swD 6 = 95 := id rfl
theorem sw6T : swT 6 = [(0, 80), (1, 85), (2, 90)] := id rfl
theorem atB_u {M : Nat → Int} {j : Nat} {v b : Int} {n : Nat} (hj : j < 50) : atB (upM M j v) b n = atB M b n := by
  unfold atB stB
  rw [up_ne (by omega), up_ne (by omega)]
theorem abM_bd {M : Nat → Int} {L : List LN} {n x i : Nat} (hi : i < 6) (hx : x < 6) : abM (upM M (14 + 6 * i + 5) 1) L n x = (abM M L n x && !decide (i = x)) := by
  have e1 : ∀ j, (50 ≤ j ∨ j < 14) → upM M (14 + 6 * i + 5) 1 j = M j := fun j hj => up_ne (by omega)
  unfold abM stB canB bdB rchV nmH nmV
  rw [e1 (50 + 4 * n) (by omega), e1 (50 + 4 * n + 1) (by omega), e1 (50 + 4 * n + 2) (by omega), e1 (50 + 4 * n + 3) (by omega), e1 6 (by omega), up_ne (show ¬ 14 + 6 * x = 14 + 6 * i + 5 by omega), up_ne (show ¬ 14 + 6 * x + 1 = 14 + 6 * i + 5 by omega), up_ne (show ¬ 14 + 6 * x + 2 = 14 + 6 * i + 5 by omega), up_ne (show ¬ 14 + 6 * x + 3 = 14 + 6 * i + 5 by omega), up_ne (show ¬ 14 + 6 * x + 4 = 14 + 6 * i + 5 by omega)]
  by_cases c : i = x
  · subst c
    rw [up_eq]
    simp
  · rw [up_ne (by omega), decide_eq_false c]
    simp
theorem alB_v {ab : Nat → Nat → Bool} {H aw n x : Nat} : alB (cnA ab H) aw n x = ((decide (x < H) && ab n x) && !aw.testBit x) := by unfold alB cnA; rw [bsN_bit]
theorem missed_eq {M : Nat → Int} {L : List LN} {H N i : Nat} (hH : H ≤ 6) (hi : i < H) : ((lvN (alB (cnA (abM M L) H) (2 ^ i)) M N : Nat) : Int) - (lvN (alB (cnA (abM M L) H) 0) M N : Nat) = msV M L H N i := by
  have k1 : hmK H (-1) = H := if_pos rfl
  have a0 : lvN (alB (cnA (abM M L) H) 0) M N = ovM M L H N (-1) := by
    unfold ovM
    refine lv_ov _ (by rw [k1]; omega) (fun n hn x hx => ?_)
    rw [alB_v, k1]
    by_cases c : x < H
    · rw [cansM_ab c]; simp [c]
    · simp [c]
  have a1 : lvN (alB (cnA (abM M L) H) (2 ^ i)) M N = ovM (upM M (14 + 6 * i + 5) 1) L H N (-1) := by
    have e : lvN (alB (cnA (abM M L) H) (2 ^ i)) M N = lvN (alB (cnA (abM M L) H) (2 ^ i)) (upM M (14 + 6 * i + 5) 1) N := by
      unfold lvN
      refine sumN_congr (fun b hb => ?_)
      have : atB (upM M (14 + 6 * i + 5) 1) (b : Int) = atB M (b : Int) := funext (fun n => atB_u (by omega))
      rw [this]
    rw [e]
    unfold ovM
    refine lv_ov _ (by rw [k1]; omega) (fun n hn x hx => ?_)
    rw [alB_v, k1, Nat.testBit_two_pow]
    by_cases c : x < H
    · rw [cansM_ab c, abM_bd (by omega) (by omega)]; simp [c]
    · simp [c]
  unfold msV
  rw [a0, a1]
theorem missed_c (lv H N i : Nat) (h : Hp) (I : INV h H N) (L : List LN) (W : LawW h 0 L) (hi : i < H) : ∃ h', cl (lv + 11) 19 [aA 3 0, aA 7 0, aI (i : Int)] h = ri (msV (h 187 0) L H N i) h' ∧ Sm csc h h' := by
  have hH := I.1.2.1.1.2.1
  obtain ⟨h', e1, e2⟩ := missedOf_c lv 0 i H N (h 187 0) h (abM (h 187 0) L) (AbS_of I.1.1 I.1.2.1 W) I.1.1.2.1 (fun n hn => (I.1.2.1.2.1.2.2.1 n hn).1) (by omega)
  rw [missed_eq hH hi] at e1
  exact ⟨h', e1, fun tt k j hf => e2 tt k j (by unfold csc at hf; unfold miFr gaFr lwFr lvFr; omega)⟩
theorem rsc_oc {g g' : Hp} (e : ∀ tt k j, ¬ ocFr tt k → g' tt k j = g tt k j) : Sm rsc g g' := fun tt k j hf => e tt k j (by unfold rsc at hf; unfold ocFr loFr mbFr maFr crFr; omega)
theorem rsc_wi {g g' : Hp} (e : ∀ tt k j, ¬ wiFr tt k → g' tt k j = g tt k j) : Sm rsc g g' := fun tt k j hf => e tt k j (by unfold rsc at hf; unfold wiFr loFr mbFr maFr woFr crFr; omega)
theorem rsc_mb {g g' : Hp} (e : ∀ tt k j, ¬ mbFr tt k → g' tt k j = g tt k j) : Sm rsc g g' := fun tt k j hf => e tt k j (by unfold rsc at hf; unfold mbFr maFr; omega)
theorem csc_lw {g g' : Hp} (e : ∀ tt k j, ¬ lwFr 0 tt k → g' tt k j = g tt k j) : Sm csc g g' := fun tt k j hf => e tt k j (by unfold csc at hf; unfold lwFr; omega)
theorem csc_fw {g g' : Hp} (e : ∀ tt k j, ¬ fwFr tt k → g' tt k j = g tt k j) : Sm csc g g' := fun tt k j hf => e tt k j (by unfold csc at hf; unfold fwFr lwFr; omega)
/-- the reference's thrown number is set: all the rest stays -/
theorem INV_186 {g : Hp} {H N : Nat} (v : Int) (J : INV g H N) : INV (hset g 186 0 0 v) H N := INV_scr (Sm_w (fun _ _ => scr_m) (rsc_186 g v)) J
theorem LM_186 {g : Hp} {L : List LN} (v : Int) (h : LM (g 187 0) L) : LM (hset g 186 0 0 v 187 0) L := by rw [h186_m]; exact h
theorem ag_fault (lc lr H N : Nat) (h : Hp) (I : INV h H N) : AGp (fun h => cl (lc + 80) 88 [aA 11 0] h) (fun h => cl (lr + 80) 211 [aA 12 0] h) h := by
  refine AGp_q I (v := h 184 0 0) ⟨h, ?_, Sm_r _ _⟩ (fun g s J => ⟨hset g 186 0 0 0, ?_, rsc_186 g 0⟩)
  · show cl (lc + 80) _ _ _ = _
    rw [in_88]
    simp (disch := omega) only [x_6_0, x_33, x_82, u_88_0]
  · show cl (lr + 80) _ _ _ = _
    have e : g 198 0 0 = h 184 0 0 := by rw [← J.2.2.2.2.1]; exact s _ _ _ (by unfold scr csc rsc stTag; omega)
    rw [in_211]
    simp (disch := omega) only [x_6_0, x_1, x_36, x_33, x_82, u_211_0, hs_t, e]
theorem ag_hand (lc lr H N : Nat) (p w : Int) (h : Hp) (I : INV h H N) : AGt t24 (fun h => cl (lc + 80) 89 [aA 11 0, aI p, aI w] h) (fun h => cl (lr + 80) 233 [aA 12 0, aI p, aI w] h) h := by
  have hH := I.1.2.1.1.2.1
  have ch := checkHand_c (lc + 78) H p h I.1.1.1.1
  obtain ⟨L, W, hL, hW, hl⟩ := INV_law I
  by_cases c : 0 ≤ p ∧ p < H
  · rw [if_pos c] at ch
    obtain ⟨i, rfl⟩ : ∃ i : Nat, p = (i : Int) := ⟨p.toNat, by omega⟩
    have hi : i < H := by omega
    obtain ⟨p0, p1, p2, p3, p4⟩ := I.1.1.1.2.2.2 i hi
    have ih : ∀ g, INV g H N → cl (lr + 79) 176 [aA 12 0, aI (i : Int)] g = ri 1 g := fun g J => by
      have := isHand_c (lr + 77) H (i : Int) g J.1.2.1.1.1 hH
      rw [if_pos c] at this; exact this
    by_cases cw : 0 ≤ w ∧ w < 8
    · obtain ⟨f, rfl⟩ : ∃ f : Nat, w = (f : Int) := ⟨w.toNat, by omega⟩
      have iw : ∀ g : Hp, cl (lr + 79) 168 [aI (f : Int), aI 0, aI 7] g = ri 1 g := fun g => by have := isIn_c (lr + 78) (f : Int) 0 7 g; rw [if_pos (by omega)] at this; exact this
      by_cases c6 : f < 6
      · -- what stands in the memory
        have vv : ∀ g, Sm scr h g → INV g H N → ∃ h2, cl (lr + 80) 233 [aA 12 0, aI (i : Int), aI (f : Int)] g = ri (h 187 0 (14 + 6 * i + f)) h2 ∧ h2 186 0 0 = 0 ∧ Sm rsc g h2 := by
          intro g s J
          have it := its_c (lr + 78) i f (hset g 186 0 0 0) (by omega) c6
          rw [h186_m, Sm_187 s scr_187] at it
          refine ⟨hset g 186 0 0 0, ?_, hs_eq _ _ _ _ _, rsc_186 g 0⟩
          rw [in_233]
          simp (disch := omega) only [x_6_0, x_4_1, x_79_2_12_d0, x_79_2_12_d1, x_79_2_12_d2, x_79_2_12_d3, x_79_2_12_d4, x_69, x_1, x_60, x_4_2, x_80_3_d0, x_80_3_d1, x_80_3_d2, x_80_3_d3, x_80_3_d4, x_61, x_36, x_33, x_73, x_82, x_65, x_79_3_12_d0, x_79_3_12_d1, x_79_3_12_d2, x_79_3_12_d3, x_79_3_12_d4, x_63, cb_ri, cb_rl, cb_rv, cb_th, cb_ite, ps_s, ps_n, u_233_0, u_233_13, u_233_27, u_233_28, u_233_40, u_233_53, u_233_67, u_233_72, ih g J, iw, hs_eq, it, Int.reduceEq, Int.reduceLT, Int.reduceLE, reduceIte, Int.reduceAdd, Int.reduceSub, Int.reduceMul, Int.reduceNeg, Int.reduceToNat, Bool.false_eq_true, eq_self, if_pos, if_neg]
        refine AGt_q I (v := h 187 0 (14 + 6 * i + f)) ⟨h, ?_, Sm_r _ _⟩ vv
        show cl (lc + 80) _ _ _ = _
        rw [in_89]
        have hf : f = 0 ∨ f = 1 ∨ f = 2 ∨ f = 3 ∨ f = 4 ∨ f = 5 := by omega
        rcases hf with rfl | rfl | rfl | rfl | rfl | rfl
        · simp (disch := omega) only [x_6_0, x_4_1, x_79_2_11_d0, x_79_2_11_d1, x_79_2_11_d2, x_79_2_11_d3, x_79_2_11_d4, x_4_2, x_76, x_35_0, x_34, x_38_129, x_38_130, x_38_131, x_38_132, x_38_133, x_82, x_33, x_21, x_1, x_17, x_79_2_4_d0, x_79_2_4_d1, x_79_2_4_d2, x_79_2_4_d3, x_79_2_4_d4, x_79_3_3_d0, x_79_3_3_d1, x_79_3_3_d2, x_79_3_3_d3, x_79_3_3_d4, x_84, cb_ri, cb_rl, cb_rv, cb_th, cb_ite, ps_s, ps_n, sw_n, sw_c, u_89_0, u_89_52, u_89_62, u_89_72, u_89_82, u_89_92, u_89_102, u_89_114, u_89_126, u_89_139, ch, sw2D, sw2T, tn, p0, Int.reduceEq, Int.reduceLT, Int.reduceLE, reduceIte, Int.reduceAdd, Int.reduceSub, Int.reduceMul, Int.reduceNeg, Int.reduceToNat, Bool.false_eq_true, eq_self, if_pos, if_neg, Int.natCast_zero]
          rfl
        · simp (disch := omega) only [x_6_0, x_4_1, x_79_2_11_d0, x_79_2_11_d1, x_79_2_11_d2, x_79_2_11_d3, x_79_2_11_d4, x_4_2, x_76, x_35_0, x_34, x_38_129, x_38_130, x_38_131, x_38_132, x_38_133, x_82, x_33, x_21, x_1, x_17, x_79_2_4_d0, x_79_2_4_d1, x_79_2_4_d2, x_79_2_4_d3, x_79_2_4_d4, x_79_3_3_d0, x_79_3_3_d1, x_79_3_3_d2, x_79_3_3_d3, x_79_3_3_d4, x_84, cb_ri, cb_rl, cb_rv, cb_th, cb_ite, ps_s, ps_n, sw_n, sw_c, u_89_0, u_89_52, u_89_62, u_89_72, u_89_82, u_89_92, u_89_102, u_89_114, u_89_126, u_89_139, ch, sw2D, sw2T, tn, p1, Int.reduceEq, Int.reduceLT, Int.reduceLE, reduceIte, Int.reduceAdd, Int.reduceSub, Int.reduceMul, Int.reduceNeg, Int.reduceToNat, Bool.false_eq_true, eq_self, if_pos, if_neg, Int.natCast_one]
        · have e2 : ((2 : Nat) : Int) = 2 := rfl
          simp (disch := omega) only [x_6_0, x_4_1, x_79_2_11_d0, x_79_2_11_d1, x_79_2_11_d2, x_79_2_11_d3, x_79_2_11_d4, x_4_2, x_76, x_35_0, x_34, x_38_129, x_38_130, x_38_131, x_38_132, x_38_133, x_82, x_33, x_21, x_1, x_17, x_79_2_4_d0, x_79_2_4_d1, x_79_2_4_d2, x_79_2_4_d3, x_79_2_4_d4, x_79_3_3_d0, x_79_3_3_d1, x_79_3_3_d2, x_79_3_3_d3, x_79_3_3_d4, x_84, cb_ri, cb_rl, cb_rv, cb_th, cb_ite, ps_s, ps_n, sw_n, sw_c, u_89_0, u_89_52, u_89_62, u_89_72, u_89_82, u_89_92, u_89_102, u_89_114, u_89_126, u_89_139, ch, sw2D, sw2T, tn, p2, e2, Int.reduceEq, Int.reduceLT, Int.reduceLE, reduceIte, Int.reduceAdd, Int.reduceSub, Int.reduceMul, Int.reduceNeg, Int.reduceToNat, Bool.false_eq_true, eq_self, if_pos, if_neg]
        · have e2 : ((3 : Nat) : Int) = 3 := rfl
          simp (disch := omega) only [x_6_0, x_4_1, x_79_2_11_d0, x_79_2_11_d1, x_79_2_11_d2, x_79_2_11_d3, x_79_2_11_d4, x_4_2, x_76, x_35_0, x_34, x_38_129, x_38_130, x_38_131, x_38_132, x_38_133, x_82, x_33, x_21, x_1, x_17, x_79_2_4_d0, x_79_2_4_d1, x_79_2_4_d2, x_79_2_4_d3, x_79_2_4_d4, x_79_3_3_d0, x_79_3_3_d1, x_79_3_3_d2, x_79_3_3_d3, x_79_3_3_d4, x_84, cb_ri, cb_rl, cb_rv, cb_th, cb_ite, ps_s, ps_n, sw_n, sw_c, u_89_0, u_89_52, u_89_62, u_89_72, u_89_82, u_89_92, u_89_102, u_89_114, u_89_126, u_89_139, ch, sw2D, sw2T, tn, p3, e2, Int.reduceEq, Int.reduceLT, Int.reduceLE, reduceIte, Int.reduceAdd, Int.reduceSub, Int.reduceMul, Int.reduceNeg, Int.reduceToNat, Bool.false_eq_true, eq_self, if_pos, if_neg]
        · have e2 : ((4 : Nat) : Int) = 4 := rfl
          simp (disch := omega) only [x_6_0, x_4_1, x_79_2_11_d0, x_79_2_11_d1, x_79_2_11_d2, x_79_2_11_d3, x_79_2_11_d4, x_4_2, x_76, x_35_0, x_34, x_38_129, x_38_130, x_38_131, x_38_132, x_38_133, x_82, x_33, x_21, x_1, x_17, x_79_2_4_d0, x_79_2_4_d1, x_79_2_4_d2, x_79_2_4_d3, x_79_2_4_d4, x_79_3_3_d0, x_79_3_3_d1, x_79_3_3_d2, x_79_3_3_d3, x_79_3_3_d4, x_84, cb_ri, cb_rl, cb_rv, cb_th, cb_ite, ps_s, ps_n, sw_n, sw_c, u_89_0, u_89_52, u_89_62, u_89_72, u_89_82, u_89_92, u_89_102, u_89_114, u_89_126, u_89_139, ch, sw2D, sw2T, tn, p4, e2, Int.reduceEq, Int.reduceLT, Int.reduceLE, reduceIte, Int.reduceAdd, Int.reduceSub, Int.reduceMul, Int.reduceNeg, Int.reduceToNat, Bool.false_eq_true, eq_self, if_pos, if_neg]
        · have e2 : ((5 : Nat) : Int) = 5 := rfl
          obtain ⟨cc, c1, c2, c3⟩ := I.1.1.1.2.2.1
          have bt := bit_n (a := cc) (i := i) (by omega) (by omega)
          rw [c3 i hi] at bt
          have gb := (I.1.2.1.1.2.2 i hi).2.2.2.2.2
          have bv : (if bdB (h 187 0) i = true then (1 : Int) else 0) = h 187 0 (14 + 6 * i + 5) := by
            unfold bdB
            rcases gb with z | z
            · simp [z]
            · simp [z]
          rw [bv] at bt
          simp (disch := omega) only [x_6_0, x_4_1, x_79_2_11_d0, x_79_2_11_d1, x_79_2_11_d2, x_79_2_11_d3, x_79_2_11_d4, x_4_2, x_76, x_35_0, x_34, x_38_129, x_38_130, x_38_131, x_38_132, x_38_133, x_82, x_33, x_21, x_1, x_17, x_79_2_4_d0, x_79_2_4_d1, x_79_2_4_d2, x_79_2_4_d3, x_79_2_4_d4, x_79_3_3_d0, x_79_3_3_d1, x_79_3_3_d2, x_79_3_3_d3, x_79_3_3_d4, x_84, cb_ri, cb_rl, cb_rv, cb_th, cb_ite, ps_s, ps_n, sw_n, sw_c, u_89_0, u_89_52, u_89_62, u_89_72, u_89_82, u_89_92, u_89_102, u_89_114, u_89_126, u_89_139, ch, sw2D, sw2T, c1, bt, e2, Int.reduceEq, Int.reduceLT, Int.reduceLE, reduceIte, Int.reduceAdd, Int.reduceSub, Int.reduceMul, Int.reduceNeg, Int.reduceToNat, Bool.false_eq_true, eq_self, if_pos, if_neg]
      · by_cases c7 : f = 6
        · subst c7
          have e2 : ((6 : Nat) : Int) = 6 := rfl
          obtain ⟨nw, S, -, -, -, d4, d5, -⟩ := I.1.1.2.2.2
          refine AGt_q I (v := shareS (h 187 0) (i : Int) S) ⟨h, ?_, Sm_r _ _⟩ (fun g s J => ⟨hset g 186 0 0 0, ?_, hs_eq _ _ _ _ _, rsc_186 g 0⟩)
          · show cl (lc + 80) _ _ _ = _
            have so := shareOf_c (lc + 76) 0 S (i : Int) (h 187 0) h I.1.1.2.2.2 d4
            rw [in_89]
            simp (disch := omega) only [x_6_0, x_4_1, x_79_2_11_d0, x_79_2_11_d1, x_79_2_11_d2, x_79_2_11_d3, x_79_2_11_d4, x_4_2, x_76, x_35_0, x_34, x_38_129, x_38_130, x_38_131, x_38_132, x_38_133, x_82, x_33, x_21, x_1, x_17, x_79_2_4_d0, x_79_2_4_d1, x_79_2_4_d2, x_79_2_4_d3, x_79_2_4_d4, x_79_3_3_d0, x_79_3_3_d1, x_79_3_3_d2, x_79_3_3_d3, x_79_3_3_d4, x_84, cb_ri, cb_rl, cb_rv, cb_th, cb_ite, ps_s, ps_n, sw_n, sw_c, u_89_0, u_89_52, u_89_62, u_89_72, u_89_82, u_89_92, u_89_102, u_89_114, u_89_126, u_89_139, ch, sw2D, sw2T, so, e2, Int.reduceEq, Int.reduceLT, Int.reduceLE, reduceIte, Int.reduceAdd, Int.reduceSub, Int.reduceMul, Int.reduceNeg, Int.reduceToNat, Bool.false_eq_true, eq_self, if_pos, if_neg]
          · show cl (lr + 80) _ _ _ = _
            have so := mShareOf_c (lr + 77) S (i : Int) (hset g 186 0 0 0) (by rw [h186_m, Sm_187 s scr_187]; exact d4) d5
            rw [h186_m, Sm_187 s scr_187] at so
            have iw := iw g
            rw [e2] at iw
            rw [in_233]
            simp (disch := omega) only [x_6_0, x_4_1, x_79_2_12_d0, x_79_2_12_d1, x_79_2_12_d2, x_79_2_12_d3, x_79_2_12_d4, x_69, x_1, x_60, x_4_2, x_80_3_d0, x_80_3_d1, x_80_3_d2, x_80_3_d3, x_80_3_d4, x_61, x_36, x_33, x_73, x_82, x_65, x_79_3_12_d0, x_79_3_12_d1, x_79_3_12_d2, x_79_3_12_d3, x_79_3_12_d4, x_63, cb_ri, cb_rl, cb_rv, cb_th, cb_ite, ps_s, ps_n, u_233_0, u_233_13, u_233_27, u_233_28, u_233_40, u_233_53, u_233_67, u_233_72, ih g J, iw, hs_eq, so, e2, Int.reduceEq, Int.reduceLT, Int.reduceLE, reduceIte, Int.reduceAdd, Int.reduceSub, Int.reduceMul, Int.reduceNeg, Int.reduceToNat, Bool.false_eq_true, eq_self, if_pos, if_neg]
        · have : f = 7 := by omega
          subst this
          have e2 : ((7 : Nat) : Int) = 7 := rfl
          refine AGt_q I (v := msV (h 187 0) L H N i) ?_ (fun g s J => ?_)
          · obtain ⟨h', m1, m2⟩ := missed_c (lc + 68) H N i h I L W hi
            refine ⟨h', ?_, m2⟩
            show cl (lc + 80) _ _ _ = _
            rw [in_89]
            simp (disch := omega) only [x_6_0, x_4_1, x_79_2_11_d0, x_79_2_11_d1, x_79_2_11_d2, x_79_2_11_d3, x_79_2_11_d4, x_4_2, x_76, x_35_0, x_34, x_38_129, x_38_130, x_38_131, x_38_132, x_38_133, x_82, x_33, x_21, x_1, x_17, x_79_2_4_d0, x_79_2_4_d1, x_79_2_4_d2, x_79_2_4_d3, x_79_2_4_d4, x_79_3_3_d0, x_79_3_3_d1, x_79_3_3_d2, x_79_3_3_d3, x_79_3_3_d4, x_84, cb_ri, cb_rl, cb_rv, cb_th, cb_ite, ps_s, ps_n, sw_n, sw_c, u_89_0, u_89_52, u_89_62, u_89_72, u_89_82, u_89_92, u_89_102, u_89_114, u_89_126, u_89_139, ch, sw2D, sw2T, m1, e2, Int.reduceEq, Int.reduceLT, Int.reduceLE, reduceIte, Int.reduceAdd, Int.reduceSub, Int.reduceMul, Int.reduceNeg, Int.reduceToNat, Bool.false_eq_true, eq_self, if_pos, if_neg]
          · have g7 : hset g 186 0 0 0 187 0 = h 187 0 := by rw [h186_m, Sm_187 s scr_187]
            obtain ⟨h2, m1, m2⟩ := mMissed_m (lr + 42) H N i (hset g 186 0 0 0) L (by rw [g7]; exact hL) (by rw [g7]; exact I.1.2.1) hW hl (INV_186 0 J).2.2.2.2.2 hi
            rw [g7] at m1
            have iw := iw g
            rw [e2] at iw
            refine ⟨h2, ?_, by rw [m2 _ _ _ (by unfold ocFr loFr mbFr maFr crFr; omega), hs_eq], Sm_t (rsc_186 g 0) (rsc_oc m2)⟩
            show cl (lr + 80) _ _ _ = _
            rw [in_233]
            simp (disch := omega) only [x_6_0, x_4_1, x_79_2_12_d0, x_79_2_12_d1, x_79_2_12_d2, x_79_2_12_d3, x_79_2_12_d4, x_69, x_1, x_60, x_4_2, x_80_3_d0, x_80_3_d1, x_80_3_d2, x_80_3_d3, x_80_3_d4, x_61, x_36, x_33, x_73, x_82, x_65, x_79_3_12_d0, x_79_3_12_d1, x_79_3_12_d2, x_79_3_12_d3, x_79_3_12_d4, x_63, cb_ri, cb_rl, cb_rv, cb_th, cb_ite, ps_s, ps_n, u_233_0, u_233_13, u_233_27, u_233_28, u_233_40, u_233_53, u_233_67, u_233_72, ih g J, iw, hs_eq, m1, e2, Int.reduceEq, Int.reduceLT, Int.reduceLE, reduceIte, Int.reduceAdd, Int.reduceSub, Int.reduceMul, Int.reduceNeg, Int.reduceToNat, Bool.false_eq_true, eq_self, if_pos, if_neg]
    · refine AGt_e I 4 (by decide) ⟨h, ?_, Sm_r _ _⟩ (fun g s J => ⟨0, hset g 186 0 0 2, ?_, hs_eq _ _ _ _ _, rsc_186 g 2⟩)
      · show cl (lc + 80) _ _ _ = _
        rw [in_89]
        simp (disch := omega) only [x_6_0, x_4_1, x_79_2_11_d0, x_79_2_11_d1, x_79_2_11_d2, x_79_2_11_d3, x_79_2_11_d4, x_4_2, x_76, x_35_0, x_34, x_38_129, x_38_130, x_38_131, x_38_132, x_38_133, x_82, x_33, x_21, x_1, x_17, x_79_2_4_d0, x_79_2_4_d1, x_79_2_4_d2, x_79_2_4_d3, x_79_2_4_d4, x_79_3_3_d0, x_79_3_3_d1, x_79_3_3_d2, x_79_3_3_d3, x_79_3_3_d4, x_84, cb_ri, cb_rl, cb_rv, cb_th, cb_ite, ps_s, ps_n, sw_n, sw_c, u_89_0, u_89_52, u_89_62, u_89_72, u_89_82, u_89_92, u_89_102, u_89_114, u_89_126, u_89_139, ch, sw2D, sw2T, Int.reduceEq, Int.reduceLT, Int.reduceLE, reduceIte, Int.reduceAdd, Int.reduceSub, Int.reduceMul, Int.reduceNeg, Int.reduceToNat, Bool.false_eq_true, eq_self, if_pos, if_neg]
      · show cl (lr + 80) _ _ _ = _
        have iw := isIn_c (lr + 78) w 0 7 g
        rw [if_neg (by omega)] at iw
        rw [in_233]
        simp (disch := omega) only [x_6_0, x_4_1, x_79_2_12_d0, x_79_2_12_d1, x_79_2_12_d2, x_79_2_12_d3, x_79_2_12_d4, x_69, x_1, x_60, x_4_2, x_80_3_d0, x_80_3_d1, x_80_3_d2, x_80_3_d3, x_80_3_d4, x_61, x_36, x_33, x_73, x_82, x_65, x_79_3_12_d0, x_79_3_12_d1, x_79_3_12_d2, x_79_3_12_d3, x_79_3_12_d4, x_63, cb_ri, cb_rl, cb_rv, cb_th, cb_ite, ps_s, ps_n, u_233_0, u_233_13, u_233_27, u_233_28, u_233_40, u_233_53, u_233_67, u_233_72, ih g J, iw, hs_eq, Int.reduceEq, Int.reduceLT, Int.reduceLE, reduceIte, Int.reduceAdd, Int.reduceSub, Int.reduceMul, Int.reduceNeg, Int.reduceToNat, Bool.false_eq_true, eq_self, if_pos, if_neg]
  · rw [if_neg c] at ch
    refine AGt_e I 2 (by decide) ⟨h, ?_, Sm_r _ _⟩ (fun g s J => ⟨0, hset g 186 0 0 1, ?_, hs_eq _ _ _ _ _, rsc_186 g 1⟩)
    · show cl (lc + 80) _ _ _ = _
      rw [in_89]
      simp (disch := omega) only [x_6_0, x_4_1, x_79_2_11_d0, x_79_2_11_d1, x_79_2_11_d2, x_79_2_11_d3, x_79_2_11_d4, x_4_2, x_76, x_35_0, x_34, x_38_129, x_38_130, x_38_131, x_38_132, x_38_133, x_82, x_33, x_21, x_1, x_17, x_79_2_4_d0, x_79_2_4_d1, x_79_2_4_d2, x_79_2_4_d3, x_79_2_4_d4, x_79_3_3_d0, x_79_3_3_d1, x_79_3_3_d2, x_79_3_3_d3, x_79_3_3_d4, x_84, cb_ri, cb_rl, cb_rv, cb_th, cb_ite, ps_s, ps_n, sw_n, sw_c, u_89_0, u_89_52, u_89_62, u_89_72, u_89_82, u_89_92, u_89_102, u_89_114, u_89_126, u_89_139, ch]
    · show cl (lr + 80) _ _ _ = _
      have ih := isHand_c (lr + 77) H p g J.1.2.1.1.1 hH
      rw [if_neg c] at ih
      rw [in_233]
      simp (disch := omega) only [x_6_0, x_4_1, x_79_2_12_d0, x_79_2_12_d1, x_79_2_12_d2, x_79_2_12_d3, x_79_2_12_d4, x_69, x_1, x_60, x_4_2, x_80_3_d0, x_80_3_d1, x_80_3_d2, x_80_3_d3, x_80_3_d4, x_61, x_36, x_33, x_73, x_82, x_65, x_79_3_12_d0, x_79_3_12_d1, x_79_3_12_d2, x_79_3_12_d3, x_79_3_12_d4, x_63, cb_ri, cb_rl, cb_rv, cb_th, cb_ite, ps_s, ps_n, u_233_0, u_233_13, u_233_27, u_233_28, u_233_40, u_233_53, u_233_67, u_233_72, ih, hs_eq, Int.reduceEq, Int.reduceLT, Int.reduceLE, reduceIte, Int.reduceAdd, Int.reduceSub, Int.reduceMul, Int.reduceNeg, Int.reduceToNat, Bool.false_eq_true, eq_self, if_pos, if_neg]
