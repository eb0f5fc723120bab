/-! TRADES. -/
theorem csc_cp {h h' : Hp} (c : CP h h' 0 1 tgS) : Sm csc h h' := fun tt k j hf => by
  obtain ⟨c1, -, c3⟩ := c
  by_cases hk : k = 1
  · subst hk
    refine c3 tt j (fun n hm => hf (Or.inr (Or.inl ⟨rfl, ?_⟩)))
    unfold tgS tgL tgH at hm
    unfold stTag
    simp at hm
    omega
  · exact c1 tt k j hk
theorem changePlayers_c (lv s x y : Nat) (a b : Int) (h : Hp) (hx : x < 7) (hy : y < 7) (ha : h 129 s x = a) (hb : h 129 s y = b) (hne : x ≠ y) : cl (lv + 1) 50 [aA 7 s, aI (x : Int), aI (y : Int)] h = rv (hset (hset h 129 s x b) 129 s y a) := by
  rw [in_50]
  simp (disch := omega) only [x_6_0, x_34, x_4_1, x_38_129, x_7_3_I, x_7_3_A, x_7_3_U, x_4_2, x_39_129, x_4_3, x_83, u_50_0, tn, ha, hb]
def ltFr (tt k : Nat) : Prop := fwFr tt k ∨ stFr 1 tt k
theorem trC_b {M : Nat → Int} {L : List LN} {H N : Nat} {p o : Int} {x y : Nat} {a : Int × Int} (hH : H ≤ 6) (ha : a.1 ≤ 72) : (trC M L H N p o x y a).1 ≤ 72 := by
  unfold trC
  split
  · exact (gp_b _ L N p o hH).2
  · exact ha
theorem ag_trade (lc lr H N : Nat) (p o : Int) (h : Hp) (I : INV h H N) : AGt t20 (fun h => cl (lc + 80) 124 [aA 11 0, aI p, aI o] h) (fun h => cl (lr + 80) 282 [aA 12 0, aI p, aI o] h) h := by
  have hH := I.1.2.1.1.2.1
  have h39 := I.1.1.1.1
  have cp := checkPlayer_c (lc + 78) p h
  have co := checkPlayer_c (lc + 78) o h
  obtain ⟨L, W, hL, hW, hl⟩ := INV_law I
  by_cases c : (0 ≤ p ∧ p < 3) ∧ (0 ≤ o ∧ o < 3)
  · rw [if_pos c.1] at cp
    rw [if_pos c.2] at co
    by_cases ce : p = o
    · refine AGt_e I 0 (by decide) ⟨h, ?_, Sm_r _ _⟩ (fun g s J => ⟨0, hset g 186 0 0 2, ?_, hs_eq _ _ _ _ _, rsc_186 g 2⟩)
      · show cl (lc + 80) _ _ _ = _
        rw [in_124]
        simp (disch := omega) only [x_4_1, x_80_1_d0, x_80_1_d1, x_80_1_d2, x_80_1_d3, x_80_1_d4, x_4_2, x_63, x_84, x_6_0, x_35_1, x_35_0, x_79_2_7_d0, x_79_2_7_d1, x_79_2_7_d2, x_79_2_7_d3, x_79_2_7_d4, x_79_3_11_d0, x_79_3_11_d1, x_79_3_11_d2, x_79_3_11_d3, x_79_3_11_d4, x_7_3_I, x_7_3_A, x_7_3_U, x_1, x_7_4_I, x_7_4_A, x_7_4_U, x_7_5_I, x_7_5_A, x_7_5_U, x_61, x_4_5, x_33, x_65, x_7_6_I, x_7_6_A, x_7_6_U, x_4_6, x_34, x_38_129, x_79_3_7_d0, x_79_3_7_d1, x_79_3_7_d2, x_79_3_7_d3, x_79_3_7_d4, x_7_7_I, x_7_7_A, x_7_7_U, x_4_7, x_4_3, x_13, x_11, x_10_6_I, x_10_6_A, x_10_6_U, x_60, x_10_5_I, x_10_5_A, x_10_5_U, x_4_4, x_82, cb_ri, cb_rl, cb_rv, cb_th, cb_ite, ps_s, ps_n, u_124_0, u_124_24, u_124_152, u_124_158, u_124_164, cp, co, ce, Int.reduceEq, Int.reduceLT, Int.reduceLE, reduceIte, Int.reduceAdd, Int.reduceSub, Int.reduceMul, Int.reduceNeg, Int.reduceToNat, Bool.false_eq_true, eq_self, if_pos, if_neg]
      · show cl (lr + 80) _ _ _ = _
        have ip := isPlayer_c (lr + 77) p g
        have io := isPlayer_c (lr + 77) o g
        rw [if_pos c.1] at ip
        rw [if_pos c.2] at io
        subst ce
        rw [in_282]
        simp (disch := omega) only [x_6_0, x_4_1, x_80_1_d0, x_80_1_d1, x_80_1_d2, x_80_1_d3, x_80_1_d4, x_68, x_4_2, x_69, x_61, x_1, x_60, x_63, x_36, x_33, x_73, x_82, x_79_3_12_d0, x_79_3_12_d1, x_79_3_12_d2, x_79_3_12_d3, x_79_3_12_d4, x_7_3_I, x_7_3_A, x_7_3_U, x_7_4_I, x_7_4_A, x_7_4_U, x_7_5_I, x_7_5_A, x_7_5_U, x_4_5, x_34, x_38_187, x_65, x_7_6_I, x_7_6_A, x_7_6_U, x_4_6, x_62, x_79_4_12_d0, x_79_4_12_d1, x_79_4_12_d2, x_79_4_12_d3, x_79_4_12_d4, x_7_7_I, x_7_7_A, x_7_7_U, x_4_7, x_4_3, x_64, x_13, x_11, x_10_6_I, x_10_6_A, x_10_6_U, x_10_5_I, x_10_5_A, x_10_5_U, x_4_4, cb_ri, cb_rl, cb_rv, cb_th, cb_ite, ps_s, ps_n, u_282_0, u_282_15, u_282_19, u_282_28, u_282_29, u_282_41, u_282_104, u_282_153, u_282_166, u_282_172, u_282_178, ip, hs_eq, Int.reduceEq, Int.reduceLT, Int.reduceLE, reduceIte, Int.reduceAdd, Int.reduceSub, Int.reduceMul, Int.reduceNeg, Int.reduceToNat, Bool.false_eq_true, eq_self, if_pos, if_neg]
    · refine AGt_q I (v := (trF (h 187 0) L H N p o H).2) ?_ (fun g s J => ?_)
      · obtain ⟨h1, e1, cpy⟩ := copyFrom_c (lc + 77) 0 1 h (by omega)
        have s1 := csc_cp cpy
        have I1 : INV h1 H N := INV_scr (Sm_w (fun _ _ => scr_c) s1) I
        have k7 : h1 187 0 = h 187 0 := Sm_187 s1 (by unfold csc stTag; omega)
        have R1 : RS h1 1 (h 187 0) H N := RS_cp cpy I.1.1
        have W1 : LawW h1 0 L := LawW_e (fun tt j ht => s1 tt 0 j (by unfold csc stTag; omega)) W
        obtain ⟨h2, g1, g2⟩ := loadGap_c (lc + 72) H N p o (h 187 0) h1 L R1 I.1.2.1 W1
        -- what is kept: the draft is as the state, all the rest as it was
        have keep : ∀ q : Hp, RS q 1 (h 187 0) H N → Sm csc h q → INV q H N ∧ LawW q 0 L ∧ q 139 0 0 = (H : Int) ∧ ∀ x, x < H → q 129 0 x = h 187 0 (14 + 6 * x) := by
          intro q Rq sq
          have Iq := INV_scr (Sm_w (fun _ _ => scr_c) sq) I
          have q7 : q 187 0 = h 187 0 := Sm_187 sq (by unfold csc stTag; omega)
          exact ⟨Iq, LawW_e (fun tt j ht => sq tt 0 j (by unfold csc stTag; omega)) W, Iq.1.1.1.1, fun x hx => by rw [(Iq.1.1.1.2.2.2 x hx).1, q7]⟩
        have csclt : ∀ {a b : Hp}, (∀ tt k j, ¬ ltFr tt k → b tt k j = a tt k j) → Sm csc a b := fun e tt k j hf => e tt k j (by unfold csc stTag at hf; unfold ltFr fwFr lwFr stFr stTag; omega)
        have outer := loop_p (S := (AV × AV) × Hp) (F := fun x (q : (AV × AV) × Hp) => run (lc + 79) 124 48 [aA 11 0, aI p, aI o, aI (trF (h 187 0) L H N p o x).1, aI (trF (h 187 0) L H N p o x).2, aI (x : Int), q.1.1, q.1.2] [] q.2)
          (I := fun x q => RS q.2 1 (h 187 0) H N ∧ Sm csc h q.2)
          (Q := fun r => ∃ h', r = ri (trF (h 187 0) L H N p o H).2 h' ∧ Sm csc h h') (N := H) ?_ ?_ ((none, none), h2) ⟨RS_e (fun t i ht => g2 t 1 i (by unfold stTag at ht; unfold fwFr lwFr; omega)) R1, Sm_t s1 (csc_fw g2)⟩
        · obtain ⟨h', f1, f2⟩ := outer
          refine ⟨h', ?_, f2⟩
          show cl (lc + 80) _ _ _ = _
          rw [← f1, in_124]
          simp (disch := omega) only [x_4_1, x_80_1_d0, x_80_1_d1, x_80_1_d2, x_80_1_d3, x_80_1_d4, x_4_2, x_63, x_84, x_6_0, x_35_1, x_35_0, x_79_2_7_d0, x_79_2_7_d1, x_79_2_7_d2, x_79_2_7_d3, x_79_2_7_d4, x_79_3_11_d0, x_79_3_11_d1, x_79_3_11_d2, x_79_3_11_d3, x_79_3_11_d4, x_7_3_I, x_7_3_A, x_7_3_U, x_1, x_7_4_I, x_7_4_A, x_7_4_U, x_7_5_I, x_7_5_A, x_7_5_U, x_61, x_4_5, x_33, x_65, x_7_6_I, x_7_6_A, x_7_6_U, x_4_6, x_34, x_38_129, x_79_3_7_d0, x_79_3_7_d1, x_79_3_7_d2, x_79_3_7_d3, x_79_3_7_d4, x_7_7_I, x_7_7_A, x_7_7_U, x_4_7, x_4_3, x_13, x_11, x_10_6_I, x_10_6_A, x_10_6_U, x_60, x_10_5_I, x_10_5_A, x_10_5_U, x_4_4, x_82, cb_ri, cb_rl, cb_rv, cb_th, cb_ite, ps_s, ps_n, u_124_0, u_124_24, u_124_152, u_124_158, u_124_164, cp, co, ce, e1, g1, Int.reduceEq, Int.reduceLT, Int.reduceLE, reduceIte, Int.reduceAdd, Int.reduceSub, Int.reduceMul, Int.reduceNeg, Int.reduceToNat, Bool.false_eq_true, eq_self, if_pos, if_neg]
          rfl
        · rintro x ⟨⟨v6, v7⟩, q⟩ hx ⟨i1, i2⟩
          simp only at i1 i2 ⊢
          obtain ⟨-, -, q39, -⟩ := keep q i1 i2
          have inner := loop_p (S := AV × Hp) (F := fun y (q : AV × Hp) => run (lc + 79) 124 63 [aA 11 0, aI p, aI o, aI (trR (h 187 0) L H N p o x (trF (h 187 0) L H N p o x) y).1, aI (trR (h 187 0) L H N p o x (trF (h 187 0) L H N p o x) y).2, aI (x : Int), aI (y : Int), q.1] [] q.2)
            (I := fun y q => RS q.2 1 (h 187 0) H N ∧ Sm csc h q.2)
            (Q := fun r => ∃ (v7 : AV) (h' : Hp), r = run (lc + 79) 124 48 [aA 11 0, aI p, aI o, aI (trF (h 187 0) L H N p o (x + 1)).1, aI (trF (h 187 0) L H N p o (x + 1)).2, aI ((x + 1 : Nat) : Int), aI (H : Int), v7] [] h' ∧ RS h' 1 (h 187 0) H N ∧ Sm csc h h') (N := H) ?_ ?_ (v7, q) ⟨i1, i2⟩
          · obtain ⟨w7, h', f1, f2, f3⟩ := inner
            refine ⟨((aI (H : Int), w7), h'), ?_, f2, f3⟩
            try simp only
            rw [← f1, hd_124_48]
            simp (disch := omega) only [x_4_1, x_80_1_d0, x_80_1_d1, x_80_1_d2, x_80_1_d3, x_80_1_d4, x_4_2, x_63, x_84, x_6_0, x_35_1, x_35_0, x_79_2_7_d0, x_79_2_7_d1, x_79_2_7_d2, x_79_2_7_d3, x_79_2_7_d4, x_79_3_11_d0, x_79_3_11_d1, x_79_3_11_d2, x_79_3_11_d3, x_79_3_11_d4, x_7_3_I, x_7_3_A, x_7_3_U, x_1, x_7_4_I, x_7_4_A, x_7_4_U, x_7_5_I, x_7_5_A, x_7_5_U, x_61, x_4_5, x_33, x_65, x_7_6_I, x_7_6_A, x_7_6_U, x_4_6, x_34, x_38_129, x_79_3_7_d0, x_79_3_7_d1, x_79_3_7_d2, x_79_3_7_d3, x_79_3_7_d4, x_7_7_I, x_7_7_A, x_7_7_U, x_4_7, x_4_3, x_13, x_11, x_10_6_I, x_10_6_A, x_10_6_U, x_60, x_10_5_I, x_10_5_A, x_10_5_U, x_4_4, x_82, cb_ri, cb_rl, cb_rv, cb_th, cb_ite, ps_s, ps_n, u_124_0, u_124_24, u_124_152, u_124_158, u_124_164, q39, Int.reduceEq, Int.reduceLT, Int.reduceLE, reduceIte, Int.reduceAdd, Int.reduceSub, Int.reduceMul, Int.reduceNeg, Int.reduceToNat, Bool.false_eq_true, eq_self, if_pos, if_neg]
            rfl
          · rintro y ⟨v7, q⟩ hy ⟨i1, i2⟩
            simp only at i1 i2 ⊢
            obtain ⟨Iq, Wq, q39, q29⟩ := keep q i1 i2
            have qx := q29 x hx
            have qy := q29 y hy
            show ∃ s' : AV × Hp, _ = run _ _ _ [_, _, _, aI (trC (h 187 0) L H N p o x y (trR (h 187 0) L H N p o x (trF (h 187 0) L H N p o x) y)).1, aI (trC (h 187 0) L H N p o x y (trR (h 187 0) L H N p o x (trF (h 187 0) L H N p o x) y)).2, _, _, _] _ _ ∧ _
            generalize trR (h 187 0) L H N p o x (trF (h 187 0) L H N p o x) y = a
            by_cases d1 : h 187 0 (14 + 6 * x) = p
            · by_cases d2 : h 187 0 (14 + 6 * y) = o
              · have hne : x ≠ y := fun z => by subst z; exact ce (d1.symm.trans d2)
                have dx : q 129 1 x = p := by rw [(i1.1.2.2.2 x hx).1]; exact d1
                have dy : q 129 1 y = o := by rw [(i1.1.2.2.2 y hy).1]; exact d2
                have ch1 := changePlayers_c (lc + 78) 1 x y p o q (by omega) (by omega) dx dy hne
                have Rs : RS (hset (hset q 129 1 x o) 129 1 y p) 1 (swM (h 187 0) x y p o) H N := RS_hd (f := 0) p (by omega) hy (RS_hd (f := 0) o (by omega) hx i1)
                have Gs : GM (swM (h 187 0) x y p o) H N := GM_pl hy (by omega) (GM_pl hx (by omega) I.1.2.1)
                have Ws : LawW (hset (hset q 129 1 x o) 129 1 y p) 0 L := LawW_e (fun tt j ht => by rw [hs_o (by omega), hs_o (by omega)]) Wq
                obtain ⟨q2, m1, m2⟩ := loadGap_c (lc + 72) H N p o _ _ L Rs Gs Ws
                have R2 : RS q2 1 (swM (h 187 0) x y p o) H N := RS_e (fun t i ht => m2 t 1 i (by unfold stTag at ht; unfold fwFr lwFr; omega)) Rs
                have ex : q2 129 1 x = o := by rw [m2 _ _ _ (by unfold fwFr lwFr; omega), hs_i hne, hs_eq]
                have ey : q2 129 1 y = p := by rw [m2 _ _ _ (by unfold fwFr lwFr; omega), hs_eq]
                have ch2 := changePlayers_c (lc + 78) 1 x y o p q2 (by omega) (by omega) ex ey hne
                have R3 : RS (hset (hset q2 129 1 x p) 129 1 y o) 1 (h 187 0) H N := by
                  have := RS_hd (f := 0) o (by omega) hy (RS_hd (f := 0) p (by omega) hx R2)
                  rw [show upM (upM (swM (h 187 0) x y p o) (14 + 6 * x + 0) p) (14 + 6 * y + 0) o = h 187 0 from sw_back d1 d2 hne] at this
                  exact this
                have S3 : Sm csc h (hset (hset q2 129 1 x p) 129 1 y o) := Sm_t i2 (csclt (fun tt k j hf => by
                  unfold ltFr stFr stTag at hf
                  rw [hs_o (by omega), hs_o (by omega), m2 _ _ _ (fun z => hf (Or.inl z)), hs_o (by omega), hs_o (by omega)]))
                have gb := gp_b (swM (h 187 0) x y p o) L N p o hH
                refine ⟨(aI (gpV (swM (h 187 0) x y p o) L H N p o), hset (hset q2 129 1 x p) 129 1 y o), ?_, R3, S3⟩
                unfold trC
                try simp only
                rw [hd_124_63]
                by_cases d3 : gpV (swM (h 187 0) x y p o) L H N p o < a.1
                · rw [if_pos ⟨⟨d1, d2⟩, d3⟩]
                  simp (disch := omega) only [x_4_1, x_80_1_d0, x_80_1_d1, x_80_1_d2, x_80_1_d3, x_80_1_d4, x_4_2, x_63, x_84, x_6_0, x_35_1, x_35_0, x_79_2_7_d0, x_79_2_7_d1, x_79_2_7_d2, x_79_2_7_d3, x_79_2_7_d4, x_79_3_11_d0, x_79_3_11_d1, x_79_3_11_d2, x_79_3_11_d3, x_79_3_11_d4, x_7_3_I, x_7_3_A, x_7_3_U, x_1, x_7_4_I, x_7_4_A, x_7_4_U, x_7_5_I, x_7_5_A, x_7_5_U, x_61, x_4_5, x_33, x_65, x_7_6_I, x_7_6_A, x_7_6_U, x_4_6, x_34, x_38_129, x_79_3_7_d0, x_79_3_7_d1, x_79_3_7_d2, x_79_3_7_d3, x_79_3_7_d4, x_7_7_I, x_7_7_A, x_7_7_U, x_4_7, x_4_3, x_13, x_11, x_10_6_I, x_10_6_A, x_10_6_U, x_60, x_10_5_I, x_10_5_A, x_10_5_U, x_4_4, x_82, cb_ri, cb_rl, cb_rv, cb_th, cb_ite, ps_s, ps_n, u_124_0, u_124_24, u_124_152, u_124_158, u_124_164, q39, tn, qx, qy, d1, d2, ch1, m1, ch2, d3, Int.reduceEq, Int.reduceLT, Int.reduceLE, reduceIte, Int.reduceAdd, Int.reduceSub, Int.reduceMul, Int.reduceNeg, Int.reduceToNat, Bool.false_eq_true, eq_self, if_pos, if_neg, ci, w32_id]
                · rw [if_neg (fun z => d3 z.2)]
                  simp (disch := omega) only [x_4_1, x_80_1_d0, x_80_1_d1, x_80_1_d2, x_80_1_d3, x_80_1_d4, x_4_2, x_63, x_84, x_6_0, x_35_1, x_35_0, x_79_2_7_d0, x_79_2_7_d1, x_79_2_7_d2, x_79_2_7_d3, x_79_2_7_d4, x_79_3_11_d0, x_79_3_11_d1, x_79_3_11_d2, x_79_3_11_d3, x_79_3_11_d4, x_7_3_I, x_7_3_A, x_7_3_U, x_1, x_7_4_I, x_7_4_A, x_7_4_U, x_7_5_I, x_7_5_A, x_7_5_U, x_61, x_4_5, x_33, x_65, x_7_6_I, x_7_6_A, x_7_6_U, x_4_6, x_34, x_38_129, x_79_3_7_d0, x_79_3_7_d1, x_79_3_7_d2, x_79_3_7_d3, x_79_3_7_d4, x_7_7_I, x_7_7_A, x_7_7_U, x_4_7, x_4_3, x_13, x_11, x_10_6_I, x_10_6_A, x_10_6_U, x_60, x_10_5_I, x_10_5_A, x_10_5_U, x_4_4, x_82, cb_ri, cb_rl, cb_rv, cb_th, cb_ite, ps_s, ps_n, u_124_0, u_124_24, u_124_152, u_124_158, u_124_164, q39, tn, qx, qy, d1, d2, ch1, m1, ch2, d3, Int.reduceEq, Int.reduceLT, Int.reduceLE, reduceIte, Int.reduceAdd, Int.reduceSub, Int.reduceMul, Int.reduceNeg, Int.reduceToNat, Bool.false_eq_true, eq_self, if_pos, if_neg, ci, w32_id]
              · refine ⟨(v7, q), ?_, i1, i2⟩
                unfold trC
                rw [if_neg (fun z => d2 z.1.2)]
                try simp only
                rw [hd_124_63]
                simp (disch := omega) only [x_4_1, x_80_1_d0, x_80_1_d1, x_80_1_d2, x_80_1_d3, x_80_1_d4, x_4_2, x_63, x_84, x_6_0, x_35_1, x_35_0, x_79_2_7_d0, x_79_2_7_d1, x_79_2_7_d2, x_79_2_7_d3, x_79_2_7_d4, x_79_3_11_d0, x_79_3_11_d1, x_79_3_11_d2, x_79_3_11_d3, x_79_3_11_d4, x_7_3_I, x_7_3_A, x_7_3_U, x_1, x_7_4_I, x_7_4_A, x_7_4_U, x_7_5_I, x_7_5_A, x_7_5_U, x_61, x_4_5, x_33, x_65, x_7_6_I, x_7_6_A, x_7_6_U, x_4_6, x_34, x_38_129, x_79_3_7_d0, x_79_3_7_d1, x_79_3_7_d2, x_79_3_7_d3, x_79_3_7_d4, x_7_7_I, x_7_7_A, x_7_7_U, x_4_7, x_4_3, x_13, x_11, x_10_6_I, x_10_6_A, x_10_6_U, x_60, x_10_5_I, x_10_5_A, x_10_5_U, x_4_4, x_82, cb_ri, cb_rl, cb_rv, cb_th, cb_ite, ps_s, ps_n, u_124_0, u_124_24, u_124_152, u_124_158, u_124_164, q39, tn, qx, qy, d1, d2, Int.reduceEq, Int.reduceLT, Int.reduceLE, reduceIte, Int.reduceAdd, Int.reduceSub, Int.reduceMul, Int.reduceNeg, Int.reduceToNat, Bool.false_eq_true, eq_self, if_pos, if_neg, ci, w32_id]
            · refine ⟨(v7, q), ?_, i1, i2⟩
              unfold trC
              rw [if_neg (fun z => d1 z.1.1)]
              try simp only
              rw [hd_124_63]
              simp (disch := omega) only [x_4_1, x_80_1_d0, x_80_1_d1, x_80_1_d2, x_80_1_d3, x_80_1_d4, x_4_2, x_63, x_84, x_6_0, x_35_1, x_35_0, x_79_2_7_d0, x_79_2_7_d1, x_79_2_7_d2, x_79_2_7_d3, x_79_2_7_d4, x_79_3_11_d0, x_79_3_11_d1, x_79_3_11_d2, x_79_3_11_d3, x_79_3_11_d4, x_7_3_I, x_7_3_A, x_7_3_U, x_1, x_7_4_I, x_7_4_A, x_7_4_U, x_7_5_I, x_7_5_A, x_7_5_U, x_61, x_4_5, x_33, x_65, x_7_6_I, x_7_6_A, x_7_6_U, x_4_6, x_34, x_38_129, x_79_3_7_d0, x_79_3_7_d1, x_79_3_7_d2, x_79_3_7_d3, x_79_3_7_d4, x_7_7_I, x_7_7_A, x_7_7_U, x_4_7, x_4_3, x_13, x_11, x_10_6_I, x_10_6_A, x_10_6_U, x_60, x_10_5_I, x_10_5_A, x_10_5_U, x_4_4, x_82, cb_ri, cb_rl, cb_rv, cb_th, cb_ite, ps_s, ps_n, u_124_0, u_124_24, u_124_152, u_124_158, u_124_164, q39, tn, qx, d1, Int.reduceEq, Int.reduceLT, Int.reduceLE, reduceIte, Int.reduceAdd, Int.reduceSub, Int.reduceMul, Int.reduceNeg, Int.reduceToNat, Bool.false_eq_true, eq_self, if_pos, if_neg, ci, w32_id]
          · rintro ⟨v7, q⟩ ⟨i1, i2⟩
            simp only at i1 i2 ⊢
            obtain ⟨-, -, q39, -⟩ := keep q i1 i2
            refine ⟨v7, q, ?_, i1, i2⟩
            rw [hd_124_63]
            simp (disch := omega) only [x_4_1, x_80_1_d0, x_80_1_d1, x_80_1_d2, x_80_1_d3, x_80_1_d4, x_4_2, x_63, x_84, x_6_0, x_35_1, x_35_0, x_79_2_7_d0, x_79_2_7_d1, x_79_2_7_d2, x_79_2_7_d3, x_79_2_7_d4, x_79_3_11_d0, x_79_3_11_d1, x_79_3_11_d2, x_79_3_11_d3, x_79_3_11_d4, x_7_3_I, x_7_3_A, x_7_3_U, x_1, x_7_4_I, x_7_4_A, x_7_4_U, x_7_5_I, x_7_5_A, x_7_5_U, x_61, x_4_5, x_33, x_65, x_7_6_I, x_7_6_A, x_7_6_U, x_4_6, x_34, x_38_129, x_79_3_7_d0, x_79_3_7_d1, x_79_3_7_d2, x_79_3_7_d3, x_79_3_7_d4, x_7_7_I, x_7_7_A, x_7_7_U, x_4_7, x_4_3, x_13, x_11, x_10_6_I, x_10_6_A, x_10_6_U, x_60, x_10_5_I, x_10_5_A, x_10_5_U, x_4_4, x_82, cb_ri, cb_rl, cb_rv, cb_th, cb_ite, ps_s, ps_n, u_124_0, u_124_24, u_124_152, u_124_158, u_124_164, q39, Int.reduceEq, Int.reduceLT, Int.reduceLE, reduceIte, Int.reduceAdd, Int.reduceSub, Int.reduceMul, Int.reduceNeg, Int.reduceToNat, Bool.false_eq_true, eq_self, if_pos, if_neg, ci, w32_id]
            rfl
        · rintro ⟨⟨v6, v7⟩, q⟩ ⟨i1, i2⟩
          simp only at i1 i2 ⊢
          obtain ⟨-, -, q39, -⟩ := keep q i1 i2
          refine ⟨q, ?_, i2⟩
          rw [hd_124_48]
          simp (disch := omega) only [x_4_1, x_80_1_d0, x_80_1_d1, x_80_1_d2, x_80_1_d3, x_80_1_d4, x_4_2, x_63, x_84, x_6_0, x_35_1, x_35_0, x_79_2_7_d0, x_79_2_7_d1, x_79_2_7_d2, x_79_2_7_d3, x_79_2_7_d4, x_79_3_11_d0, x_79_3_11_d1, x_79_3_11_d2, x_79_3_11_d3, x_79_3_11_d4, x_7_3_I, x_7_3_A, x_7_3_U, x_1, x_7_4_I, x_7_4_A, x_7_4_U, x_7_5_I, x_7_5_A, x_7_5_U, x_61, x_4_5, x_33, x_65, x_7_6_I, x_7_6_A, x_7_6_U, x_4_6, x_34, x_38_129, x_79_3_7_d0, x_79_3_7_d1, x_79_3_7_d2, x_79_3_7_d3, x_79_3_7_d4, x_7_7_I, x_7_7_A, x_7_7_U, x_4_7, x_4_3, x_13, x_11, x_10_6_I, x_10_6_A, x_10_6_U, x_60, x_10_5_I, x_10_5_A, x_10_5_U, x_4_4, x_82, cb_ri, cb_rl, cb_rv, cb_th, cb_ite, ps_s, ps_n, u_124_0, u_124_24, u_124_152, u_124_158, u_124_164, q39, Int.reduceEq, Int.reduceLT, Int.reduceLE, reduceIte, Int.reduceAdd, Int.reduceSub, Int.reduceMul, Int.reduceNeg, Int.reduceToNat, Bool.false_eq_true, eq_self, if_pos, if_neg]
      · have ip := isPlayer_c (lr + 77) p g
        have io := isPlayer_c (lr + 77) o g
        rw [if_pos c.1] at ip
        rw [if_pos c.2] at io
        have g7 : hset g 186 0 0 0 187 0 = h 187 0 := by rw [h186_m, Sm_187 s scr_187]
        obtain ⟨h1, u1, u2⟩ := unlike_m (lr + 41) H N p o (hset g 186 0 0 0) L (by rw [g7]; exact hL) (by rw [g7]; exact I.1.2.1) hW hl (INV_186 0 J).2.2.2.2.2
        rw [g7] at u1
        have fr : ∀ q : Hp, Sm rsc g q → q 187 0 = h 187 0 ∧ q 206 0 0 = -1 ∧ q 187 0 3 = (H : Int) := fun q sq => by
          have q7 : q 187 0 = h 187 0 := by rw [Sm_187 sq (by unfold rsc; omega), Sm_187 s scr_187]
          exact ⟨q7, by rw [sq _ _ _ (by unfold rsc; omega)]; exact J.2.2.2.2.2, by rw [q7]; exact I.1.2.1.1.1⟩
        have outer := loop_p (S := (AV × AV) × Hp) (F := fun x (q : (AV × AV) × Hp) => run (lr + 79) 282 54 [aA 12 0, aI p, aI o, aI (trF (h 187 0) L H N p o x).1, aI (trF (h 187 0) L H N p o x).2, aI (x : Int), q.1.1, q.1.2] [] q.2)
          (I := fun x q => Sm rsc g q.2 ∧ q.2 186 0 0 = 0)
          (Q := fun r => ∃ h', r = ri (trF (h 187 0) L H N p o H).2 h' ∧ h' 186 0 0 = 0 ∧ Sm rsc g h') (N := H) ?_ ?_ ((none, none), h1) ⟨Sm_t (rsc_186 g 0) (rsc_wi u2), by simp only; rw [u2 _ _ _ (by unfold wiFr loFr mbFr maFr woFr crFr; omega), hs_eq]⟩
        · obtain ⟨h', f1, f2⟩ := outer
          refine ⟨h', ?_, f2⟩
          show cl (lr + 80) _ _ _ = _
          rw [← f1, in_282]
          simp (disch := omega) only [x_6_0, x_4_1, x_80_1_d0, x_80_1_d1, x_80_1_d2, x_80_1_d3, x_80_1_d4, x_68, x_4_2, x_69, x_61, x_1, x_60, x_63, x_36, x_33, x_73, x_82, x_79_3_12_d0, x_79_3_12_d1, x_79_3_12_d2, x_79_3_12_d3, x_79_3_12_d4, x_7_3_I, x_7_3_A, x_7_3_U, x_7_4_I, x_7_4_A, x_7_4_U, x_7_5_I, x_7_5_A, x_7_5_U, x_4_5, x_34, x_38_187, x_65, x_7_6_I, x_7_6_A, x_7_6_U, x_4_6, x_62, x_79_4_12_d0, x_79_4_12_d1, x_79_4_12_d2, x_79_4_12_d3, x_79_4_12_d4, x_7_7_I, x_7_7_A, x_7_7_U, x_4_7, x_4_3, x_64, x_13, x_11, x_10_6_I, x_10_6_A, x_10_6_U, x_10_5_I, x_10_5_A, x_10_5_U, x_4_4, cb_ri, cb_rl, cb_rv, cb_th, cb_ite, ps_s, ps_n, u_282_0, u_282_15, u_282_19, u_282_28, u_282_29, u_282_41, u_282_104, u_282_153, u_282_166, u_282_172, u_282_178, ip, io, ce, hs_eq, u1, Int.reduceEq, Int.reduceLT, Int.reduceLE, reduceIte, Int.reduceAdd, Int.reduceSub, Int.reduceMul, Int.reduceNeg, Int.reduceToNat, Bool.false_eq_true, eq_self, if_pos, if_neg]
          rfl
        · rintro x ⟨⟨v6, v7⟩, q⟩ hx ⟨i1, i2⟩
          simp only at i1 i2 ⊢
          obtain ⟨-, -, q3⟩ := fr q i1
          have inner := loop_p (S := AV × Hp) (F := fun y (q : AV × Hp) => run (lr + 79) 282 68 [aA 12 0, aI p, aI o, aI (trR (h 187 0) L H N p o x (trF (h 187 0) L H N p o x) y).1, aI (trR (h 187 0) L H N p o x (trF (h 187 0) L H N p o x) y).2, aI (x : Int), aI (y : Int), q.1] [] q.2)
            (I := fun y q => Sm rsc g q.2 ∧ q.2 186 0 0 = 0)
            (Q := fun r => ∃ (v7 : AV) (h' : Hp), r = run (lr + 79) 282 54 [aA 12 0, aI p, aI o, aI (trF (h 187 0) L H N p o (x + 1)).1, aI (trF (h 187 0) L H N p o (x + 1)).2, aI ((x + 1 : Nat) : Int), aI (H : Int), v7] [] h' ∧ Sm rsc g h' ∧ h' 186 0 0 = 0) (N := H) ?_ ?_ (v7, q) ⟨i1, i2⟩
          · obtain ⟨w7, h', f1, f2, f3⟩ := inner
            refine ⟨((aI (H : Int), w7), h'), ?_, f2, f3⟩
            try simp only
            rw [← f1, hd_282_54]
            simp (disch := omega) only [x_6_0, x_4_1, x_80_1_d0, x_80_1_d1, x_80_1_d2, x_80_1_d3, x_80_1_d4, x_68, x_4_2, x_69, x_61, x_1, x_60, x_63, x_36, x_33, x_73, x_82, x_79_3_12_d0, x_79_3_12_d1, x_79_3_12_d2, x_79_3_12_d3, x_79_3_12_d4, x_7_3_I, x_7_3_A, x_7_3_U, x_7_4_I, x_7_4_A, x_7_4_U, x_7_5_I, x_7_5_A, x_7_5_U, x_4_5, x_34, x_38_187, x_65, x_7_6_I, x_7_6_A, x_7_6_U, x_4_6, x_62, x_79_4_12_d0, x_79_4_12_d1, x_79_4_12_d2, x_79_4_12_d3, x_79_4_12_d4, x_7_7_I, x_7_7_A, x_7_7_U, x_4_7, x_4_3, x_64, x_13, x_11, x_10_6_I, x_10_6_A, x_10_6_U, x_10_5_I, x_10_5_A, x_10_5_U, x_4_4, cb_ri, cb_rl, cb_rv, cb_th, cb_ite, ps_s, ps_n, u_282_0, u_282_15, u_282_19, u_282_28, u_282_29, u_282_41, u_282_104, u_282_153, u_282_166, u_282_172, u_282_178, q3, Int.reduceEq, Int.reduceLT, Int.reduceLE, reduceIte, Int.reduceAdd, Int.reduceSub, Int.reduceMul, Int.reduceNeg, Int.reduceToNat, Bool.false_eq_true, eq_self, if_pos, if_neg]
            rfl
          · rintro y ⟨v7, q⟩ hy ⟨i1, i2⟩
            simp only at i1 i2 ⊢
            obtain ⟨q7, q6, q3⟩ := fr q i1
            have ix : cl (lr + 79) 173 [aA 12 0, aI (x : Int), aI 0] q = ri (h 187 0 (14 + 6 * x)) q := by have := its_c (lr + 78) x 0 q (by omega) (by omega); rw [q7] at this; exact this
            have iy : cl (lr + 79) 173 [aA 12 0, aI (y : Int), aI 0] q = ri (h 187 0 (14 + 6 * y)) q := by have := its_c (lr + 78) y 0 q (by omega) (by omega); rw [q7] at this; exact this
            show ∃ s' : AV × Hp, _ = run _ _ _ [_, _, _, aI (trC (h 187 0) L H N p o x y (trR (h 187 0) L H N p o x (trF (h 187 0) L H N p o x) y)).1, aI (trC (h 187 0) L H N p o x y (trR (h 187 0) L H N p o x (trF (h 187 0) L H N p o x) y)).2, _, _, _] _ _ ∧ _
            generalize trR (h 187 0) L H N p o x (trF (h 187 0) L H N p o x) y = a
            by_cases d1 : h 187 0 (14 + 6 * x) = p
            · by_cases d2 : h 187 0 (14 + 6 * y) = o
              · have hne : x ≠ y := fun z => by subst z; exact ce (d1.symm.trans d2)
                have l1 : cl (lr + 79) 174 [aA 12 0, aI (x : Int), aI 0, aI o] q = rv (hset q 187 0 (14 + 6 * x) o) := lays_c (lr + 78) x 0 o q (by omega) (by omega)
                have l2 : cl (lr + 79) 174 [aA 12 0, aI (y : Int), aI 0, aI p] (hset q 187 0 (14 + 6 * x) o) = rv (hset (hset q 187 0 (14 + 6 * x) o) 187 0 (14 + 6 * y) p) := lays_c (lr + 78) y 0 p _ (by omega) (by omega)
                have z7 : hset (hset q 187 0 (14 + 6 * x) o) 187 0 (14 + 6 * y) p 187 0 = swM (h 187 0) x y p o := by rw [hs_187, hs_187, q7]; rfl
                have Gs : GM (swM (h 187 0) x y p o) H N := GM_pl hy (by omega) (GM_pl hx (by omega) I.1.2.1)
                obtain ⟨q2, m1, m2⟩ := unlike_m (lr + 41) H N p o (hset (hset q 187 0 (14 + 6 * x) o) 187 0 (14 + 6 * y) p) L (by rw [z7]; exact LM_up (by omega) (by omega) (LM_up (by omega) (by omega) hL)) (by rw [z7]; exact Gs) hW hl (by rw [hs_t (by omega), hs_t (by omega)]; exact q6)
                rw [z7] at m1
                have y7 : q2 187 0 = swM (h 187 0) x y p o := by rw [← z7]; funext j; exact m2 _ _ _ (by unfold wiFr loFr mbFr maFr woFr crFr; omega)
                have l3 : cl (lr + 79) 174 [aA 12 0, aI (x : Int), aI 0, aI p] q2 = rv (hset q2 187 0 (14 + 6 * x) p) := lays_c (lr + 78) x 0 p q2 (by omega) (by omega)
                have l4 : cl (lr + 79) 174 [aA 12 0, aI (y : Int), aI 0, aI o] (hset q2 187 0 (14 + 6 * x) p) = rv (hset (hset q2 187 0 (14 + 6 * x) p) 187 0 (14 + 6 * y) o) := lays_c (lr + 78) y 0 o _ (by omega) (by omega)
                have x7 : hset (hset q2 187 0 (14 + 6 * x) p) 187 0 (14 + 6 * y) o 187 0 = q 187 0 := by rw [hs_187, hs_187, y7, sw_back d1 d2 hne, q7]
                have S3 : Sm rsc g (hset (hset q2 187 0 (14 + 6 * x) p) 187 0 (14 + 6 * y) o) := Sm_t i1 (fun tt k j hf => by
                  by_cases e7 : tt = 187 ∧ k = 0
                  · rw [e7.1, e7.2, x7]
                  · rw [hs_o (by omega), hs_o (by omega), m2 tt k j (by unfold rsc at hf; unfold wiFr loFr mbFr maFr woFr crFr; omega), hs_o (by omega), hs_o (by omega)])
                have gb := gp_b (swM (h 187 0) x y p o) L N p o hH
                refine ⟨(aI (gpV (swM (h 187 0) x y p o) L H N p o), hset (hset q2 187 0 (14 + 6 * x) p) 187 0 (14 + 6 * y) o), ?_, S3, ?_⟩
                · unfold trC
                  try simp only
                  rw [hd_282_68]
                  by_cases d3 : gpV (swM (h 187 0) x y p o) L H N p o < a.1
                  · rw [if_pos ⟨⟨d1, d2⟩, d3⟩]
                    simp (disch := omega) only [x_6_0, x_4_1, x_80_1_d0, x_80_1_d1, x_80_1_d2, x_80_1_d3, x_80_1_d4, x_68, x_4_2, x_69, x_61, x_1, x_60, x_63, x_36, x_33, x_73, x_82, x_79_3_12_d0, x_79_3_12_d1, x_79_3_12_d2, x_79_3_12_d3, x_79_3_12_d4, x_7_3_I, x_7_3_A, x_7_3_U, x_7_4_I, x_7_4_A, x_7_4_U, x_7_5_I, x_7_5_A, x_7_5_U, x_4_5, x_34, x_38_187, x_65, x_7_6_I, x_7_6_A, x_7_6_U, x_4_6, x_62, x_79_4_12_d0, x_79_4_12_d1, x_79_4_12_d2, x_79_4_12_d3, x_79_4_12_d4, x_7_7_I, x_7_7_A, x_7_7_U, x_4_7, x_4_3, x_64, x_13, x_11, x_10_6_I, x_10_6_A, x_10_6_U, x_10_5_I, x_10_5_A, x_10_5_U, x_4_4, cb_ri, cb_rl, cb_rv, cb_th, cb_ite, ps_s, ps_n, u_282_0, u_282_15, u_282_19, u_282_28, u_282_29, u_282_41, u_282_104, u_282_153, u_282_166, u_282_172, u_282_178, q3, ix, iy, d1, d2, l1, l2, m1, l3, l4, d3, Int.reduceEq, Int.reduceLT, Int.reduceLE, reduceIte, Int.reduceAdd, Int.reduceSub, Int.reduceMul, Int.reduceNeg, Int.reduceToNat, Bool.false_eq_true, eq_self, if_pos, if_neg, ci, w32_id]
                  · rw [if_neg (fun z => d3 z.2)]
                    simp (disch := omega) only [x_6_0, x_4_1, x_80_1_d0, x_80_1_d1, x_80_1_d2, x_80_1_d3, x_80_1_d4, x_68, x_4_2, x_69, x_61, x_1, x_60, x_63, x_36, x_33, x_73, x_82, x_79_3_12_d0, x_79_3_12_d1, x_79_3_12_d2, x_79_3_12_d3, x_79_3_12_d4, x_7_3_I, x_7_3_A, x_7_3_U, x_7_4_I, x_7_4_A, x_7_4_U, x_7_5_I, x_7_5_A, x_7_5_U, x_4_5, x_34, x_38_187, x_65, x_7_6_I, x_7_6_A, x_7_6_U, x_4_6, x_62, x_79_4_12_d0, x_79_4_12_d1, x_79_4_12_d2, x_79_4_12_d3, x_79_4_12_d4, x_7_7_I, x_7_7_A, x_7_7_U, x_4_7, x_4_3, x_64, x_13, x_11, x_10_6_I, x_10_6_A, x_10_6_U, x_10_5_I, x_10_5_A, x_10_5_U, x_4_4, cb_ri, cb_rl, cb_rv, cb_th, cb_ite, ps_s, ps_n, u_282_0, u_282_15, u_282_19, u_282_28, u_282_29, u_282_41, u_282_104, u_282_153, u_282_166, u_282_172, u_282_178, q3, ix, iy, d1, d2, l1, l2, m1, l3, l4, d3, Int.reduceEq, Int.reduceLT, Int.reduceLE, reduceIte, Int.reduceAdd, Int.reduceSub, Int.reduceMul, Int.reduceNeg, Int.reduceToNat, Bool.false_eq_true, eq_self, if_pos, if_neg, ci, w32_id]
                · try simp only
                  rw [hs_t (by omega), hs_t (by omega), m2 _ _ _ (by unfold wiFr loFr mbFr maFr woFr crFr; omega), hs_t (by omega), hs_t (by omega)]
                  exact i2
              · refine ⟨(v7, q), ?_, i1, i2⟩
                unfold trC
                rw [if_neg (fun z => d2 z.1.2)]
                try simp only
                rw [hd_282_68]
                simp (disch := omega) only [x_6_0, x_4_1, x_80_1_d0, x_80_1_d1, x_80_1_d2, x_80_1_d3, x_80_1_d4, x_68, x_4_2, x_69, x_61, x_1, x_60, x_63, x_36, x_33, x_73, x_82, x_79_3_12_d0, x_79_3_12_d1, x_79_3_12_d2, x_79_3_12_d3, x_79_3_12_d4, x_7_3_I, x_7_3_A, x_7_3_U, x_7_4_I, x_7_4_A, x_7_4_U, x_7_5_I, x_7_5_A, x_7_5_U, x_4_5, x_34, x_38_187, x_65, x_7_6_I, x_7_6_A, x_7_6_U, x_4_6, x_62, x_79_4_12_d0, x_79_4_12_d1, x_79_4_12_d2, x_79_4_12_d3, x_79_4_12_d4, x_7_7_I, x_7_7_A, x_7_7_U, x_4_7, x_4_3, x_64, x_13, x_11, x_10_6_I, x_10_6_A, x_10_6_U, x_10_5_I, x_10_5_A, x_10_5_U, x_4_4, cb_ri, cb_rl, cb_rv, cb_th, cb_ite, ps_s, ps_n, u_282_0, u_282_15, u_282_19, u_282_28, u_282_29, u_282_41, u_282_104, u_282_153, u_282_166, u_282_172, u_282_178, q3, ix, iy, d1, d2, Int.reduceEq, Int.reduceLT, Int.reduceLE, reduceIte, Int.reduceAdd, Int.reduceSub, Int.reduceMul, Int.reduceNeg, Int.reduceToNat, Bool.false_eq_true, eq_self, if_pos, if_neg, ci, w32_id]
            · refine ⟨(v7, q), ?_, i1, i2⟩
              unfold trC
              rw [if_neg (fun z => d1 z.1.1)]
              try simp only
              rw [hd_282_68]
              simp (disch := omega) only [x_6_0, x_4_1, x_80_1_d0, x_80_1_d1, x_80_1_d2, x_80_1_d3, x_80_1_d4, x_68, x_4_2, x_69, x_61, x_1, x_60, x_63, x_36, x_33, x_73, x_82, x_79_3_12_d0, x_79_3_12_d1, x_79_3_12_d2, x_79_3_12_d3, x_79_3_12_d4, x_7_3_I, x_7_3_A, x_7_3_U, x_7_4_I, x_7_4_A, x_7_4_U, x_7_5_I, x_7_5_A, x_7_5_U, x_4_5, x_34, x_38_187, x_65, x_7_6_I, x_7_6_A, x_7_6_U, x_4_6, x_62, x_79_4_12_d0, x_79_4_12_d1, x_79_4_12_d2, x_79_4_12_d3, x_79_4_12_d4, x_7_7_I, x_7_7_A, x_7_7_U, x_4_7, x_4_3, x_64, x_13, x_11, x_10_6_I, x_10_6_A, x_10_6_U, x_10_5_I, x_10_5_A, x_10_5_U, x_4_4, cb_ri, cb_rl, cb_rv, cb_th, cb_ite, ps_s, ps_n, u_282_0, u_282_15, u_282_19, u_282_28, u_282_29, u_282_41, u_282_104, u_282_153, u_282_166, u_282_172, u_282_178, q3, ix, d1, Int.reduceEq, Int.reduceLT, Int.reduceLE, reduceIte, Int.reduceAdd, Int.reduceSub, Int.reduceMul, Int.reduceNeg, Int.reduceToNat, Bool.false_eq_true, eq_self, if_pos, if_neg, ci, w32_id]
          · rintro ⟨v7, q⟩ ⟨i1, i2⟩
            simp only at i1 i2 ⊢
            obtain ⟨-, -, q3⟩ := fr q i1
            refine ⟨v7, q, ?_, i1, i2⟩
            rw [hd_282_68]
            simp (disch := omega) only [x_6_0, x_4_1, x_80_1_d0, x_80_1_d1, x_80_1_d2, x_80_1_d3, x_80_1_d4, x_68, x_4_2, x_69, x_61, x_1, x_60, x_63, x_36, x_33, x_73, x_82, x_79_3_12_d0, x_79_3_12_d1, x_79_3_12_d2, x_79_3_12_d3, x_79_3_12_d4, x_7_3_I, x_7_3_A, x_7_3_U, x_7_4_I, x_7_4_A, x_7_4_U, x_7_5_I, x_7_5_A, x_7_5_U, x_4_5, x_34, x_38_187, x_65, x_7_6_I, x_7_6_A, x_7_6_U, x_4_6, x_62, x_79_4_12_d0, x_79_4_12_d1, x_79_4_12_d2, x_79_4_12_d3, x_79_4_12_d4, x_7_7_I, x_7_7_A, x_7_7_U, x_4_7, x_4_3, x_64, x_13, x_11, x_10_6_I, x_10_6_A, x_10_6_U, x_10_5_I, x_10_5_A, x_10_5_U, x_4_4, cb_ri, cb_rl, cb_rv, cb_th, cb_ite, ps_s, ps_n, u_282_0, u_282_15, u_282_19, u_282_28, u_282_29, u_282_41, u_282_104, u_282_153, u_282_166, u_282_172, u_282_178, q3, Int.reduceEq, Int.reduceLT, Int.reduceLE, reduceIte, Int.reduceAdd, Int.reduceSub, Int.reduceMul, Int.reduceNeg, Int.reduceToNat, Bool.false_eq_true, eq_self, if_pos, if_neg, ci, w32_id]
            rfl
        · rintro ⟨⟨v6, v7⟩, q⟩ ⟨i1, i2⟩
          simp only at i1 i2 ⊢
          obtain ⟨-, -, q3⟩ := fr q i1
          refine ⟨q, ?_, i2, i1⟩
          rw [hd_282_54]
          simp (disch := omega) only [x_6_0, x_4_1, x_80_1_d0, x_80_1_d1, x_80_1_d2, x_80_1_d3, x_80_1_d4, x_68, x_4_2, x_69, x_61, x_1, x_60, x_63, x_36, x_33, x_73, x_82, x_79_3_12_d0, x_79_3_12_d1, x_79_3_12_d2, x_79_3_12_d3, x_79_3_12_d4, x_7_3_I, x_7_3_A, x_7_3_U, x_7_4_I, x_7_4_A, x_7_4_U, x_7_5_I, x_7_5_A, x_7_5_U, x_4_5, x_34, x_38_187, x_65, x_7_6_I, x_7_6_A, x_7_6_U, x_4_6, x_62, x_79_4_12_d0, x_79_4_12_d1, x_79_4_12_d2, x_79_4_12_d3, x_79_4_12_d4, x_7_7_I, x_7_7_A, x_7_7_U, x_4_7, x_4_3, x_64, x_13, x_11, x_10_6_I, x_10_6_A, x_10_6_U, x_10_5_I, x_10_5_A, x_10_5_U, x_4_4, cb_ri, cb_rl, cb_rv, cb_th, cb_ite, ps_s, ps_n, u_282_0, u_282_15, u_282_19, u_282_28, u_282_29, u_282_41, u_282_104, u_282_153, u_282_166, u_282_172, u_282_178, q3, Int.reduceEq, Int.reduceLT, Int.reduceLE, reduceIte, Int.reduceAdd, Int.reduceSub, Int.reduceMul, Int.reduceNeg, Int.reduceToNat, Bool.false_eq_true, eq_self, if_pos, if_neg]
  · refine AGt_e I 2 (by decide) ⟨h, ?_, Sm_r _ _⟩ (fun g s J => ⟨0, hset g 186 0 0 1, ?_, hs_eq _ _ _ _ _, rsc_186 g 1⟩)
    · show cl (lc + 80) _ _ _ = _
      rw [in_124]
      by_cases c1 : 0 ≤ p ∧ p < 3
      · rw [if_pos c1] at cp
        rw [if_neg (fun z => c ⟨c1, z⟩)] at co
        simp (disch := omega) only [x_4_1, x_80_1_d0, x_80_1_d1, x_80_1_d2, x_80_1_d3, x_80_1_d4, x_4_2, x_63, x_84, x_6_0, x_35_1, x_35_0, x_79_2_7_d0, x_79_2_7_d1, x_79_2_7_d2, x_79_2_7_d3, x_79_2_7_d4, x_79_3_11_d0, x_79_3_11_d1, x_79_3_11_d2, x_79_3_11_d3, x_79_3_11_d4, x_7_3_I, x_7_3_A, x_7_3_U, x_1, x_7_4_I, x_7_4_A, x_7_4_U, x_7_5_I, x_7_5_A, x_7_5_U, x_61, x_4_5, x_33, x_65, x_7_6_I, x_7_6_A, x_7_6_U, x_4_6, x_34, x_38_129, x_79_3_7_d0, x_79_3_7_d1, x_79_3_7_d2, x_79_3_7_d3, x_79_3_7_d4, x_7_7_I, x_7_7_A, x_7_7_U, x_4_7, x_4_3, x_13, x_11, x_10_6_I, x_10_6_A, x_10_6_U, x_60, x_10_5_I, x_10_5_A, x_10_5_U, x_4_4, x_82, cb_ri, cb_rl, cb_rv, cb_th, cb_ite, ps_s, ps_n, u_124_0, u_124_24, u_124_152, u_124_158, u_124_164, cp, co]
      · rw [if_neg c1] at cp
        simp (disch := omega) only [x_4_1, x_80_1_d0, x_80_1_d1, x_80_1_d2, x_80_1_d3, x_80_1_d4, x_4_2, x_63, x_84, x_6_0, x_35_1, x_35_0, x_79_2_7_d0, x_79_2_7_d1, x_79_2_7_d2, x_79_2_7_d3, x_79_2_7_d4, x_79_3_11_d0, x_79_3_11_d1, x_79_3_11_d2, x_79_3_11_d3, x_79_3_11_d4, x_7_3_I, x_7_3_A, x_7_3_U, x_1, x_7_4_I, x_7_4_A, x_7_4_U, x_7_5_I, x_7_5_A, x_7_5_U, x_61, x_4_5, x_33, x_65, x_7_6_I, x_7_6_A, x_7_6_U, x_4_6, x_34, x_38_129, x_79_3_7_d0, x_79_3_7_d1, x_79_3_7_d2, x_79_3_7_d3, x_79_3_7_d4, x_7_7_I, x_7_7_A, x_7_7_U, x_4_7, x_4_3, x_13, x_11, x_10_6_I, x_10_6_A, x_10_6_U, x_60, x_10_5_I, x_10_5_A, x_10_5_U, x_4_4, x_82, cb_ri, cb_rl, cb_rv, cb_th, cb_ite, ps_s, ps_n, u_124_0, u_124_24, u_124_152, u_124_158, u_124_164, cp]
    · show cl (lr + 80) _ _ _ = _
      have ip := isPlayer_c (lr + 77) p g
      have io := isPlayer_c (lr + 77) o g
      rw [in_282]
      by_cases c1 : 0 ≤ p ∧ p < 3
      · rw [if_pos c1] at ip
        rw [if_neg (fun z => c ⟨c1, z⟩)] at io
        simp (disch := omega) only [x_6_0, x_4_1, x_80_1_d0, x_80_1_d1, x_80_1_d2, x_80_1_d3, x_80_1_d4, x_68, x_4_2, x_69, x_61, x_1, x_60, x_63, x_36, x_33, x_73, x_82, x_79_3_12_d0, x_79_3_12_d1, x_79_3_12_d2, x_79_3_12_d3, x_79_3_12_d4, x_7_3_I, x_7_3_A, x_7_3_U, x_7_4_I, x_7_4_A, x_7_4_U, x_7_5_I, x_7_5_A, x_7_5_U, x_4_5, x_34, x_38_187, x_65, x_7_6_I, x_7_6_A, x_7_6_U, x_4_6, x_62, x_79_4_12_d0, x_79_4_12_d1, x_79_4_12_d2, x_79_4_12_d3, x_79_4_12_d4, x_7_7_I, x_7_7_A, x_7_7_U, x_4_7, x_4_3, x_64, x_13, x_11, x_10_6_I, x_10_6_A, x_10_6_U, x_10_5_I, x_10_5_A, x_10_5_U, x_4_4, cb_ri, cb_rl, cb_rv, cb_th, cb_ite, ps_s, ps_n, u_282_0, u_282_15, u_282_19, u_282_28, u_282_29, u_282_41, u_282_104, u_282_153, u_282_166, u_282_172, u_282_178, ip, io, hs_eq, Int.reduceEq, Int.reduceLT, Int.reduceLE, reduceIte, Int.reduceAdd, Int.reduceSub, Int.reduceMul, Int.reduceNeg, Int.reduceToNat, Bool.false_eq_true, eq_self, if_pos, if_neg]
      · rw [if_neg c1] at ip
        simp (disch := omega) only [x_6_0, x_4_1, x_80_1_d0, x_80_1_d1, x_80_1_d2, x_80_1_d3, x_80_1_d4, x_68, x_4_2, x_69, x_61, x_1, x_60, x_63, x_36, x_33, x_73, x_82, x_79_3_12_d0, x_79_3_12_d1, x_79_3_12_d2, x_79_3_12_d3, x_79_3_12_d4, x_7_3_I, x_7_3_A, x_7_3_U, x_7_4_I, x_7_4_A, x_7_4_U, x_7_5_I, x_7_5_A, x_7_5_U, x_4_5, x_34, x_38_187, x_65, x_7_6_I, x_7_6_A, x_7_6_U, x_4_6, x_62, x_79_4_12_d0, x_79_4_12_d1, x_79_4_12_d2, x_79_4_12_d3, x_79_4_12_d4, x_7_7_I, x_7_7_A, x_7_7_U, x_4_7, x_4_3, x_64, x_13, x_11, x_10_6_I, x_10_6_A, x_10_6_U, x_10_5_I, x_10_5_A, x_10_5_U, x_4_4, cb_ri, cb_rl, cb_rv, cb_th, cb_ite, ps_s, ps_n, u_282_0, u_282_15, u_282_19, u_282_28, u_282_29, u_282_41, u_282_104, u_282_153, u_282_166, u_282_172, u_282_178, ip, hs_eq, Int.reduceEq, Int.reduceLT, Int.reduceLE, reduceIte, Int.reduceAdd, Int.reduceSub, Int.reduceMul, Int.reduceNeg, Int.reduceToNat, Bool.false_eq_true, eq_self, if_pos, if_neg]
