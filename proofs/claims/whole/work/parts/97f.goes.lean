/-! THE LAW'S LOOP, AND THE END. -/
theorem swl_all {P : Option Rs → Prop} {x : Int} {d : Nat} {k : Nat → Option Rs} : ∀ l : List (Int × Nat), (∀ q ∈ l, P (k q.2)) → P (k d) → P (swl x d k l) := by
  intro l
  induction l with
  | nil => intro _ h; exact h
  | cons q l ih =>
    intro h hd
    obtain ⟨v, t⟩ := q
    rw [sw_c]
    split
    · exact h (v, t) (List.mem_cons_self ..)
    · exact ih (fun q hq => h q (List.mem_cons_of_mem _ hq)) hd
theorem all_cases (lv i H N : Nat) (h : Hp) (I : INV h H N) (z : Zh h) (hb : h 27 0 0 ≤ 3072) (hi : (i : Int) + 6 ≤ h 27 0 0) : ∀ q ∈ swT 14, STEP lv q.2 i h := by
  have e : swT 14 = [(0, 312), (1, 385), (2, 410), (3, 454), (4, 498), (5, 511), (6, 579), (7, 647), (8, 722), (9, 790), (10, 846), (11, 914), (12, 970), (13, 1061), (14, 1152), (15, 1220), (16, 1276), (17, 1324), (18, 1380), (19, 1448), (20, 1504), (21, 1560), (22, 1616), (23, 1629), (24, 1642), (25, 1655), (26, 1723), (27, 1736), (28, 1749), (29, 1762), (30, 1775), (31, 1788), (32, 1844), (33, 1928), (34, 1953), (35, 1997), (36, 2010), (37, 2023), (38, 2036), (39, 2108), (40, 2152), (41, 2220), (42, 2276), (43, 2363), (44, 2419), (45, 2503), (46, 2516), (47, 2572), (48, 2628), (49, 2641), (50, 2697), (51, 2710), (52, 2723), (53, 2736), (54, 2749), (55, 2829), (56, 2913), (57, 2997), (58, 3081), (59, 3149), (60, 3174), (61, 3187), (62, 3198), (63, 3211)] := by decide
  rw [e]
  exact (List.forall_mem_cons.mpr ⟨lw_feed lv i H N h I z hb hi, (List.forall_mem_cons.mpr ⟨lw_end lv i H N h I z hb hi, (List.forall_mem_cons.mpr ⟨lw_piece lv i H N h I z hb hi, (List.forall_mem_cons.mpr ⟨lw_law lv i H N h I z hb hi, (List.forall_mem_cons.mpr ⟨lw_fault lv i H N h I z hb hi, (List.forall_mem_cons.mpr ⟨lw_hand lv i H N h I z hb hi, (List.forall_mem_cons.mpr ⟨lw_note lv i H N h I z hb hi, (List.forall_mem_cons.mpr ⟨lw_can lv i H N h I z hb hi, (List.forall_mem_cons.mpr ⟨lw_reaches lv i H N h I z hb hi, (List.forall_mem_cons.mpr ⟨lw_turn lv i H N h I z hb hi, (List.forall_mem_cons.mpr ⟨lw_put lv i H N h I z hb hi, (List.forall_mem_cons.mpr ⟨lw_rest lv i H N h I z hb hi, (List.forall_mem_cons.mpr ⟨lw_bind lv i H N h I z hb hi, (List.forall_mem_cons.mpr ⟨lw_strike lv i H N h I z hb hi, (List.forall_mem_cons.mpr ⟨lw_shift lv i H N h I z hb hi, (List.forall_mem_cons.mpr ⟨lw_slip lv i H N h I z hb hi, (List.forall_mem_cons.mpr ⟨lw_swap lv i H N h I z hb hi, (List.forall_mem_cons.mpr ⟨lw_of lv i H N h I z hb hi, (List.forall_mem_cons.mpr ⟨lw_holds lv i H N h I z hb hi, (List.forall_mem_cons.mpr ⟨lw_left lv i H N h I z hb hi, (List.forall_mem_cons.mpr ⟨lw_go lv i H N h I z hb hi, (List.forall_mem_cons.mpr ⟨lw_third lv i H N h I z hb hi, (List.forall_mem_cons.mpr ⟨lw_full lv i H N h I z hb hi, (List.forall_mem_cons.mpr ⟨lw_part lv i H N h I z hb hi, (List.forall_mem_cons.mpr ⟨lw_easy lv i H N h I z hb hi, (List.forall_mem_cons.mpr ⟨lw_hands lv i H N h I z hb hi, (List.forall_mem_cons.mpr ⟨lw_needed lv i H N h I z hb hi, (List.forall_mem_cons.mpr ⟨lw_missed lv i H N h I z hb hi, (List.forall_mem_cons.mpr ⟨lw_spare lv i H N h I z hb hi, (List.forall_mem_cons.mpr ⟨lw_best lv i H N h I z hb hi, (List.forall_mem_cons.mpr ⟨lw_clean lv i H N h I z hb hi, (List.forall_mem_cons.mpr ⟨lw_better lv i H N h I z hb hi, (List.forall_mem_cons.mpr ⟨lw_tune lv i H N h I z hb hi, (List.forall_mem_cons.mpr ⟨lw_steps lv i H N h I z hb hi, (List.forall_mem_cons.mpr ⟨lw_next lv i H N h I z hb hi, (List.forall_mem_cons.mpr ⟨lw_octaves lv i H N h I z hb hi, (List.forall_mem_cons.mpr ⟨lw_sevens lv i H N h I z hb hi, (List.forall_mem_cons.mpr ⟨lw_like lv i H N h I z hb hi, (List.forall_mem_cons.mpr ⟨lw_whose lv i H N h I z hb hi, (List.forall_mem_cons.mpr ⟨lw_ask lv i H N h I z hb hi, (List.forall_mem_cons.mpr ⟨lw_trade lv i H N h I z hb hi, (List.forall_mem_cons.mpr ⟨lw_load lv i H N h I z hb hi, (List.forall_mem_cons.mpr ⟨lw_sure lv i H N h I z hb hi, (List.forall_mem_cons.mpr ⟨lw_doubt lv i H N h I z hb hi, (List.forall_mem_cons.mpr ⟨lw_chance lv i H N h I z hb hi, (List.forall_mem_cons.mpr ⟨lw_expect lv i H N h I z hb hi, (List.forall_mem_cons.mpr ⟨lw_worst lv i H N h I z hb hi, (List.forall_mem_cons.mpr ⟨lw_rests lv i H N h I z hb hi, (List.forall_mem_cons.mpr ⟨lw_free lv i H N h I z hb hi, (List.forall_mem_cons.mpr ⟨lw_span lv i H N h I z hb hi, (List.forall_mem_cons.mpr ⟨lw_cross lv i H N h I z hb hi, (List.forall_mem_cons.mpr ⟨lw_hardest lv i H N h I z hb hi, (List.forall_mem_cons.mpr ⟨lw_tires lv i H N h I z hb hi, (List.forall_mem_cons.mpr ⟨lw_alike lv i H N h I z hb hi, (List.forall_mem_cons.mpr ⟨lw_ahead lv i H N h I z hb hi, (List.forall_mem_cons.mpr ⟨lw_trial lv i H N h I z hb hi, (List.forall_mem_cons.mpr ⟨lw_bounds lv i H N h I z hb hi, (List.forall_mem_cons.mpr ⟨lw_led lv i H N h I z hb hi, (List.forall_mem_cons.mpr ⟨lw_log lv i H N h I z hb hi, (List.forall_mem_cons.mpr ⟨lw_seed lv i H N h I z hb hi, (List.forall_mem_cons.mpr ⟨lw_undo lv i H N h I z hb hi, (List.forall_mem_cons.mpr ⟨lw_image lv i H N h I z hb hi, (List.forall_mem_cons.mpr ⟨lw_back lv i H N h I z hb hi, (List.forall_mem_cons.mpr ⟨lw_count lv i H N h I z hb hi, (fun q hq => absurd hq (List.not_mem_nil))⟩)⟩)⟩)⟩)⟩)⟩)⟩)⟩)⟩)⟩)⟩)⟩)⟩)⟩)⟩)⟩)⟩)⟩)⟩)⟩)⟩)⟩)⟩)⟩)⟩)⟩)⟩)⟩)⟩)⟩)⟩)⟩)⟩)⟩)⟩)⟩)⟩)⟩)⟩)⟩)⟩)⟩)⟩)⟩)⟩)⟩)⟩)⟩)⟩)⟩)⟩)⟩)⟩)⟩)⟩)⟩)⟩)⟩)⟩)⟩)⟩)⟩)⟩)⟩)
theorem one_step (lv i H N : Nat) (h : Hp) (I : INV h H N) (z : Zh h) (hb : h 27 0 0 ≤ 3072) (hi : (i : Int) + 6 ≤ h 27 0 0) (v5 v6 : AV) : ∃ (c : Nat) (h' : Hp) (w5 w6 : AV), c ≤ 1 ∧ OKh h h' ∧ run (lv + 85) 368 23 [aA 22 0, aA 11 0, aA 12 0, aA 25 0, aI (i : Int), v5, v6] [] h = addc c (run (lv + 85) 368 3236 [aA 22 0, aA 11 0, aA 12 0, aA 25 0, aI (i : Int), w5, w6] [] h') := by
  have e : swD 14 = 3236 := by decide
  rw [hd_368_23]
  have o : w32 (h 27 0 0 - 6) = h 27 0 0 - 6 := w32_id (by omega) (by omega)
  simp (disch := omega) only [x_1, x_7_4_I, x_7_4_A, x_7_4_U, x_61, x_4_4, x_6_0, x_54, x_12, x_66, x_53, x_17, x_6_1, x_11, x_79_6_11_d0, x_79_6_11_d1, x_79_6_11_d2, x_79_6_11_d3, x_79_6_11_d4, x_6_2, x_79_6_12_d0, x_79_6_12_d1, x_79_6_12_d2, x_79_6_12_d3, x_79_6_12_d4, x_62, x_85, x_79_2_11_d0, x_79_2_11_d1, x_79_2_11_d2, x_79_2_11_d3, x_79_2_11_d4, x_79_2_12_d0, x_79_2_12_d1, x_79_2_12_d2, x_79_2_12_d3, x_79_2_12_d4, x_6_3, x_80_2_d0, x_80_2_d1, x_80_2_d2, x_80_2_d3, x_80_2_d4, x_7_5_I, x_7_5_A, x_7_5_U, x_79_1_12_d0, x_79_1_12_d1, x_79_1_12_d2, x_79_1_12_d3, x_79_1_12_d4, x_7_6_I, x_7_6_A, x_7_6_U, x_4_5, x_69, x_42, x_4_6, x_23, x_32, x_68, x_60, x_79_1_11_d0, x_79_1_11_d1, x_79_1_11_d2, x_79_1_11_d3, x_79_1_11_d4, x_80_4_d0, x_80_4_d1, x_80_4_d2, x_80_4_d3, x_80_4_d4, x_79_3_12_d0, x_79_3_12_d1, x_79_3_12_d2, x_79_3_12_d3, x_79_3_12_d4, x_2, x_80_3_d0, x_80_3_d1, x_80_3_d2, x_80_3_d3, x_80_3_d4, x_80_5_d0, x_80_5_d1, x_80_5_d2, x_80_5_d3, x_80_5_d4, x_79_4_12_d0, x_79_4_12_d1, x_79_4_12_d2, x_79_4_12_d3, x_79_4_12_d4, x_10_4_I, x_10_4_A, x_10_4_U, cb_ri, cb_rl, cb_rv, cb_th, cb_ite, ps_s, ps_n, x_76, o, Int.reduceEq, Int.reduceLT, Int.reduceLE, reduceIte, Int.reduceAdd, Int.reduceSub, Int.reduceMul, Int.reduceNeg, Int.reduceToNat, Bool.false_eq_true, eq_self, if_pos, if_neg]
  refine swl_all (P := fun r => ∃ (c : Nat) (h' : Hp) (w5 w6 : AV), c ≤ 1 ∧ OKh h h' ∧ r = addc c (run (lv + 85) 368 3236 [aA 22 0, aA 11 0, aA 12 0, aA 25 0, aI (i : Int), w5, w6] [] h')) (swT 14) (fun q hq => all_cases lv i H N h I z hb hi q hq v5 v6) ?_
  rw [e]
  exact ⟨0, h, v5, v6, by omega, ⟨⟨H, N, I⟩, z, Kh_self h⟩, (addc_0 _).symm⟩
theorem law_loop (lv : Nat) : ∀ (d i : Nat) (h : Hp) (v5 v6 : AV), (∃ H N, INV h H N) → Zh h → h 27 0 0 ≤ 3072 → 0 ≤ h 27 0 0 → h 27 0 0 - 6 < (i : Int) + 6 * (d : Int) → i ≤ 4000 → ∃ (h' : Hp) (k : Nat), k ≤ d ∧ run (lv + 85) 368 23 [aA 22 0, aA 11 0, aA 12 0, aA 25 0, aI (i : Int), v5, v6] [] h = some (.inl (some (aI 1)), h', k) := by
  intro d
  induction d with
  | zero =>
    intro i h v5 v6 _ _ hb h0 hd hi4
    refine ⟨h, 0, by omega, ?_⟩
    have o : w32 (h 27 0 0 - 6) = h 27 0 0 - 6 := w32_id (by omega) (by omega)
    rw [hd_368_23]
    simp (disch := omega) only [x_1, x_7_4_I, x_7_4_A, x_7_4_U, x_61, x_4_4, x_6_0, x_54, x_12, x_66, x_53, x_17, x_6_1, x_11, x_79_6_11_d0, x_79_6_11_d1, x_79_6_11_d2, x_79_6_11_d3, x_79_6_11_d4, x_6_2, x_79_6_12_d0, x_79_6_12_d1, x_79_6_12_d2, x_79_6_12_d3, x_79_6_12_d4, x_62, x_85, x_79_2_11_d0, x_79_2_11_d1, x_79_2_11_d2, x_79_2_11_d3, x_79_2_11_d4, x_79_2_12_d0, x_79_2_12_d1, x_79_2_12_d2, x_79_2_12_d3, x_79_2_12_d4, x_6_3, x_80_2_d0, x_80_2_d1, x_80_2_d2, x_80_2_d3, x_80_2_d4, x_7_5_I, x_7_5_A, x_7_5_U, x_79_1_12_d0, x_79_1_12_d1, x_79_1_12_d2, x_79_1_12_d3, x_79_1_12_d4, x_7_6_I, x_7_6_A, x_7_6_U, x_4_5, x_69, x_42, x_4_6, x_23, x_32, x_68, x_60, x_79_1_11_d0, x_79_1_11_d1, x_79_1_11_d2, x_79_1_11_d3, x_79_1_11_d4, x_80_4_d0, x_80_4_d1, x_80_4_d2, x_80_4_d3, x_80_4_d4, x_79_3_12_d0, x_79_3_12_d1, x_79_3_12_d2, x_79_3_12_d3, x_79_3_12_d4, x_2, x_80_3_d0, x_80_3_d1, x_80_3_d2, x_80_3_d3, x_80_3_d4, x_80_5_d0, x_80_5_d1, x_80_5_d2, x_80_5_d3, x_80_5_d4, x_79_4_12_d0, x_79_4_12_d1, x_79_4_12_d2, x_79_4_12_d3, x_79_4_12_d4, x_10_4_I, x_10_4_A, x_10_4_U, cb_ri, cb_rl, cb_rv, cb_th, cb_ite, ps_s, ps_n, u_368_3242, o, Int.reduceEq, Int.reduceLT, Int.reduceLE, reduceIte, Int.reduceAdd, Int.reduceSub, Int.reduceMul, Int.reduceNeg, Int.reduceToNat, Bool.false_eq_true, eq_self, if_pos, if_neg]
    rfl
  | succ d ih =>
    intro i h v5 v6 hI z hb h0 hd hi4
    by_cases c : (i : Int) + 6 ≤ h 27 0 0
    · obtain ⟨H, N, I⟩ := hI
      obtain ⟨c1, h', w5, w6, hc, ⟨I2, z2, k1, k2⟩, e⟩ := one_step lv i H N h I z hb c v5 v6
      obtain ⟨h2, k, hk, e2⟩ := ih (i + 6) h' w5 w6 I2 z2 (by rw [k2]; exact hb) (by rw [k2]; exact h0) (by rw [k2]; omega) (by omega)
      refine ⟨h2, c1 + k, by omega, ?_⟩
      have e3 : run (lv + 85) 368 3236 [aA 22 0, aA 11 0, aA 12 0, aA 25 0, aI (i : Int), w5, w6] [] h' = run (lv + 85) 368 23 [aA 22 0, aA 11 0, aA 12 0, aA 25 0, aI ((i + 6 : Nat) : Int), w5, w6] [] h' := by
        have o : w32 ((i : Int) + 6) = ((i + 6 : Nat) : Int) := by rw [w32_id (by omega) (by omega)]; omega
        simp (disch := omega) only [x_1, x_7_4_I, x_7_4_A, x_7_4_U, x_61, x_4_4, x_6_0, x_54, x_12, x_66, x_53, x_17, x_6_1, x_11, x_79_6_11_d0, x_79_6_11_d1, x_79_6_11_d2, x_79_6_11_d3, x_79_6_11_d4, x_6_2, x_79_6_12_d0, x_79_6_12_d1, x_79_6_12_d2, x_79_6_12_d3, x_79_6_12_d4, x_62, x_85, x_79_2_11_d0, x_79_2_11_d1, x_79_2_11_d2, x_79_2_11_d3, x_79_2_11_d4, x_79_2_12_d0, x_79_2_12_d1, x_79_2_12_d2, x_79_2_12_d3, x_79_2_12_d4, x_6_3, x_80_2_d0, x_80_2_d1, x_80_2_d2, x_80_2_d3, x_80_2_d4, x_7_5_I, x_7_5_A, x_7_5_U, x_79_1_12_d0, x_79_1_12_d1, x_79_1_12_d2, x_79_1_12_d3, x_79_1_12_d4, x_7_6_I, x_7_6_A, x_7_6_U, x_4_5, x_69, x_42, x_4_6, x_23, x_32, x_68, x_60, x_79_1_11_d0, x_79_1_11_d1, x_79_1_11_d2, x_79_1_11_d3, x_79_1_11_d4, x_80_4_d0, x_80_4_d1, x_80_4_d2, x_80_4_d3, x_80_4_d4, x_79_3_12_d0, x_79_3_12_d1, x_79_3_12_d2, x_79_3_12_d3, x_79_3_12_d4, x_2, x_80_3_d0, x_80_3_d1, x_80_3_d2, x_80_3_d3, x_80_3_d4, x_80_5_d0, x_80_5_d1, x_80_5_d2, x_80_5_d3, x_80_5_d4, x_79_4_12_d0, x_79_4_12_d1, x_79_4_12_d2, x_79_4_12_d3, x_79_4_12_d4, x_10_4_I, x_10_4_A, x_10_4_U, cb_ri, cb_rl, cb_rv, cb_th, cb_ite, ps_s, ps_n, u_368_3236, o, Int.reduceEq, Int.reduceLT, Int.reduceLE, reduceIte, Int.reduceAdd, Int.reduceSub, Int.reduceMul, Int.reduceNeg, Int.reduceToNat, Bool.false_eq_true, eq_self, if_pos, if_neg]
      rw [e, e3, e2]
      rfl
    · refine ⟨h, 0, by omega, ?_⟩
      have o : w32 (h 27 0 0 - 6) = h 27 0 0 - 6 := w32_id (by omega) (by omega)
      rw [hd_368_23]
      simp (disch := omega) only [x_1, x_7_4_I, x_7_4_A, x_7_4_U, x_61, x_4_4, x_6_0, x_54, x_12, x_66, x_53, x_17, x_6_1, x_11, x_79_6_11_d0, x_79_6_11_d1, x_79_6_11_d2, x_79_6_11_d3, x_79_6_11_d4, x_6_2, x_79_6_12_d0, x_79_6_12_d1, x_79_6_12_d2, x_79_6_12_d3, x_79_6_12_d4, x_62, x_85, x_79_2_11_d0, x_79_2_11_d1, x_79_2_11_d2, x_79_2_11_d3, x_79_2_11_d4, x_79_2_12_d0, x_79_2_12_d1, x_79_2_12_d2, x_79_2_12_d3, x_79_2_12_d4, x_6_3, x_80_2_d0, x_80_2_d1, x_80_2_d2, x_80_2_d3, x_80_2_d4, x_7_5_I, x_7_5_A, x_7_5_U, x_79_1_12_d0, x_79_1_12_d1, x_79_1_12_d2, x_79_1_12_d3, x_79_1_12_d4, x_7_6_I, x_7_6_A, x_7_6_U, x_4_5, x_69, x_42, x_4_6, x_23, x_32, x_68, x_60, x_79_1_11_d0, x_79_1_11_d1, x_79_1_11_d2, x_79_1_11_d3, x_79_1_11_d4, x_80_4_d0, x_80_4_d1, x_80_4_d2, x_80_4_d3, x_80_4_d4, x_79_3_12_d0, x_79_3_12_d1, x_79_3_12_d2, x_79_3_12_d3, x_79_3_12_d4, x_2, x_80_3_d0, x_80_3_d1, x_80_3_d2, x_80_3_d3, x_80_3_d4, x_80_5_d0, x_80_5_d1, x_80_5_d2, x_80_5_d3, x_80_5_d4, x_79_4_12_d0, x_79_4_12_d1, x_79_4_12_d2, x_79_4_12_d3, x_79_4_12_d4, x_10_4_I, x_10_4_A, x_10_4_U, cb_ri, cb_rl, cb_rv, cb_th, cb_ite, ps_s, ps_n, u_368_3242, o, Int.reduceEq, Int.reduceLT, Int.reduceLE, reduceIte, Int.reduceAdd, Int.reduceSub, Int.reduceMul, Int.reduceNeg, Int.reduceToNat, Bool.false_eq_true, eq_self, if_pos, if_neg]
      rfl
theorem st0_z (G : WG) {t k i : Nat} (h22 : t ≠ 22) (h27 : t ≠ 27) : h0 G t k i = hz t i := by unfold h0; rw [if_neg h22, if_neg h27]
theorem sz_0 {t i : Nat} (h : ¬ (t = 113 ∨ t = 150 ∨ t = 184 ∨ t = 198 ∨ t = 206) ∧ t ≠ 147 ∧ t ≠ 187) : hz t i = 0 := by
  unfold hz; rw [if_neg h.1, if_neg h.2.1, if_neg h.2.2]
theorem st0_0 (G : WG) {t k i : Nat} (h : ¬ (t = 113 ∨ t = 150 ∨ t = 184 ∨ t = 198 ∨ t = 206) ∧ t ≠ 147 ∧ t ≠ 187 ∧ t ≠ 22 ∧ t ≠ 27) : h0 G t k i = 0 := by
  rw [st0_z G (by omega) (by omega)]; exact sz_0 (by omega)
theorem st0_M (G : WG) {i : Nat} (h1 : i ≠ 13) (h2 : i ≠ 1) : h0 G 187 0 i = 0 := by
  rw [st0_z G (by omega) (by omega)]; unfold hz; rw [if_neg (by omega), if_neg (by omega), if_pos rfl, if_neg h1, if_neg h2]
theorem base_I (G : WG) : INV (h0 G) 0 0 := by
  have m13 : h0 G 187 0 13 = 1 := by rw [st0_z G (by omega) (by omega)]; rfl
  have m1 : h0 G 187 0 1 = -1 := by rw [st0_z G (by omega) (by omega)]; rfl
  have s147 : h0 G 147 0 0 = 1 := by rw [st0_z G (by omega) (by omega)]; rfl
  have s113 : h0 G 113 0 0 = -1 := by rw [st0_z G (by omega) (by omega)]; rfl
  have s184 : h0 G 184 0 0 = -1 := by rw [st0_z G (by omega) (by omega)]; rfl
  have s198 : h0 G 198 0 0 = -1 := by rw [st0_z G (by omega) (by omega)]; rfl
  have s206 : h0 G 206 0 0 = -1 := by rw [st0_z G (by omega) (by omega)]; rfl
  refine ⟨⟨⟨⟨st0_0 G (by omega), by omega, ⟨0, st0_0 G (by omega), by omega, fun i hi => absurd hi (by omega)⟩, fun i hi => absurd hi (by omega)⟩, ⟨st0_0 G (by omega), by omega, ⟨0, st0_0 G (by omega), by omega, fun i hi => absurd hi (by omega)⟩, fun i hi => absurd hi (by omega)⟩, ⟨?_, ?_, ?_, ?_, ?_, fun j hj => ?_⟩, ⟨0, 0, st0_0 G (by omega), by omega, st0_0 G (by omega), st0_M G (by omega) (by omega), by omega, fun a ha => absurd ha (by omega)⟩⟩, ⟨⟨st0_M G (by omega) (by omega), by omega, fun i hi => absurd hi (by omega)⟩, ⟨st0_M G (by omega) (by omega), by omega, fun i hi => absurd hi (by omega), fun n n' hn => absurd hn (by omega)⟩, ⟨?_, ?_, ?_, ?_, fun j hj => ?_⟩⟩, ⟨[], ⟨?_, ?_, fun i hi => absurd hi (by show ¬ i < 0; omega), fun i hi => absurd hi (by show ¬ i < 0; omega), by show 0 ≤ 12; omega, by show 0 ≤ 400; omega, fun x hx => absurd hx (List.not_mem_nil)⟩, Or.inl ⟨by rw [m1]; omega, rfl⟩, by rw [s113, m1]⟩⟩, ⟨0, by omega, st0_0 G (by omega), st0_0 G (by omega), fun j hj => ?_⟩, ⟨?_, Or.inl (st0_0 G (by omega))⟩, ⟨0, 0, st0_0 G (by omega), st0_0 G (by omega), by omega, st0_0 G (by omega), by omega, fun a ha => absurd ha (by omega)⟩, by rw [s184, s198], s206⟩
  · rw [st0_0 G (by omega), st0_M G (by omega) (by omega)]
  · rw [st0_0 G (by omega), st0_M G (by omega) (by omega)]
  · rw [st0_0 G (by omega), st0_M G (by omega) (by omega)]
  · rw [st0_0 G (by omega), st0_M G (by omega) (by omega)]
  · rw [s147, m13]
  · rw [st0_0 G (by omega), st0_M G (by omega) (by omega)]
  · rw [st0_M G (by omega) (by omega)]; omega
  · rw [st0_M G (by omega) (by omega)]; omega
  · rw [st0_M G (by omega) (by omega)]; omega
  · rw [st0_M G (by omega) (by omega)]; omega
  · rw [st0_M G (by omega) (by omega)]; omega
  · rw [st0_0 G (by omega)]; decide
  · rw [st0_0 G (by omega)]; decide
  · rw [st0_0 G (by omega), st0_0 G (by omega)]; omega
  · rw [st0_0 G (by omega), st0_0 G (by omega)]
theorem base_Z (G : WG) : Zh (h0 G) := fun t ht => Or.inl (st0_0 G (by omega))
theorem goes_all (G : WG) (hL : gL G ≤ 3072) : goes1 G := by
  have e27 : h0 G 27 0 0 = (gL G : Int) := by unfold h0; rw [if_neg (by omega), if_pos rfl]
  obtain ⟨h', k, hk, e⟩ := law_loop 0 512 0 (h0 G) none none ⟨0, 0, base_I G⟩ (base_Z G) (by rw [e27]; omega) (by rw [e27]; omega) (by rw [e27]; omega) (by omega)
  refine ⟨0 + 85, h', k, by omega, by omega, ?_⟩
  rw [← e]
  unfold sg3
  simp (disch := omega) only [x_1, x_7_4_I, x_7_4_A, x_7_4_U, x_61, x_4_4, x_6_0, x_54, x_12, x_66, x_53, x_17, x_6_1, x_11, x_79_6_11_d0, x_79_6_11_d1, x_79_6_11_d2, x_79_6_11_d3, x_79_6_11_d4, x_6_2, x_79_6_12_d0, x_79_6_12_d1, x_79_6_12_d2, x_79_6_12_d3, x_79_6_12_d4, x_62, x_85, x_79_2_11_d0, x_79_2_11_d1, x_79_2_11_d2, x_79_2_11_d3, x_79_2_11_d4, x_79_2_12_d0, x_79_2_12_d1, x_79_2_12_d2, x_79_2_12_d3, x_79_2_12_d4, x_6_3, x_80_2_d0, x_80_2_d1, x_80_2_d2, x_80_2_d3, x_80_2_d4, x_7_5_I, x_7_5_A, x_7_5_U, x_79_1_12_d0, x_79_1_12_d1, x_79_1_12_d2, x_79_1_12_d3, x_79_1_12_d4, x_7_6_I, x_7_6_A, x_7_6_U, x_4_5, x_69, x_42, x_4_6, x_23, x_32, x_68, x_60, x_79_1_11_d0, x_79_1_11_d1, x_79_1_11_d2, x_79_1_11_d3, x_79_1_11_d4, x_80_4_d0, x_80_4_d1, x_80_4_d2, x_80_4_d3, x_80_4_d4, x_79_3_12_d0, x_79_3_12_d1, x_79_3_12_d2, x_79_3_12_d3, x_79_3_12_d4, x_2, x_80_3_d0, x_80_3_d1, x_80_3_d2, x_80_3_d3, x_80_3_d4, x_80_5_d0, x_80_5_d1, x_80_5_d2, x_80_5_d3, x_80_5_d4, x_79_4_12_d0, x_79_4_12_d1, x_79_4_12_d2, x_79_4_12_d3, x_79_4_12_d4, x_10_4_I, x_10_4_A, x_10_4_U, cb_ri, cb_rl, cb_rv, cb_th, cb_ite, ps_s, ps_n, u_368_20, Int.reduceEq, Int.reduceLT, Int.reduceLE, reduceIte, Int.reduceAdd, Int.reduceSub, Int.reduceMul, Int.reduceNeg, Int.reduceToNat, Bool.false_eq_true, eq_self, if_pos, if_neg]
  rfl
