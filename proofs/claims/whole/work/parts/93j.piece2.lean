/-! A NEW PIECE: both. -/
theorem of_pg {tt k : Nat} (y : PcG tt k) : ofFr tt k ∨ (k = 0 ∧ (tt = 149 ∨ tt = 194)) := by
  rcases y with y | y
  · exact Or.inl (Or.inr (Or.inr (scr_c (Or.inr (Or.inl y)))))
  · by_cases c : tt = 149
    · exact Or.inr (by omega)
    · exact Or.inl (Or.inr (Or.inr (scr_c (Or.inl ⟨y.1, by omega⟩))))
theorem of_pm {tt k : Nat} (y : pmFr tt k) : ofFr tt k ∨ (k = 0 ∧ (tt = 149 ∨ tt = 194)) := by
  unfold pmFr at y
  by_cases c : tt = 194
  · exact Or.inr (by omega)
  · by_cases c2 : tt = 198 ∨ tt = 187
    · exact Or.inl (Or.inr (Or.inl (by omega)))
    · exact Or.inl (Or.inr (Or.inr (scr_m (by unfold rsc; omega))))
theorem pg_n {tt k : Nat} (h : ¬ (k = 1 ∧ stTag tt) ∧ ¬ (k = 0 ∧ 149 ≤ tt ∧ tt ≤ 155)) : ¬ PcG tt k := fun z => z.elim h.1 h.2
theorem pm_n {tt k : Nat} (h : tt < 186 ∨ tt = 188 ∨ tt = 189 ∨ (191 ≤ tt ∧ tt ≤ 193) ∨ 200 ≤ tt) : ¬ pmFr tt k := by unfold pmFr; omega
theorem GM_0 {M : Nat → Int} {H N : Nat} {v : Int} (hv : 0 ≤ v ∧ v ≤ 12) (G : GM M H N) : GM (upM M 0 v) H N := by
  obtain ⟨⟨a1, a2, a3⟩, ⟨b1, b2, b3, b4⟩, ⟨c1, c2, c3, c4, c5⟩⟩ := G
  refine GM_ch (fun i h1 h2 => up_ne (by omega)) (up_ne (by omega)) (up_ne (by omega)) (fun i hi => ?_) ?_ ⟨⟨a1, a2, a3⟩, ⟨b1, b2, b3, b4⟩, ⟨c1, c2, c3, c4, c5⟩⟩
  · obtain ⟨q0, q1, q2, q3, q4, q5⟩ := a3 i hi
    rw [up_ne (by omega), up_ne (by omega), up_ne (by omega), up_ne (by omega), up_ne (by omega), up_ne (by omega)]
    exact ⟨rfl, q1, rfl, rfl, q4, rfl⟩
  · exact ⟨by rw [up_eq]; exact hv, by rw [up_ne (by omega)]; exact c2, by rw [up_ne (by omega)]; exact c3, by rw [up_ne (by omega)]; exact c4, fun j hj => by rw [up_ne (by omega)]; exact c5 j hj⟩
theorem ag_piece (lc lr H N : Nat) (h : Hp) (I : INV h H N) : AGt t03 (fun h => cl (lc + 80) 86 [aA 11 0] h) (fun h => cl (lr + 80) 202 [aA 12 0] h) h := by
  obtain ⟨e, t1, t2, t3, t4⟩ := I.2.1
  obtain ⟨hd, c1, c2⟩ := copyFrom_c (lc + 77) 0 1 h (by omega)
  have kd := cpS c2
  have hd8 : hd 148 0 = h 148 0 := funext (fun j => kd _ _ _ (by unfold stFr; omega))
  have G : GP (h 187 0, H, N) := I.1.2.1
  have c0 := I.1.2.1.2.2.1
  have rc := readP_c (lc + 69) (h := hd) (e := e) (h 187 0, H, N) (by rw [kd _ _ _ (by unfold stFr; omega)]; exact t2) t1 (RS_cp c2 I.1.1) G
  rw [hd8] at rc
  have pm : ∀ g : Hp, (∀ tt j, 187 ≤ tt → g tt 0 j = h tt 0 j) → _ := fun g hg => piece_m (lr + 69) e (h 148 0) g (h 187 0, H, N) t1 (by rw [hg _ _ (by omega)]; exact t3) (fun i hi => by rw [hg _ _ (by omega)]; exact (t4 i hi).1) (funext (fun j => hg _ _ (by omega))) G
  -- what is left when the piece is refused
  have bad : ∀ (h' h2 : Hp) (f : Int), h' 149 0 0 = 0 → (∀ tt k j, ¬ PcG tt k → h' tt k j = hd tt k j) → h2 198 0 0 = f → h2 194 0 0 = 0 → h2 187 0 = h 187 0 → (∀ tt k j, ¬ pmFr tt k → h2 tt k j = hset h' 184 0 0 f tt k j) → (∃ H N, INV h2 H N) ∧ (∀ j, h2 22 0 j = h 22 0 j) ∧ h2 27 0 0 = h 27 0 0 := by
    intro h' h2 f a1 a2 a3 a4 a5 a6
    have tot : ∀ tt k j, ¬ (PcG tt k ∨ pmFr tt k ∨ (k = 0 ∧ tt = 184)) → h2 tt k j = h tt k j := fun tt k j hn => by
      have n1 : ¬ PcG tt k := fun z => hn (Or.inl z)
      rw [a6 tt k j (fun z => hn (Or.inr (Or.inl z))), hs_o (fun z => hn (Or.inr (Or.inr ⟨z.2.1, z.1⟩))), a2 tt k j n1]
      exact kd tt k j (fun z => n1 (Or.inl z))
    have nn : ∀ tt k, (¬ (k = 1 ∧ stTag tt) ∧ ¬ (k = 0 ∧ 149 ≤ tt ∧ tt ≤ 155)) ∧ (tt < 186 ∨ tt = 188 ∨ tt = 189 ∨ (191 ≤ tt ∧ tt ≤ 193) ∨ 200 ≤ tt) ∧ tt ≠ 184 → ¬ (PcG tt k ∨ pmFr tt k ∨ (k = 0 ∧ tt = 184)) := fun tt k hh y => by
      rcases y with y | y | y
      · exact pg_n hh.1 y
      · exact pm_n hh.2.1 y
      · exact hh.2.2 y.2
    refine ⟨⟨H, N, INV_use I (fun tt k j hn => tot tt k j (fun y => hn ?_)) ?_ a4 (by rw [a5]; exact RS_e (fun t i ht => tot _ _ _ (nn _ _ (by unfold stTag at ht ⊢; omega))) I.1.1) (by rw [a5]; exact I.1.2.1) (by rw [a5]; exact LawR_e (fun tt j ht => tot _ _ _ (nn _ _ (by unfold stTag; omega))) (fun _ _ => rfl) I.1.2.2) (PastR_e I.2.2.2.1 (fun tt j ht => ?_) (fun k t i hk ht => tot _ _ _ (nn _ _ (by unfold stTag at ht ⊢; omega)))) ?_⟩, fun j => tot _ _ _ (nn _ _ (by unfold stTag; omega)), tot _ _ _ (nn _ _ (by unfold stTag; omega))⟩
    · rcases y with y | y | y
      · exact of_pg y
      · exact of_pm y
      · exact Or.inl (Or.inr (Or.inl (by omega)))
    · rw [a6 _ _ _ (pm_n (by omega)), hs_t (by omega)]; exact a1
    · by_cases c : tt = 187
      · rw [c, a5]
      · exact tot _ _ _ (nn _ _ (by unfold stTag; omega))
    · rw [a3, a6 _ _ _ (pm_n (by omega)), hs_eq]
  cases x : pcOf (h 148 0) e (h 187 0, H, N) with
  | inl f =>
    rw [x] at rc
    obtain ⟨h', r1, r2, r3, r4⟩ := rc
    have hC : cl (lc + 80) 86 [aA 11 0] h = th 0 (hset h' 184 0 0 (f : Int)) := by
      rw [in_86]
      simp (disch := omega) only [x_6_0, x_35_1, x_35_0, x_79_2_7_d0, x_79_2_7_d1, x_79_2_7_d2, x_79_2_7_d3, x_79_2_7_d4, x_79_1_6_d0, x_79_1_6_d1, x_79_1_6_d2, x_79_1_6_d3, x_79_1_6_d4, x_7_1_I, x_7_1_A, x_7_1_U, x_33, x_36, x_4_1, x_69, x_84, x_1, x_64, x_47_I, x_47_A, x_11, x_79_1_5_d0, x_79_1_5_d1, x_79_1_5_d2, x_79_1_5_d3, x_79_1_5_d4, x_82, cb_ri, cb_rl, cb_rv, cb_th, cb_ite, ps_s, ps_n, u_86_0, u_86_44, u_86_66, c1, r1, r2, Int.reduceEq, Int.reduceLT, Int.reduceLE, reduceIte, Int.reduceAdd, Int.reduceSub, Int.reduceMul, Int.reduceNeg, Int.reduceToNat, Bool.false_eq_true, eq_self, if_pos, if_neg]
    have p := pm (hset h' 184 0 0 (f : Int)) (fun tt j ht => by rw [hs_t (by omega), r4 _ _ _ (pg_n (by unfold stTag; omega)), kd _ _ _ (by unfold stFr; omega)])
    rw [x] at p
    obtain ⟨h2, m1, m2, m3, m4, m5, m6⟩ := p
    exact Or.inr ⟨0, _, hC, by decide, 0, h2, m1, m2, bad h' h2 (f : Int) r3 r4 m3 m4 m5 m6⟩
  | inr S' =>
    rw [x] at rc
    obtain ⟨h', r1, r2, r3, r5, r4⟩ := rc
    have tx : hset h' 184 0 0 (-1) 143 0 0 = h 187 0 0 := by
      rw [hs_t (by omega), r4 _ _ _ (pg_n (by omega)), kd _ _ _ (by unfold stFr; omega)]
      exact I.1.1.2.2.1.1
    by_cases c12 : h 187 0 0 = 12
    · have hC : cl (lc + 80) 86 [aA 11 0] h = th 3 (hset h' 184 0 0 (-1)) := by
        rw [c12] at tx
        rw [in_86]
        simp (disch := omega) only [x_6_0, x_35_1, x_35_0, x_79_2_7_d0, x_79_2_7_d1, x_79_2_7_d2, x_79_2_7_d3, x_79_2_7_d4, x_79_1_6_d0, x_79_1_6_d1, x_79_1_6_d2, x_79_1_6_d3, x_79_1_6_d4, x_7_1_I, x_7_1_A, x_7_1_U, x_33, x_36, x_4_1, x_69, x_84, x_1, x_64, x_47_I, x_47_A, x_11, x_79_1_5_d0, x_79_1_5_d1, x_79_1_5_d2, x_79_1_5_d3, x_79_1_5_d4, x_82, cb_ri, cb_rl, cb_rv, cb_th, cb_ite, ps_s, ps_n, u_86_0, u_86_44, u_86_66, c1, r1, r2, tx, Int.reduceEq, Int.reduceLT, Int.reduceLE, reduceIte, Int.reduceAdd, Int.reduceSub, Int.reduceMul, Int.reduceNeg, Int.reduceToNat, Bool.false_eq_true, eq_self, if_pos, if_neg]
      have p := pm (hset h' 184 0 0 (-1)) (fun tt j ht => by rw [hs_t (by omega), r4 _ _ _ (pg_n (by unfold stTag; omega)), kd _ _ _ (by unfold stFr; omega)])
      rw [x] at p
      obtain ⟨h2, m1, m2, m3, m4, m5, m6⟩ := p.2.2.1 c12
      exact Or.inr ⟨3, _, hC, by decide, 0, h2, m1, m2, bad h' h2 (-1) r3 r4 m3 m4 m5 m6⟩
    · obtain ⟨hb, d1, d2⟩ := copyFrom_c (lc + 77) 1 0 (hset h' 184 0 0 (-1)) (by omega)
      have kb := cpS d2
      have R5 : RS (hset h' 184 0 0 (-1)) 1 S'.1 S'.2.1 S'.2.2 := RS_e (fun t i ht => hs_o (by unfold stTag at ht; omega)) r5
      have Rb : RS hb 0 S'.1 S'.2.1 S'.2.2 := RS_cp d2 R5
      let v : Int := h 187 0 0 + 1
      let h1 : Hp := hset (hset hb 143 0 0 (h 187 0 0 + 1)) 126 0 0 0
      have o1 : ∀ tt k j, ¬ (PcG tt k ∨ stFr 0 tt k ∨ (k = 0 ∧ (tt = 184 ∨ tt = 126))) → h1 tt k j = h tt k j := fun tt k j hn => by
        have n1 : ¬ PcG tt k := fun z => hn (Or.inl z)
        have n2 : ¬ stFr 0 tt k := fun z => hn (Or.inr (Or.inl z))
        have n3 : ¬ (k = 0 ∧ (tt = 184 ∨ tt = 126)) := fun z => hn (Or.inr (Or.inr z))
        show hset (hset hb 143 0 0 (h 187 0 0 + 1)) 126 0 0 0 tt k j = _
        rw [hs_o (by omega), hs_o (fun z => n2 ⟨z.2.1, by unfold stTag; omega⟩), kb tt k j n2, hs_o (by omega), r4 tt k j n1]
        exact kd tt k j (fun z => n1 (Or.inl z))
      have p := pm (hset h1 25 0 0 v) (fun tt j ht => by
        rw [hs_t (by omega)]
        exact o1 _ _ _ (fun z => by
          rcases z with z | z | z
          · exact pg_n (by unfold stTag; omega) z
          · unfold stFr stTag at z; omega
          · omega))
      rw [x] at p
      obtain ⟨G', p5, -, pg⟩ := p
      obtain ⟨h2, m1, m2, m3, m4, m8, m5, m6⟩ := pg c12
      have e0 : S'.1 0 = h 187 0 0 := p5 0 (by omega)
      have t43 : hb 143 0 0 = h 187 0 0 := by rw [Rb.2.2.1.1]; exact e0
      have fg : cl (lc + 79) 39 [aA 5 0] (hset hb 143 0 0 (h 187 0 0 + 1)) = rv h1 := by
        show cl ((lc + 78) + 1) _ _ _ = _
        rw [in_39]
        simp (disch := omega) only [x_6_0, x_1, x_36, x_83, u_39_0, Int.reduceEq, Int.reduceLT, Int.reduceLE, reduceIte, Int.reduceAdd, Int.reduceSub, Int.reduceMul, Int.reduceNeg, Int.reduceToNat, Bool.false_eq_true, eq_self, if_pos, if_neg]
        rfl
      have tl : h1 143 0 0 = h 187 0 0 + 1 := by
        show hset (hset hb 143 0 0 (h 187 0 0 + 1)) 126 0 0 0 143 0 0 = _
        rw [hs_t (by omega), hs_eq]
      have hC : cl (lc + 80) 86 [aA 11 0] h = ri v h1 := by
        rw [in_86]
        simp (disch := omega) only [x_6_0, x_35_1, x_35_0, x_79_2_7_d0, x_79_2_7_d1, x_79_2_7_d2, x_79_2_7_d3, x_79_2_7_d4, x_79_1_6_d0, x_79_1_6_d1, x_79_1_6_d2, x_79_1_6_d3, x_79_1_6_d4, x_7_1_I, x_7_1_A, x_7_1_U, x_33, x_36, x_4_1, x_69, x_84, x_1, x_64, x_47_I, x_47_A, x_11, x_79_1_5_d0, x_79_1_5_d1, x_79_1_5_d2, x_79_1_5_d3, x_79_1_5_d4, x_82, cb_ri, cb_rl, cb_rv, cb_th, cb_ite, ps_s, ps_n, u_86_0, u_86_44, u_86_66, c1, r1, r2, tx, d1, t43, fg, tl, w32_id, Int.reduceEq, Int.reduceLT, Int.reduceLE, reduceIte, Int.reduceAdd, Int.reduceSub, Int.reduceMul, Int.reduceNeg, Int.reduceToNat, Bool.false_eq_true, eq_self, if_pos, if_neg]
        rfl
      have cc : ∀ tt k j, tt < 186 → tt ≠ 25 → h2 tt k j = h1 tt k j := fun tt k j ht h25 => by rw [m6 tt k j (fun z => z.elim (pm_n (by omega)) (fun z => by omega)), hs_o (by omega)]
      have ch : ∀ tt k j, (tt < 186 ∧ tt ≠ 25 ∧ tt ≠ 184 ∧ tt ≠ 126) ∨ tt = 188 ∨ tt = 189 ∨ tt = 191 ∨ tt = 193 ∨ 200 ≤ tt → ¬ PcG tt k → ¬ stFr 0 tt k → h2 tt k j = h tt k j := fun tt k j ht n1 n2 => by
        rw [m6 tt k j (fun z => z.elim (pm_n (by omega)) (fun z => by omega)), hs_o (by omega)]
        exact o1 _ _ _ (fun z => z.elim n1 (fun z => z.elim n2 (fun z => by omega)))
      obtain ⟨Sz, nw, z1, z2, z3, z4, z5, z6⟩ := I.2.2.2.1
      refine Or.inl ⟨v, h1, hC, h2, m1, m2, ?_, ⟨S'.2.1, S'.2.2, INV_use I (fun tt k j hn => ?_) ?_ m4 ?_ (by rw [m5]; exact GM_0 (show 0 ≤ h 187 0 0 + 1 ∧ h 187 0 0 + 1 ≤ 12 by omega) G') ?_ (PastR_0 (nw := nw) ?_ m8 ?_ z5) ?_⟩, fun j => ch _ _ _ (by omega) (pg_n (by omega)) (by unfold stFr stTag; omega), ch _ _ _ (by omega) (pg_n (by omega)) (by unfold stFr stTag; omega)⟩
      · rw [m6 _ _ _ (fun z => z.elim (pm_n (by omega)) (fun z => by omega)), hs_eq]
      · have n1 : ¬ PcG tt k := fun z => hn (of_pg z)
        have n2 : ¬ pmFr tt k := fun z => hn (of_pm z)
        have n3 : ¬ stFr 0 tt k := fun z => hn (Or.inl (Or.inl z))
        have n4 : ¬ (k = 0 ∧ (tt = 184 ∨ tt = 126 ∨ tt = 192)) := fun z => hn (Or.inl (Or.inr (Or.inl (by omega))))
        have n5 : ¬ (tt = 25 ∧ k = 0) := fun z => hn (Or.inl (Or.inr (Or.inr (Or.inr (Or.inr z)))))
        rw [m6 tt k j (fun z => z.elim n2 (fun z => by omega)), hs_o (by omega)]
        exact o1 _ _ _ (fun z => z.elim n1 (fun z => z.elim n3 (fun z => by omega)))
      · rw [cc _ _ _ (by omega) (by omega)]
        show hset (hset hb 143 0 0 (h 187 0 0 + 1)) 126 0 0 0 149 0 0 = 0
        rw [hs_t (by omega), hs_t (by omega), kb _ _ _ (by unfold stFr stTag; omega), hs_t (by omega)]
        exact r3
      · rw [m5]
        refine RS_e (fun t i ht => ?_) (RS_x (t := 143) (j := 0) (h 187 0 0 + 1) (by omega) Rb)
        unfold stTag at ht
        rw [cc t 0 i (by omega) (by omega)]
        exact hs_o (by omega)
      · rw [m5]
        refine LawR_e (fun tt j ht => ch _ _ _ (by omega) (pg_n (by omega)) (by unfold stFr stTag; omega)) (fun j hj => ?_) I.1.2.2
        rw [up_ne (by omega)]
        exact p5 j (by omega)
      · rw [cc _ _ _ (by omega) (by omega)]; exact hs_eq _ _ _ _ _
      · rw [cc _ _ _ (by omega) (by omega)]
        show hset (hset hb 143 0 0 (h 187 0 0 + 1)) 126 0 0 0 125 0 0 = _
        rw [hs_t (by omega), hs_t (by omega), kb _ _ _ (by unfold stFr stTag; omega), hs_t (by omega), r4 _ _ _ (pg_n (by omega)), kd _ _ _ (by unfold stFr; omega)]
        exact z4
      · rw [m3, cc _ _ _ (by omega) (by omega)]
        show hset (hset hb 143 0 0 (h 187 0 0 + 1)) 126 0 0 0 184 0 0 = -1
        rw [hs_t (by omega), hs_t (by omega), kb _ _ _ (by unfold stFr stTag; omega), hs_eq]
