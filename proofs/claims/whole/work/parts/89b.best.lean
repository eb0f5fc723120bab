/-! A HAND MORE; a note elsewhere. -/
theorem bk_ov {M : Nat → Int} {L : List LN} {H N : Nat} (hH : H ≤ 6) (key : Nat) : bkV M L H N key = ovM M L H N (key : Int) := by
  have k1 : hmK H (key : Int) = H + 1 := if_neg (by omega)
  unfold bkV ovM
  refine lv_ov _ (by rw [k1]; omega) (fun n hn x hx => ?_)
  rw [alB_v, k1, Nat.zero_testBit]
  by_cases c : x < H + 1
  · have : abK M L H (key : Int) n x = cansM M L H (key : Int) n x := by
      unfold abK cansM canG abM
      by_cases d : x < H
      · rw [if_pos d, if_pos d]
      · have : x = H := by omega
        subst this
        rw [if_neg d, if_neg d]
    rw [this]; simp
  · simp [c]
theorem bt_ov {M : Nat → Int} {L : List LN} {H N : Nat} (hH : H ≤ 6) (n b : Nat) : btV M L H N n b = ovM (upM M (50 + 4 * n) (b : Int)) L H N (-1) := by
  have k1 : hmK H (-1) = H := if_pos rfl
  unfold btV ovM
  refine lv_ov _ (by rw [k1]; omega) (fun n' hn x hx => ?_)
  rw [alB_v, k1, Nat.zero_testBit]
  by_cases c : x < H
  · rw [cansM_ab c]; simp
  · simp [c]
theorem mnF_big {v : Nat → Nat} (hv : ∀ i, v i ≤ 14) (F : Nat) (hF : 15 ≤ F) : ∀ j, mnF (fun _ => true) v (0, 15) (j + 1) = mnF (fun _ => true) v (0, F) (j + 1) := by
  intro j
  induction j with
  | zero =>
    have := hv 0
    show (if (true && decide (v 0 < 15)) = true then (0, v 0) else (0, 15)) = (if (true && decide (v 0 < F)) = true then (0, v 0) else (0, F))
    rw [if_pos (by simp; omega), if_pos (by simp; omega)]
  | succ j ih =>
    show (if (true && decide (v (j + 1) < (mnF (fun _ => true) v (0, 15) (j + 1)).2)) = true then (j + 1, v (j + 1)) else mnF (fun _ => true) v (0, 15) (j + 1)) = (if (true && decide (v (j + 1) < (mnF (fun _ => true) v (0, F) (j + 1)).2)) = true then (j + 1, v (j + 1)) else mnF (fun _ => true) v (0, F) (j + 1))
    rw [ih]
theorem ag_best (lc lr H N : Nat) (h : Hp) (I : INV h H N) : AGp (fun h => cl (lc + 80) 113 [aA 11 0] h) (fun h => cl (lr + 80) 262 [aA 12 0] h) h := by
  have hH := I.1.2.1.1.2.1
  have hN := I.1.2.1.2.1.2.1
  obtain ⟨L, W, hL, hW, hl⟩ := INV_law I
  have hbt : ∀ n, n < N → 0 ≤ h 187 0 (50 + 4 * n) ∧ h 187 0 (50 + 4 * n) ≤ 11 := fun n hn => (I.1.2.1.2.1.2.2.1 n hn).1
  have vle : ∀ b : Nat, bkV (h 187 0) L H N b ≤ 14 := fun b => Nat.le_trans (lvN_le _ _ _ hbt) hN
  refine AGp_q I (v := (((mnF (fun _ => true) (bkV (h 187 0) L H N) (0, 2000000000) 64).1 : Nat) : Int)) ?_ (fun g s J => ?_)
  · obtain ⟨h1, e1, cpy⟩ := copyFrom_c (lc + 77) 0 1 h (by omega)
    have s1 := csc_cp cpy
    have R1 : RS h1 1 (h 187 0) H N := RS_cp cpy I.1.1
    have W1 : LawW h1 0 L := LawW_e (fun tt j ht => s1 tt 0 j (by unfold csc stTag; omega)) W
    obtain ⟨h2, b1, b2⟩ := bestKey_c (lc + 67) 1 H N (h 187 0) h1 L R1 I.1.2.1 W1
    rw [mnF_big vle 2000000000 (by omega) 63] at b1
    refine ⟨h2, ?_, Sm_t s1 (fun tt k j hf => b2 tt k j (by unfold csc stTag at hf; unfold bkFr miFr gaFr lwFr lvFr; omega))⟩
    show cl (lc + 80) _ _ _ = _
    rw [in_113]
    simp (disch := omega) only [x_6_0, x_35_1, x_35_0, x_79_2_7_d0, x_79_2_7_d1, x_79_2_7_d2, x_79_2_7_d3, x_79_2_7_d4, x_79_2_3_d0, x_79_2_3_d1, x_79_2_3_d2, x_79_2_3_d3, x_79_2_3_d4, x_82, cb_ri, cb_rl, cb_rv, cb_th, cb_ite, ps_s, ps_n, u_113_0, e1, b1]
  · have main := loop_p (S := AV × Hp) (F := fun key (q : AV × Hp) => run (lr + 79) 262 13 [aA 12 0, aI (((mnF (fun _ => true) (bkV (h 187 0) L H N) (0, 2000000000) key).1 : Nat) : Int), aI (((mnF (fun _ => true) (bkV (h 187 0) L H N) (0, 2000000000) key).2 : Nat) : Int), aI (key : Int), q.1] [] q.2)
      (I := fun key q => ∀ tt k j, ¬ rsc tt k → ¬ (tt = 206 ∧ k = 0 ∧ j = 0) → q.2 tt k j = g tt k j)
      (Q := fun r => ∃ h', r = ri (((mnF (fun _ => true) (bkV (h 187 0) L H N) (0, 2000000000) 64).1 : Nat) : Int) h' ∧ Sm rsc g h') (N := 64) ?_ ?_ (none, hset g 186 0 0 0) (fun tt k j h1 h2 => rsc_186 g 0 tt k j h1)
    · obtain ⟨h', f1, f2⟩ := main
      refine ⟨h', ?_, f2⟩
      show cl (lr + 80) _ _ _ = _
      rw [← f1, in_262]
      simp (disch := omega) only [x_6_0, x_1, x_36, x_7_1_I, x_7_1_A, x_7_1_U, x_7_2_I, x_7_2_A, x_7_2_U, x_7_3_I, x_7_3_A, x_7_3_U, x_61, x_4_3, x_65, x_79_1_12_d0, x_79_1_12_d1, x_79_1_12_d2, x_79_1_12_d3, x_79_1_12_d4, x_7_4_I, x_7_4_A, x_7_4_U, x_4_4, x_4_2, x_64, x_60, x_10_3_I, x_10_3_A, x_10_3_U, x_4_1, x_82, cb_ri, cb_rl, cb_rv, cb_th, cb_ite, ps_s, ps_n, u_262_0, u_262_43, u_262_48, u_262_54]
      rfl
    · rintro key ⟨v4, q⟩ hk hq
      simp only at hq ⊢
      have q7 : hset q 206 0 0 (key : Int) 187 0 = h 187 0 := by funext j; rw [hs_t (by omega), hq _ _ _ (by unfold rsc; omega) (by omega), s _ _ _ scr_187]
      obtain ⟨q1, q2, l1, l2, l3⟩ := lookOver_m (lr + 43) H N (hset q 206 0 0 (key : Int)) L (by rw [q7]; exact hL) (by rw [q7]; exact I.1.2.1) hW hl (by rw [hs_eq]; exact Or.inr (by omega))
      rw [q7, hs_eq, ← bk_ov hH key] at l2
      have vk := vle key
      have mle := mnF_le (fun _ => true) (bkV (h 187 0) L H N) (0, 2000000000) key
      have hst : mnF (fun _ => true) (bkV (h 187 0) L H N) (0, 2000000000) (key + 1) = if (true && decide (bkV (h 187 0) L H N key < (mnF (fun _ => true) (bkV (h 187 0) L H N) (0, 2000000000) key).2)) = true then (key, bkV (h 187 0) L H N key) else mnF (fun _ => true) (bkV (h 187 0) L H N) (0, 2000000000) key := rfl
      refine ⟨(aI ((bkV (h 187 0) L H N key : Nat) : Int), q2), ?_, fun tt k j h1 h2 => ?_⟩
      · try simp only
        rw [hst]
        generalize mnF (fun _ => true) (bkV (h 187 0) L H N) (0, 2000000000) key = mj at mle
        rw [hd_262_13]
        by_cases c : bkV (h 187 0) L H N key < mj.2
        · rw [if_pos (by simpa using c)]
          simp (disch := omega) only [x_6_0, x_1, x_36, x_7_1_I, x_7_1_A, x_7_1_U, x_7_2_I, x_7_2_A, x_7_2_U, x_7_3_I, x_7_3_A, x_7_3_U, x_61, x_4_3, x_65, x_79_1_12_d0, x_79_1_12_d1, x_79_1_12_d2, x_79_1_12_d3, x_79_1_12_d4, x_7_4_I, x_7_4_A, x_7_4_U, x_4_4, x_4_2, x_64, x_60, x_10_3_I, x_10_3_A, x_10_3_U, x_4_1, x_82, cb_ri, cb_rl, cb_rv, cb_th, cb_ite, ps_s, ps_n, u_262_0, u_262_43, u_262_48, u_262_54, l1, l2, Int.reduceEq, Int.reduceLT, Int.reduceLE, reduceIte, Int.reduceAdd, Int.reduceSub, Int.reduceMul, Int.reduceNeg, Int.reduceToNat, Bool.false_eq_true, eq_self, if_pos, if_neg, ci, w32_id]
        · rw [if_neg (by simpa using c)]
          simp (disch := omega) only [x_6_0, x_1, x_36, x_7_1_I, x_7_1_A, x_7_1_U, x_7_2_I, x_7_2_A, x_7_2_U, x_7_3_I, x_7_3_A, x_7_3_U, x_61, x_4_3, x_65, x_79_1_12_d0, x_79_1_12_d1, x_79_1_12_d2, x_79_1_12_d3, x_79_1_12_d4, x_7_4_I, x_7_4_A, x_7_4_U, x_4_4, x_4_2, x_64, x_60, x_10_3_I, x_10_3_A, x_10_3_U, x_4_1, x_82, cb_ri, cb_rl, cb_rv, cb_th, cb_ite, ps_s, ps_n, u_262_0, u_262_43, u_262_48, u_262_54, l1, l2, Int.reduceEq, Int.reduceLT, Int.reduceLE, reduceIte, Int.reduceAdd, Int.reduceSub, Int.reduceMul, Int.reduceNeg, Int.reduceToNat, Bool.false_eq_true, eq_self, if_pos, if_neg, ci, w32_id]
      · try simp only
        rw [l3 tt k j (by unfold rsc at h1; unfold ocFr loFr mbFr maFr crFr; omega), hs_o (by omega)]
        exact hq tt k j h1 h2
    · rintro ⟨v4, q⟩ hq
      simp only at hq ⊢
      refine ⟨hset q 206 0 0 (-1), ?_, fun tt k j hf => ?_⟩
      · rw [hd_262_13]
        simp (disch := omega) only [x_6_0, x_1, x_36, x_7_1_I, x_7_1_A, x_7_1_U, x_7_2_I, x_7_2_A, x_7_2_U, x_7_3_I, x_7_3_A, x_7_3_U, x_61, x_4_3, x_65, x_79_1_12_d0, x_79_1_12_d1, x_79_1_12_d2, x_79_1_12_d3, x_79_1_12_d4, x_7_4_I, x_7_4_A, x_7_4_U, x_4_4, x_4_2, x_64, x_60, x_10_3_I, x_10_3_A, x_10_3_U, x_4_1, x_82, cb_ri, cb_rl, cb_rv, cb_th, cb_ite, ps_s, ps_n, u_262_0, u_262_43, u_262_48, u_262_54, Int.reduceEq, Int.reduceLT, Int.reduceLE, reduceIte, Int.reduceAdd, Int.reduceSub, Int.reduceMul, Int.reduceNeg, Int.reduceToNat, Bool.false_eq_true, eq_self, if_pos, if_neg]
      · by_cases e : tt = 206 ∧ k = 0 ∧ j = 0
        · obtain ⟨rfl, rfl, rfl⟩ := e; rw [hs_eq]; exact J.2.2.2.2.2.symm
        · rw [hs_o e]; exact hq tt k j hf e
theorem GM_b {M : Nat → Int} {H N n : Nat} {b : Int} (hn : n < N) (hb : 0 ≤ b ∧ b ≤ 11) (ho : anyB (thB M (M (50 + 4 * n + 1)) b (n : Int)) N = false ∨ M (50 + 4 * n + 3) ≠ 0) (G : GM M H N) : GM (upM M (50 + 4 * n) b) H N := by
  obtain ⟨⟨a1, a2, a3⟩, ⟨b1, b2, b3, b4⟩, gx⟩ := G
  have u50 : ∀ j, j < 50 → upM M (50 + 4 * n) b j = M j := fun j hj => up_ne (by omega)
  have free : ∀ n', n' < N → n' ≠ n → stB M n = true → stB M n' = true → M (50 + 4 * n') = b → M (50 + 4 * n' + 1) ≠ M (50 + 4 * n + 1) := by
    intro n' h1 h2 h0 h3 h4 h5
    rcases ho with ho | ho
    · have : anyB (thB M (M (50 + 4 * n + 1)) b (n : Int)) N = true := anyB_iff.mpr ⟨n', h1, by unfold thB atB; rw [h3, decide_eq_true h4, decide_eq_true h5, decide_eq_true (show (n' : Int) ≠ (n : Int) by omega)]; rfl⟩
      rw [ho] at this; cases this
    · unfold stB at h0; exact ho (of_decide_eq_true h0)
  refine ⟨GH_bt b ⟨a1, a2, a3⟩, ⟨by rw [u50 _ (by omega)]; exact b1, b2, fun n' hn' => ?_, fun x y hx hy hne s1 s2 q => ?_⟩, GX_o (by omega) gx⟩
  · obtain ⟨q0, q1, q2, q3⟩ := b3 n' hn'
    refine ⟨?_, by rw [up_ne (by omega)]; exact q1, by rw [up_ne (by omega)]; exact q2, by rw [up_ne (by omega)]; exact q3⟩
    by_cases e : n' = n
    · rw [e, up_eq]; exact hb
    · rw [up_ne (by omega)]; exact q0
  · unfold stB at s1 s2
    rw [up_ne (by omega)] at s1 s2
    rw [up_ne (show ¬ 50 + 4 * x + 1 = 50 + 4 * n by omega), up_ne (show ¬ 50 + 4 * y + 1 = 50 + 4 * n by omega)]
    by_cases ex : x = n
    · subst ex
      rw [up_eq, up_ne (show ¬ 50 + 4 * y = 50 + 4 * x by omega)] at q
      exact fun z => free y hy (by omega) s1 s2 q.symm z.symm
    · by_cases ey : y = n
      · subst ey
        rw [up_eq, up_ne (show ¬ 50 + 4 * x = 50 + 4 * y by omega)] at q
        exact free x hx (by omega) s2 s1 q
      · rw [up_ne (show ¬ 50 + 4 * x = 50 + 4 * n by omega), up_ne (show ¬ 50 + 4 * y = 50 + 4 * n by omega)] at q
        exact b4 x y hx hy hne s1 s2 q
theorem ag_better (lc lr H N : Nat) (p : Int) (h : Hp) (I : INV h H N) : AGt t21 (fun h => cl (lc + 80) 115 [aA 11 0, aI p] h) (fun h => cl (lr + 80) 265 [aA 12 0, aI p] h) h := by
  have hH := I.1.2.1.1.2.1
  have hN := I.1.2.1.2.1.2.1
  have cn := checkNote_c (lc + 78) N p h I.1.1.2.1.1
  obtain ⟨L, W, hL, hW, hl⟩ := INV_law I
  by_cases c : 0 ≤ p ∧ p < N
  · rw [if_pos c] at cn
    obtain ⟨n, rfl⟩ : ∃ n : Nat, p = (n : Int) := ⟨p.toNat, by omega⟩
    have hn : n < N := by omega
    have st := isStanding_c (lc + 78) 0 N n (h 187 0) h I.1.1.2.1 hn
    have ih : ∀ g, INV g H N → cl (lr + 79) 177 [aA 12 0, aI (n : Int)] g = ri 1 g := fun g J => by
      have := inN J (lr + 77) (n : Int)
      rw [if_pos c] at this; exact this
    by_cases cs : stB (h 187 0) n = true
    · rw [if_pos cs] at st
      have gn := I.1.2.1.2.1.2.2.1 n hn
      obtain ⟨own, ho⟩ : ∃ own : Nat, h 187 0 (50 + 4 * n) = (own : Int) := ⟨(h 187 0 (50 + 4 * n)).toNat, by omega⟩
      have hown : own < 12 := by omega
      have eo : upM (h 187 0) (50 + 4 * n) (own : Int) = h 187 0 := up_id ho
      have fold : mnF (fun b => !anyB (thB (h 187 0) (h 187 0 (50 + 4 * n + 1)) (b : Int) (n : Int)) N) (btV (h 187 0) L H N n) (own, btV (h 187 0) L H N n own) 12 = mnF (fun b => !anyB (thB (h 187 0) (h 187 0 (50 + 4 * n + 1)) (b : Int) (n : Int)) N && decide (b ≠ own)) (btV (h 187 0) L H N n) (own, btV (h 187 0) L H N n own) 12 := mnF_skip _ _ _ own (fun _ => Nat.le_refl _) 12
      refine AGt_q I (v := (((mnF (fun b => !anyB (thB (h 187 0) (h 187 0 (50 + 4 * n + 1)) (b : Int) (n : Int)) N && decide (b ≠ own)) (btV (h 187 0) L H N n) (own, btV (h 187 0) L H N n own) 12).1 : Nat) : Int)) ?_ (fun g s J => ?_)
      · obtain ⟨h1, e1, cpy⟩ := copyFrom_c (lc + 77) 0 1 h (by omega)
        have s1 := csc_cp cpy
        have R1 : RS h1 1 (h 187 0) H N := RS_cp cpy I.1.1
        have W1 : LawW h1 0 L := LawW_e (fun tt j ht => s1 tt 0 j (by unfold csc stTag; omega)) W
        obtain ⟨h2, b1, b2⟩ := betterBeat_c (lc + 67) 1 n H N own (h 187 0) h1 L R1.1 I.1.2.1.1 R1.2.1 (fun n' hn' => by have := I.1.2.1.2.1.2.2.1 n' hn'; exact ⟨this.1, this.2.1, this.2.2.1⟩) R1.2.2.1.2.2.1 I.1.2.1.2.2.2.2.1 W1 hn ho
        rw [fold] at b1
        refine ⟨h2, ?_, Sm_t s1 (fun tt k j hf => b2 tt k j (by unfold csc stTag at hf; unfold btFr miFr gaFr lwFr lvFr; omega))⟩
        show cl (lc + 80) _ _ _ = _
        rw [in_115]
        simp (disch := omega) only [x_6_0, x_4_1, x_79_2_11_d0, x_79_2_11_d1, x_79_2_11_d2, x_79_2_11_d3, x_79_2_11_d4, x_35_0, x_79_2_7_d0, x_79_2_7_d1, x_79_2_7_d2, x_79_2_7_d3, x_79_2_7_d4, x_69, x_84, x_35_1, x_79_3_3_d0, x_79_3_3_d1, x_79_3_3_d2, x_79_3_3_d3, x_79_3_3_d4, x_82, cb_ri, cb_rl, cb_rv, cb_th, cb_ite, ps_s, ps_n, u_115_0, u_115_27, cn, st, e1, b1, Int.reduceEq, Int.reduceLT, Int.reduceLE, reduceIte, Int.reduceAdd, Int.reduceSub, Int.reduceMul, Int.reduceNeg, Int.reduceToNat, Bool.false_eq_true, eq_self, if_pos, if_neg]
      · have g7 : hset g 186 0 0 0 187 0 = h 187 0 := by rw [h186_m, Sm_187 s scr_187]
        have stm := stands_c (lr + 77) n (hset g 186 0 0 0) (by omega)
        rw [g7, if_pos cs] at stm
        have z2 : hset (hset g 186 0 0 0) 186 0 0 0 = hset g 186 0 0 0 := by
          funext a b c; unfold hset; split <;> rfl
        have o0 : cl (lr + 79) 175 [aA 12 0, aI (n : Int), aI 0] (hset g 186 0 0 0) = ri (own : Int) (hset g 186 0 0 0) := by have := ofNote_c (lr + 78) n 0 (hset g 186 0 0 0) (by omega) (by omega); rw [g7, show 50 + 4 * n + 0 = 50 + 4 * n from rfl, ho] at this; exact this
        obtain ⟨k1, k2, l1, l2, l3⟩ := lookOver_m (lr + 43) H N (hset g 186 0 0 0) L (by rw [g7]; exact hL) (by rw [g7]; exact I.1.2.1) hW hl (Or.inl (INV_186 0 J).2.2.2.2.2)
        rw [g7, (INV_186 0 J).2.2.2.2.2] at l2
        have ebo : btV (h 187 0) L H N n own = ovM (h 187 0) L H N (-1) := by rw [bt_ov hH, eo]
        rw [← ebo] at l2
        have vle : ∀ b : Nat, b < 12 → btV (h 187 0) L H N n b ≤ 168 := fun b hb => by rw [bt_ov hH]; exact ovN_b _ _ _ _ hN
        have main := loop_p (S := AV × (Nat × Hp)) (F := fun b (q : AV × (Nat × Hp)) => run (lr + 79) 265 74 [aA 12 0, aI (n : Int), aI (own : Int), aI (((mnF (fun b => !anyB (thB (h 187 0) (h 187 0 (50 + 4 * n + 1)) (b : Int) (n : Int)) N && decide (b ≠ own)) (btV (h 187 0) L H N n) (own, btV (h 187 0) L H N n own) b).2 : Nat) : Int), aI (((mnF (fun b => !anyB (thB (h 187 0) (h 187 0 (50 + 4 * n + 1)) (b : Int) (n : Int)) N && decide (b ≠ own)) (btV (h 187 0) L H N n) (own, btV (h 187 0) L H N n own) b).1 : Nat) : Int), aI (b : Int), q.1] [] q.2.2)
          (I := fun b q => q.2.2 187 0 = upM (h 187 0) (50 + 4 * n) (q.2.1 : Int) ∧ q.2.2 186 0 0 = 0 ∧ ∀ tt k j, ¬ rsc tt k → ¬ (tt = 187 ∧ k = 0) → q.2.2 tt k j = g tt k j)
          (Q := fun r => ∃ h', r = ri (((mnF (fun b => !anyB (thB (h 187 0) (h 187 0 (50 + 4 * n + 1)) (b : Int) (n : Int)) N && decide (b ≠ own)) (btV (h 187 0) L H N n) (own, btV (h 187 0) L H N n own) 12).1 : Nat) : Int) h' ∧ h' 186 0 0 = 0 ∧ Sm rsc g h') (N := 12) ?_ ?_ (none, (own, k2)) ?_
        · obtain ⟨h', f1, f2⟩ := main
          refine ⟨h', ?_, f2⟩
          show cl (lr + 80) _ _ _ = _
          rw [← f1, in_265]
          simp (disch := omega) only [x_6_0, x_4_1, x_79_2_12_d0, x_79_2_12_d1, x_79_2_12_d2, x_79_2_12_d3, x_79_2_12_d4, x_69, x_1, x_60, x_61, x_36, x_33, x_73, x_82, x_79_3_12_d0, x_79_3_12_d1, x_79_3_12_d2, x_79_3_12_d3, x_79_3_12_d4, x_7_2_I, x_7_2_A, x_7_2_U, x_79_1_12_d0, x_79_1_12_d1, x_79_1_12_d2, x_79_1_12_d3, x_79_1_12_d4, x_7_3_I, x_7_3_A, x_7_3_U, x_4_2, x_7_4_I, x_7_4_A, x_7_4_U, x_7_5_I, x_7_5_A, x_7_5_U, x_4_5, x_65, x_62, x_79_4_12_d0, x_79_4_12_d1, x_79_4_12_d2, x_79_4_12_d3, x_79_4_12_d4, x_68, x_34, x_13, x_11, x_39_187, x_7_6_I, x_7_6_A, x_7_6_U, x_4_6, x_4_3, x_64, x_10_5_I, x_10_5_A, x_10_5_U, x_4_4, cb_ri, cb_rl, cb_rv, cb_th, cb_ite, ps_s, ps_n, u_265_0, u_265_13, u_265_14, u_265_26, u_265_39, u_265_40, u_265_52, u_265_106, u_265_140, u_265_147, u_265_153, ih g J, hs_eq, stm, z2, o0, l1, l2, Int.reduceEq, Int.reduceLT, Int.reduceLE, reduceIte, Int.reduceAdd, Int.reduceSub, Int.reduceMul, Int.reduceNeg, Int.reduceToNat, Bool.false_eq_true, eq_self, if_pos, if_neg]
          rfl
        · rintro b ⟨v6, cb, q⟩ hb ⟨i1, i2, i3⟩
          simp only at i1 i2 i3 ⊢
          have n4 : q 187 0 4 = (N : Int) := by rw [i1, up_ne (by omega)]; exact I.1.2.1.2.1.1
          have o1 : cl (lr + 79) 175 [aA 12 0, aI (n : Int), aI 1] q = ri (h 187 0 (50 + 4 * n + 1)) q := by have := ofNote_c (lr + 78) n 1 q (by omega) (by omega); rw [i1, up_ne (by omega)] at this; exact this
          have it := isThere_c (lr + 76) N (h 187 0 (50 + 4 * n + 1)) (b : Int) (n : Int) q n4 hN
          rw [i1, anyB_congr (fun n' _ => thB_bt)] at it
          have mle := mnF_le (fun b => !anyB (thB (h 187 0) (h 187 0 (50 + 4 * n + 1)) (b : Int) (n : Int)) N && decide (b ≠ own)) (btV (h 187 0) L H N n) (own, btV (h 187 0) L H N n own) b
          have vo := vle own hown
          have vb := vle b hb
          have hst : mnF (fun b => !anyB (thB (h 187 0) (h 187 0 (50 + 4 * n + 1)) (b : Int) (n : Int)) N && decide (b ≠ own)) (btV (h 187 0) L H N n) (own, btV (h 187 0) L H N n own) (b + 1) = if ((!anyB (thB (h 187 0) (h 187 0 (50 + 4 * n + 1)) (b : Int) (n : Int)) N && decide (b ≠ own)) && decide (btV (h 187 0) L H N n b < (mnF (fun b => !anyB (thB (h 187 0) (h 187 0 (50 + 4 * n + 1)) (b : Int) (n : Int)) N && decide (b ≠ own)) (btV (h 187 0) L H N n) (own, btV (h 187 0) L H N n own) b).2)) = true then (b, btV (h 187 0) L H N n b) else mnF (fun b => !anyB (thB (h 187 0) (h 187 0 (50 + 4 * n + 1)) (b : Int) (n : Int)) N && decide (b ≠ own)) (btV (h 187 0) L H N n) (own, btV (h 187 0) L H N n own) b := rfl
          rw [hst]
          generalize mnF (fun b => !anyB (thB (h 187 0) (h 187 0 (50 + 4 * n + 1)) (b : Int) (n : Int)) N && decide (b ≠ own)) (btV (h 187 0) L H N n) (own, btV (h 187 0) L H N n own) b = mj at mle
          by_cases d1 : b = own
          · refine ⟨(v6, (cb, q)), ?_, i1, i2, i3⟩
            rw [if_neg (by rw [decide_eq_false (fun z => z d1), Bool.and_false]; simp)]
            try simp only
            subst d1
            rw [hd_265_74]
            simp (disch := omega) only [x_6_0, x_4_1, x_79_2_12_d0, x_79_2_12_d1, x_79_2_12_d2, x_79_2_12_d3, x_79_2_12_d4, x_69, x_1, x_60, x_61, x_36, x_33, x_73, x_82, x_79_3_12_d0, x_79_3_12_d1, x_79_3_12_d2, x_79_3_12_d3, x_79_3_12_d4, x_7_2_I, x_7_2_A, x_7_2_U, x_79_1_12_d0, x_79_1_12_d1, x_79_1_12_d2, x_79_1_12_d3, x_79_1_12_d4, x_7_3_I, x_7_3_A, x_7_3_U, x_4_2, x_7_4_I, x_7_4_A, x_7_4_U, x_7_5_I, x_7_5_A, x_7_5_U, x_4_5, x_65, x_62, x_79_4_12_d0, x_79_4_12_d1, x_79_4_12_d2, x_79_4_12_d3, x_79_4_12_d4, x_68, x_34, x_13, x_11, x_39_187, x_7_6_I, x_7_6_A, x_7_6_U, x_4_6, x_4_3, x_64, x_10_5_I, x_10_5_A, x_10_5_U, x_4_4, cb_ri, cb_rl, cb_rv, cb_th, cb_ite, ps_s, ps_n, u_265_0, u_265_13, u_265_14, u_265_26, u_265_39, u_265_40, u_265_52, u_265_106, u_265_140, u_265_147, u_265_153, Int.reduceEq, Int.reduceLT, Int.reduceLE, reduceIte, Int.reduceAdd, Int.reduceSub, Int.reduceMul, Int.reduceNeg, Int.reduceToNat, Bool.false_eq_true, eq_self, if_pos, if_neg, ci, w32_id]
          · have d1' : ¬ (b : Int) = (own : Int) := by omega
            by_cases d2 : anyB (thB (h 187 0) (h 187 0 (50 + 4 * n + 1)) (b : Int) (n : Int)) N = true
            · rw [if_pos d2] at it
              refine ⟨(v6, (cb, q)), ?_, i1, i2, i3⟩
              rw [if_neg (by rw [d2]; simp)]
              try simp only
              rw [hd_265_74]
              simp (disch := omega) only [x_6_0, x_4_1, x_79_2_12_d0, x_79_2_12_d1, x_79_2_12_d2, x_79_2_12_d3, x_79_2_12_d4, x_69, x_1, x_60, x_61, x_36, x_33, x_73, x_82, x_79_3_12_d0, x_79_3_12_d1, x_79_3_12_d2, x_79_3_12_d3, x_79_3_12_d4, x_7_2_I, x_7_2_A, x_7_2_U, x_79_1_12_d0, x_79_1_12_d1, x_79_1_12_d2, x_79_1_12_d3, x_79_1_12_d4, x_7_3_I, x_7_3_A, x_7_3_U, x_4_2, x_7_4_I, x_7_4_A, x_7_4_U, x_7_5_I, x_7_5_A, x_7_5_U, x_4_5, x_65, x_62, x_79_4_12_d0, x_79_4_12_d1, x_79_4_12_d2, x_79_4_12_d3, x_79_4_12_d4, x_68, x_34, x_13, x_11, x_39_187, x_7_6_I, x_7_6_A, x_7_6_U, x_4_6, x_4_3, x_64, x_10_5_I, x_10_5_A, x_10_5_U, x_4_4, cb_ri, cb_rl, cb_rv, cb_th, cb_ite, ps_s, ps_n, u_265_0, u_265_13, u_265_14, u_265_26, u_265_39, u_265_40, u_265_52, u_265_106, u_265_140, u_265_147, u_265_153, d1', o1, it, Int.reduceEq, Int.reduceLT, Int.reduceLE, reduceIte, Int.reduceAdd, Int.reduceSub, Int.reduceMul, Int.reduceNeg, Int.reduceToNat, Bool.false_eq_true, eq_self, if_pos, if_neg, ci, w32_id]
            · rw [if_neg d2] at it
              have d2 := Bool.eq_false_iff.mpr d2
              have ei : (50 + 4 * (n : Int) + 0).toNat = 50 + 4 * n := by omega
              have q7 : hset q 187 0 (50 + 4 * n) (b : Int) 187 0 = upM (h 187 0) (50 + 4 * n) (b : Int) := by rw [hs_187, i1, up_up]
              have q6 : hset q 187 0 (50 + 4 * n) (b : Int) 206 0 0 = -1 := by rw [hs_t (by omega), i3 _ _ _ (by unfold rsc; omega) (by omega)]; exact J.2.2.2.2.2
              obtain ⟨q1, q2, m1, m2, m3⟩ := lookOver_m (lr + 43) H N (hset q 187 0 (50 + 4 * n) (b : Int)) L (by rw [q7]; exact LM_up (by omega) (by omega) hL) (by rw [q7]; exact GM_b hn (by omega) (Or.inl d2) I.1.2.1) hW hl (Or.inl q6)
              rw [q7, q6, ← bt_ov hH n b] at m2
              refine ⟨(aI ((btV (h 187 0) L H N n b : Nat) : Int), (b, q2)), ?_, ?_, ?_, fun tt k j f1 f2 => ?_⟩
              · try simp only
                rw [d2, decide_eq_true (show b ≠ own from d1), hd_265_74]
                by_cases d3 : btV (h 187 0) L H N n b < mj.2
                · rw [if_pos (by simpa using d3)]
                  simp (disch := omega) only [x_6_0, x_4_1, x_79_2_12_d0, x_79_2_12_d1, x_79_2_12_d2, x_79_2_12_d3, x_79_2_12_d4, x_69, x_1, x_60, x_61, x_36, x_33, x_73, x_82, x_79_3_12_d0, x_79_3_12_d1, x_79_3_12_d2, x_79_3_12_d3, x_79_3_12_d4, x_7_2_I, x_7_2_A, x_7_2_U, x_79_1_12_d0, x_79_1_12_d1, x_79_1_12_d2, x_79_1_12_d3, x_79_1_12_d4, x_7_3_I, x_7_3_A, x_7_3_U, x_4_2, x_7_4_I, x_7_4_A, x_7_4_U, x_7_5_I, x_7_5_A, x_7_5_U, x_4_5, x_65, x_62, x_79_4_12_d0, x_79_4_12_d1, x_79_4_12_d2, x_79_4_12_d3, x_79_4_12_d4, x_68, x_34, x_13, x_11, x_39_187, x_7_6_I, x_7_6_A, x_7_6_U, x_4_6, x_4_3, x_64, x_10_5_I, x_10_5_A, x_10_5_U, x_4_4, cb_ri, cb_rl, cb_rv, cb_th, cb_ite, ps_s, ps_n, u_265_0, u_265_13, u_265_14, u_265_26, u_265_39, u_265_40, u_265_52, u_265_106, u_265_140, u_265_147, u_265_153, d1', o1, it, ei, m1, m2, Int.reduceEq, Int.reduceLT, Int.reduceLE, reduceIte, Int.reduceAdd, Int.reduceSub, Int.reduceMul, Int.reduceNeg, Int.reduceToNat, Bool.false_eq_true, eq_self, if_pos, if_neg, ci, w32_id]
                · rw [if_neg (by simpa using d3)]
                  simp (disch := omega) only [x_6_0, x_4_1, x_79_2_12_d0, x_79_2_12_d1, x_79_2_12_d2, x_79_2_12_d3, x_79_2_12_d4, x_69, x_1, x_60, x_61, x_36, x_33, x_73, x_82, x_79_3_12_d0, x_79_3_12_d1, x_79_3_12_d2, x_79_3_12_d3, x_79_3_12_d4, x_7_2_I, x_7_2_A, x_7_2_U, x_79_1_12_d0, x_79_1_12_d1, x_79_1_12_d2, x_79_1_12_d3, x_79_1_12_d4, x_7_3_I, x_7_3_A, x_7_3_U, x_4_2, x_7_4_I, x_7_4_A, x_7_4_U, x_7_5_I, x_7_5_A, x_7_5_U, x_4_5, x_65, x_62, x_79_4_12_d0, x_79_4_12_d1, x_79_4_12_d2, x_79_4_12_d3, x_79_4_12_d4, x_68, x_34, x_13, x_11, x_39_187, x_7_6_I, x_7_6_A, x_7_6_U, x_4_6, x_4_3, x_64, x_10_5_I, x_10_5_A, x_10_5_U, x_4_4, cb_ri, cb_rl, cb_rv, cb_th, cb_ite, ps_s, ps_n, u_265_0, u_265_13, u_265_14, u_265_26, u_265_39, u_265_40, u_265_52, u_265_106, u_265_140, u_265_147, u_265_153, d1', o1, it, ei, m1, m2, Int.reduceEq, Int.reduceLT, Int.reduceLE, reduceIte, Int.reduceAdd, Int.reduceSub, Int.reduceMul, Int.reduceNeg, Int.reduceToNat, Bool.false_eq_true, eq_self, if_pos, if_neg, ci, w32_id]
              · try simp only
                rw [← q7]; funext j; exact m3 _ _ _ (by unfold ocFr loFr mbFr maFr crFr; omega)
              · try simp only
                rw [m3 _ _ _ (by unfold ocFr loFr mbFr maFr crFr; omega), hs_t (by omega)]; exact i2
              · try simp only
                rw [m3 tt k j (by unfold rsc at f1; unfold ocFr loFr mbFr maFr crFr; omega), hs_o (by omega)]
                exact i3 tt k j f1 f2
        · rintro ⟨v6, cb, q⟩ ⟨i1, i2, i3⟩
          simp only at i1 i2 i3 ⊢
          have ei : (50 + 4 * (n : Int) + 0).toNat = 50 + 4 * n := by omega
          refine ⟨hset q 187 0 (50 + 4 * n) (own : Int), ?_, by rw [hs_t (by omega)]; exact i2, fun tt k j hf => ?_⟩
          · rw [hd_265_74]
            simp (disch := omega) only [x_6_0, x_4_1, x_79_2_12_d0, x_79_2_12_d1, x_79_2_12_d2, x_79_2_12_d3, x_79_2_12_d4, x_69, x_1, x_60, x_61, x_36, x_33, x_73, x_82, x_79_3_12_d0, x_79_3_12_d1, x_79_3_12_d2, x_79_3_12_d3, x_79_3_12_d4, x_7_2_I, x_7_2_A, x_7_2_U, x_79_1_12_d0, x_79_1_12_d1, x_79_1_12_d2, x_79_1_12_d3, x_79_1_12_d4, x_7_3_I, x_7_3_A, x_7_3_U, x_4_2, x_7_4_I, x_7_4_A, x_7_4_U, x_7_5_I, x_7_5_A, x_7_5_U, x_4_5, x_65, x_62, x_79_4_12_d0, x_79_4_12_d1, x_79_4_12_d2, x_79_4_12_d3, x_79_4_12_d4, x_68, x_34, x_13, x_11, x_39_187, x_7_6_I, x_7_6_A, x_7_6_U, x_4_6, x_4_3, x_64, x_10_5_I, x_10_5_A, x_10_5_U, x_4_4, cb_ri, cb_rl, cb_rv, cb_th, cb_ite, ps_s, ps_n, u_265_0, u_265_13, u_265_14, u_265_26, u_265_39, u_265_40, u_265_52, u_265_106, u_265_140, u_265_147, u_265_153, ei, w32_id, Int.reduceEq, Int.reduceLT, Int.reduceLE, reduceIte, Int.reduceAdd, Int.reduceSub, Int.reduceMul, Int.reduceNeg, Int.reduceToNat, Bool.false_eq_true, eq_self, if_pos, if_neg]
          · by_cases e7 : tt = 187 ∧ k = 0
            · obtain ⟨rfl, rfl⟩ := e7
              rw [hs_187, i1, up_up, eo, s _ _ _ scr_187]
            · rw [hs_o (by omega)]; exact i3 tt k j hf e7
        · try simp only
          refine ⟨?_, ?_, fun tt k j f1 f2 => ?_⟩
          · rw [eo, ← g7]; funext j; exact l3 _ _ _ (by unfold ocFr loFr mbFr maFr crFr; omega)
          · rw [l3 _ _ _ (by unfold ocFr loFr mbFr maFr crFr; omega), hs_eq]
          · rw [l3 tt k j (by unfold rsc at f1; unfold ocFr loFr mbFr maFr crFr; omega)]; exact rsc_186 g 0 tt k j f1
    · rw [if_neg cs] at st
      refine AGt_e I 1 (by decide) ⟨h, ?_, Sm_r _ _⟩ (fun g s J => ⟨0, hset (hset g 186 0 0 0) 186 0 0 2, ?_, hs_eq _ _ _ _ _, Sm_t (rsc_186 g 0) (rsc_186 _ 2)⟩)
      · show cl (lc + 80) _ _ _ = _
        rw [in_115]
        simp (disch := omega) only [x_6_0, x_4_1, x_79_2_11_d0, x_79_2_11_d1, x_79_2_11_d2, x_79_2_11_d3, x_79_2_11_d4, x_35_0, x_79_2_7_d0, x_79_2_7_d1, x_79_2_7_d2, x_79_2_7_d3, x_79_2_7_d4, x_69, x_84, x_35_1, x_79_3_3_d0, x_79_3_3_d1, x_79_3_3_d2, x_79_3_3_d3, x_79_3_3_d4, x_82, cb_ri, cb_rl, cb_rv, cb_th, cb_ite, ps_s, ps_n, u_115_0, u_115_27, cn, st, Int.reduceEq, Int.reduceLT, Int.reduceLE, reduceIte, Int.reduceAdd, Int.reduceSub, Int.reduceMul, Int.reduceNeg, Int.reduceToNat, Bool.false_eq_true, eq_self, if_pos, if_neg]
      · show cl (lr + 80) _ _ _ = _
        have g7 : hset g 186 0 0 0 187 0 = h 187 0 := by rw [h186_m, Sm_187 s scr_187]
        have stm := stands_c (lr + 77) n (hset g 186 0 0 0) (by omega)
        rw [g7, if_neg cs] at stm
        rw [in_265]
        simp (disch := omega) only [x_6_0, x_4_1, x_79_2_12_d0, x_79_2_12_d1, x_79_2_12_d2, x_79_2_12_d3, x_79_2_12_d4, x_69, x_1, x_60, x_61, x_36, x_33, x_73, x_82, x_79_3_12_d0, x_79_3_12_d1, x_79_3_12_d2, x_79_3_12_d3, x_79_3_12_d4, x_7_2_I, x_7_2_A, x_7_2_U, x_79_1_12_d0, x_79_1_12_d1, x_79_1_12_d2, x_79_1_12_d3, x_79_1_12_d4, x_7_3_I, x_7_3_A, x_7_3_U, x_4_2, x_7_4_I, x_7_4_A, x_7_4_U, x_7_5_I, x_7_5_A, x_7_5_U, x_4_5, x_65, x_62, x_79_4_12_d0, x_79_4_12_d1, x_79_4_12_d2, x_79_4_12_d3, x_79_4_12_d4, x_68, x_34, x_13, x_11, x_39_187, x_7_6_I, x_7_6_A, x_7_6_U, x_4_6, x_4_3, x_64, x_10_5_I, x_10_5_A, x_10_5_U, x_4_4, cb_ri, cb_rl, cb_rv, cb_th, cb_ite, ps_s, ps_n, u_265_0, u_265_13, u_265_14, u_265_26, u_265_39, u_265_40, u_265_52, u_265_106, u_265_140, u_265_147, u_265_153, ih g J, hs_eq, stm, Int.reduceEq, Int.reduceLT, Int.reduceLE, reduceIte, Int.reduceAdd, Int.reduceSub, Int.reduceMul, Int.reduceNeg, Int.reduceToNat, Bool.false_eq_true, eq_self, if_pos, if_neg]
  · rw [if_neg c] at cn
    refine AGt_e I 2 (by decide) ⟨h, ?_, Sm_r _ _⟩ (fun g s J => ⟨0, hset g 186 0 0 1, ?_, hs_eq _ _ _ _ _, rsc_186 g 1⟩)
    · show cl (lc + 80) _ _ _ = _
      rw [in_115]
      simp (disch := omega) only [x_6_0, x_4_1, x_79_2_11_d0, x_79_2_11_d1, x_79_2_11_d2, x_79_2_11_d3, x_79_2_11_d4, x_35_0, x_79_2_7_d0, x_79_2_7_d1, x_79_2_7_d2, x_79_2_7_d3, x_79_2_7_d4, x_69, x_84, x_35_1, x_79_3_3_d0, x_79_3_3_d1, x_79_3_3_d2, x_79_3_3_d3, x_79_3_3_d4, x_82, cb_ri, cb_rl, cb_rv, cb_th, cb_ite, ps_s, ps_n, u_115_0, u_115_27, cn]
    · show cl (lr + 80) _ _ _ = _
      have ih := inN J (lr + 77) p
      rw [if_neg c] at ih
      rw [in_265]
      simp (disch := omega) only [x_6_0, x_4_1, x_79_2_12_d0, x_79_2_12_d1, x_79_2_12_d2, x_79_2_12_d3, x_79_2_12_d4, x_69, x_1, x_60, x_61, x_36, x_33, x_73, x_82, x_79_3_12_d0, x_79_3_12_d1, x_79_3_12_d2, x_79_3_12_d3, x_79_3_12_d4, x_7_2_I, x_7_2_A, x_7_2_U, x_79_1_12_d0, x_79_1_12_d1, x_79_1_12_d2, x_79_1_12_d3, x_79_1_12_d4, x_7_3_I, x_7_3_A, x_7_3_U, x_4_2, x_7_4_I, x_7_4_A, x_7_4_U, x_7_5_I, x_7_5_A, x_7_5_U, x_4_5, x_65, x_62, x_79_4_12_d0, x_79_4_12_d1, x_79_4_12_d2, x_79_4_12_d3, x_79_4_12_d4, x_68, x_34, x_13, x_11, x_39_187, x_7_6_I, x_7_6_A, x_7_6_U, x_4_6, x_4_3, x_64, x_10_5_I, x_10_5_A, x_10_5_U, x_4_4, cb_ri, cb_rl, cb_rv, cb_th, cb_ite, ps_s, ps_n, u_265_0, u_265_13, u_265_14, u_265_26, u_265_39, u_265_40, u_265_52, u_265_106, u_265_140, u_265_147, u_265_153, ih, hs_eq, Int.reduceEq, Int.reduceLT, Int.reduceLE, reduceIte, Int.reduceAdd, Int.reduceSub, Int.reduceMul, Int.reduceNeg, Int.reduceToNat, Bool.false_eq_true, eq_self, if_pos, if_neg]
