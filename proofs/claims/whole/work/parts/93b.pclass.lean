/-! THE CLASS READS A PIECE. -/
theorem tp_hs {q : Hp} {t : Nat → Int} {e p tt k i : Nat} {v : Int} (ht : tt ≠ 151 ∧ tt ≠ 153 ∧ tt ≠ 154 ∧ tt ≠ 155) : hset (tpH q t e p) tt k i v = tpH (hset q tt k i v) t e p := by
  refine tp_ext ?_ ?_ ?_ ?_ (fun tt' k' i' hn => ?_)
  · rw [hs_o (by omega), tp_1]
  · rw [hs_o (by omega), tp_3]
  · rw [hs_o (by omega), tp_4]
  · rw [hs_o (by omega), tp_5]
  · by_cases c : tt' = tt ∧ k' = k ∧ i' = i
    · obtain ⟨rfl, rfl, rfl⟩ := c; rw [hs_eq, hs_eq]
    · rw [hs_o c, hs_o c, tp_o hn]
theorem behindW_c (lv : Nat) {q : Hp} {t : Nat → Int} {e p : Nat} (hi : Int) (B : Bt q t e) (hp : p ≤ e) (hh : hi ≤ 999) : cl (lv + 3) 42 [aA 6 0, aI hi] (tpH q t e p) = match pNum t e (nxt t e p) hi with
    | .inl f => ri (-1) (hset (tpH q t e (nxt t e p)) 150 0 0 (f : Int))
    | .inr (v, r) => ri v (tpH q t e r) := by
  have A := TA_tp B.1 B.2.1 B.2.2 hp
  have e1 := adv_c (lv + 1) A
  rw [tp_tp] at e1
  have A2 := TA_tp B.1 B.2.1 B.2.2 (nxt_le t hp)
  have e2 := passNumber_c lv hi A2 hh
  rw [in_42]
  cases hq : pNum t e (nxt t e p) hi with
  | inl f =>
    rw [hq] at e2
    have e2 : _ = ri (-1) _ := e2
    simp (disch := omega) only [x_6_0, x_35_0, x_79_1_8_d0, x_79_1_8_d1, x_79_1_8_d2, x_79_1_8_d3, x_79_1_8_d4, x_4_1, x_79_2_8_d0, x_79_2_8_d1, x_79_2_8_d2, x_79_2_8_d3, x_79_2_8_d4, x_82, cb_ri, cb_rl, cb_rv, cb_th, cb_ite, ps_s, ps_n, u_42_0, e1, e2]
  | inr z =>
    obtain ⟨v, r⟩ := z
    rw [hq] at e2
    have e2 : _ = ri v (tpH (tpH q t e (nxt t e p)) t e r) := e2
    rw [tp_tp] at e2
    simp (disch := omega) only [x_6_0, x_35_0, x_79_1_8_d0, x_79_1_8_d1, x_79_1_8_d2, x_79_1_8_d3, x_79_1_8_d4, x_4_1, x_79_2_8_d0, x_79_2_8_d1, x_79_2_8_d2, x_79_2_8_d3, x_79_2_8_d4, x_82, cb_ri, cb_rl, cb_rv, cb_th, cb_ite, ps_s, ps_n, u_42_0, e1, e2]
theorem behind_c (lv s : Nat) (w : List Int) {q : Hp} {t : Nat → Int} {e p : Nat} (hi : Int) (B : Bt q t e) (hp : p ≤ e) (hh : hi ≤ 999) (hs : s < 46) (hw : sTxt.getD s [] = w) (hl : 1 ≤ w.length ∧ w.length ≤ 20) : match pAft t e w hi p with
    | .inl f => ∃ r, cl (lv + 7) 43 [aA 6 0, aA 20 s, aI hi] (tpH q t e p) = ri (-1) (hset (tpH q t e r) 150 0 0 (f : Int))
    | .inr (v, r) => cl (lv + 7) 43 [aA 6 0, aA 20 s, aI hi] (tpH q t e p) = ri v (tpH q t e r) := by
  have A := TA_tp B.1 B.2.1 B.2.2 hp
  have e1 := passWord_c lv s A hs (by rw [hw]; exact hl)
  rw [hw, tp_tp] at e1
  have A2 := TA_tp B.1 B.2.1 B.2.2 (nxt_le t hp)
  have e2 := passNumber_c (lv + 4) hi A2 hh
  rw [in_43]
  unfold pAft
  by_cases c : isW t e p w = true
  · rw [if_pos c] at e1 ⊢
    cases hq : pNum t e (nxt t e p) hi with
    | inl f =>
      rw [hq] at e2
      have e2 : _ = ri (-1) _ := e2
      refine ⟨nxt t e p, ?_⟩
      simp (disch := omega) only [x_6_0, x_35_0, x_6_1, x_79_2_8_d0, x_79_2_8_d1, x_79_2_8_d2, x_79_2_8_d3, x_79_2_8_d4, x_68, x_4_2, x_60, x_1, x_61, x_82, cb_ri, cb_rl, cb_rv, cb_th, cb_ite, ps_s, ps_n, u_43_0, u_43_22, u_43_23, e1, e2, Int.reduceEq, Int.reduceLT, Int.reduceLE, reduceIte, Int.reduceAdd, Int.reduceSub, Int.reduceMul, Int.reduceNeg, Int.reduceToNat, Bool.false_eq_true, eq_self, if_pos, if_neg]
    | inr z =>
      obtain ⟨v, r⟩ := z
      rw [hq] at e2
      have e2 : _ = ri v (tpH (tpH q t e (nxt t e p)) t e r) := e2
      rw [tp_tp] at e2
      show _ = _
      simp (disch := omega) only [x_6_0, x_35_0, x_6_1, x_79_2_8_d0, x_79_2_8_d1, x_79_2_8_d2, x_79_2_8_d3, x_79_2_8_d4, x_68, x_4_2, x_60, x_1, x_61, x_82, cb_ri, cb_rl, cb_rv, cb_th, cb_ite, ps_s, ps_n, u_43_0, u_43_22, u_43_23, e1, e2, Int.reduceEq, Int.reduceLT, Int.reduceLE, reduceIte, Int.reduceAdd, Int.reduceSub, Int.reduceMul, Int.reduceNeg, Int.reduceToNat, Bool.false_eq_true, eq_self, if_pos, if_neg]
  · rw [if_neg c] at e1 ⊢
    refine ⟨p, ?_⟩
    simp (disch := omega) only [x_6_0, x_35_0, x_6_1, x_79_2_8_d0, x_79_2_8_d1, x_79_2_8_d2, x_79_2_8_d3, x_79_2_8_d4, x_68, x_4_2, x_60, x_1, x_61, x_82, cb_ri, cb_rl, cb_rv, cb_th, cb_ite, ps_s, ps_n, u_43_0, u_43_22, u_43_23, e1, Int.reduceEq, Int.reduceLT, Int.reduceLE, reduceIte, Int.reduceAdd, Int.reduceSub, Int.reduceMul, Int.reduceNeg, Int.reduceToNat, Bool.false_eq_true, eq_self, if_pos, if_neg]
def PcF (tt k : Nat) : Prop := stFr 1 tt k ∨ (k = 0 ∧ 150 ≤ tt ∧ tt ≤ 155)
def PcR (r : Option Rs) (x : PR PcS) (q : Hp) (t : Nat → Int) (e : Nat) : Prop := match x with
  | .inl f => ∃ h', r = ri 0 h' ∧ h' 150 0 0 = (f : Int) ∧ ∀ tt k j, ¬ PcF tt k → h' tt k j = q tt k j
  | .inr (S, p) => ∃ q', r = ri 1 (tpH q' t e p) ∧ RS q' 1 S.1 S.2.1 S.2.2 ∧ ∀ tt k j, ¬ stFr 1 tt k → q' tt k j = q tt k j
theorem fl_o {q : Hp} {t : Nat → Int} {e r : Nat} {f : Int} {tt k j : Nat} (h : ¬ PcF tt k) : hset (tpH q t e r) 150 0 0 f tt k j = q tt k j := by
  have n : ¬ (k = 0 ∧ 150 ≤ tt ∧ tt ≤ 155) := fun z => h (Or.inr z)
  rw [hs_o (by omega), tp_o (by unfold tpR; omega)]
theorem RS_tp {q : Hp} {t : Nat → Int} {e p k : Nat} {M : Nat → Int} {H N : Nat} (R : RS q k M H N) : RS (tpH q t e p) k M H N := RS_e (fun tt i ht => tp_o (by unfold stTag at ht; unfold tpR; omega)) R
theorem adH_tp {q : Hp} {t : Nat → Int} {e p s H c : Nat} {x1 x2 x3 x4 : Int} : adH (tpH q t e p) s H c x1 x2 x3 x4 = tpH (adH q s H c x1 x2 x3 x4) t e p := by
  unfold adH
  rw [tp_hs (by omega), tp_hs (by omega), tp_hs (by omega), tp_hs (by omega), tp_hs (by omega), tp_hs (by omega), tp_hs (by omega)]
theorem RX_d {h h' : Hp} {k : Nat} {M M' : Nat → Int} (e : ∀ t i, t = 137 ∨ (143 ≤ t ∧ t ≤ 147) → h' t k i = h t k i) (m : ∀ j, j = 0 ∨ (5 ≤ j ∧ j < 14) → M' j = M j) (R : RX h k M) : RX h' k M' := by
  obtain ⟨c1, c2, c3, c4, c5, c6⟩ := R
  exact ⟨by rw [e _ _ (by omega), m 0 (by omega)]; exact c1, by rw [e _ _ (by omega), m 5 (by omega)]; exact c2, by rw [e _ _ (by omega), m 6 (by omega)]; exact c3, by rw [e _ _ (by omega), m 7 (by omega)]; exact c4, by rw [e _ _ (by omega), m 13 (by omega)]; exact c5, fun j hj => by rw [e _ _ (by omega), m _ (by omega)]; exact c6 j hj⟩
theorem RS_adH {q : Hp} {s H N c : Nat} {M : Nat → Int} {x1 x2 x3 x4 : Int} (hH : H < 6) (hc : q 141 s 0 = (c : Int)) (R : RS q s M H N) : RS (adH q s H c x1 x2 x3 x4) s (phM M H x1 x2 x3 x4) (H + 1) N := by
  obtain ⟨r1, r2, r3, r4⟩ := R
  have o : ∀ tt j, ¬ ((129 ≤ tt ∧ tt ≤ 133) ∨ tt = 139 ∨ tt = 141) → adH q s H c x1 x2 x3 x4 tt s j = q tt s j := fun tt j hf => by
    unfold adH
    rw [hs_o (by omega), hs_o (by omega), hs_o (by omega), hs_o (by omega), hs_o (by omega), hs_o (by omega), hs_o (by omega)]
  have m : ∀ j, j ≠ 3 → (j < 14 + 6 * H ∨ 14 + 6 * H + 6 ≤ j) → phM M H x1 x2 x3 x4 j = M j := fun j h1 h2 => by
    unfold phM
    rw [up_ne h1, up_ne (by omega), up_ne (by omega), up_ne (by omega), up_ne (by omega), up_ne (by omega), up_ne (by omega)]
  refine ⟨?_, RN_c (fun t i ht => o t i (by omega)) (fun j h1 h2 => m j (by omega) (by omega)) r2, RX_d (fun t i ht => o t i (by omega)) (fun j hj => m j (by omega) (by omega)) r3, RL_c (fun t i ht => o t i (by omega)) (fun j hj => m j (by omega) (by omega)) r4⟩
  · obtain ⟨a1, a2, ⟨c', a3, a4, a5⟩, a6⟩ := r1
    have ec : c' = c := by omega
    subst ec
    refine ⟨by unfold adH; rw [hs_eq]; rfl, by omega, ⟨c' ^^^ (c' &&& 2 ^ H), ?_, ?_, fun i hi => ?_⟩, fun i hi => ?_⟩
    · unfold adH; rw [hs_o (by omega), hs_eq]
    · exact Nat.xor_lt_two_pow (n := 7) a4 (Nat.lt_of_le_of_lt Nat.and_le_left a4)
    · rw [Nat.testBit_xor, Nat.testBit_and, Nat.testBit_two_pow]
      by_cases e : i = H
      · subst e
        unfold bdB phM
        rw [up_ne (by omega), up_eq]
        simp
      · rw [a5 i (by omega)]
        unfold bdB
        rw [m _ (by omega) (by omega)]
        simp [show ¬ H = i by omega]
    · by_cases e : i = H
      · subst e
        unfold adH phM
        refine ⟨?_, ?_, ?_, ?_, ?_⟩
        · rw [hs_o (by omega), hs_o (by omega), hs_o (by omega), hs_o (by omega), hs_o (by omega), hs_o (by omega), hs_eq, up_ne (by omega), up_ne (by omega), up_ne (by omega), up_ne (by omega), up_ne (by omega), up_ne (by omega), up_eq]
        · rw [hs_o (by omega), hs_o (by omega), hs_o (by omega), hs_o (by omega), hs_o (by omega), hs_eq, up_ne (by omega), up_ne (by omega), up_ne (by omega), up_ne (by omega), up_ne (by omega), up_eq]
        · rw [hs_o (by omega), hs_o (by omega), hs_o (by omega), hs_o (by omega), hs_eq, up_ne (by omega), up_ne (by omega), up_ne (by omega), up_ne (by omega), up_eq]
        · rw [hs_o (by omega), hs_o (by omega), hs_o (by omega), hs_eq, up_ne (by omega), up_ne (by omega), up_ne (by omega), up_eq]
        · rw [hs_o (by omega), hs_o (by omega), hs_eq, up_ne (by omega), up_ne (by omega), up_eq]
      · rw [m _ (by omega) (by omega), m _ (by omega) (by omega), m _ (by omega) (by omega), m _ (by omega) (by omega), m _ (by omega) (by omega)]
        unfold adH
        rw [hs_o (by omega), hs_o (by omega), hs_o (by omega), hs_o (by omega), hs_o (by omega), hs_o (by omega), hs_o (by omega), hs_o (by omega), hs_o (by omega), hs_o (by omega), hs_o (by omega), hs_o (by omega), hs_o (by omega), hs_o (by omega), hs_o (by omega), hs_o (by omega), hs_o (by omega), hs_o (by omega), hs_o (by omega), hs_o (by omega), hs_o (by omega), hs_o (by omega), hs_o (by omega), hs_o (by omega), hs_o (by omega), hs_o (by omega), hs_o (by omega), hs_o (by omega), hs_o (by omega), hs_o (by omega), hs_o (by omega), hs_o (by omega), hs_o (by omega), hs_o (by omega), hs_o (by omega)]
        exact a6 i (by omega)
def adN (h : Hp) (s N c : Nat) (key bt hd : Int) : Hp := hset (hset (hset (hset (hset h 135 s N key) 134 s N bt) 136 s N hd) 142 s 0 ((c ^^^ (c &&& 2 ^ N) : Nat) : Int)) 140 s 0 ((N : Int) + 1)
theorem addNote_c (lv s N c : Nat) (key bt hd : Int) (h : Hp) (h1 : h 140 s 0 = (N : Int)) (hN : N < 14) (h2 : h 142 s 0 = (c : Int)) (hc : c < 16384) : cl (lv + 1) 49 [aA 7 s, aI key, aI bt, aI hd] h = rv (adN h s N c key bt hd) := by
  have p2 : 2 ^ N < 2 ^ 14 := Nat.pow_lt_pow_right (by omega) (by omega)
  have e3 : iand (c : Int) (ixor (ishl 1 (N : Int)) (-1)) = ((c ^^^ (c &&& 2 ^ N) : Nat) : Int) := by rw [ishl_1 N (by omega), iandn_n (by omega) (by omega)]
  rw [in_49]
  simp (disch := omega) only [x_6_0, x_33, x_1, x_64, x_83, x_34, x_4_1, x_39_134, x_39_135, x_39_136, x_4_2, x_4_3, x_47_I, x_47_A, x_20, x_19, x_17, x_36, x_11, u_49_0, u_49_10, h1, h2, hs_t, tn, e3, w32_id, Int.reduceEq, Int.reduceLT, Int.reduceLE, reduceIte, Int.reduceAdd, Int.reduceSub, Int.reduceMul, Int.reduceNeg, Int.reduceToNat, Bool.false_eq_true, eq_self, if_pos, if_neg]
  rfl
theorem adN_tp {q : Hp} {t : Nat → Int} {e p s N c : Nat} {x1 x2 x3 : Int} : adN (tpH q t e p) s N c x1 x2 x3 = tpH (adN q s N c x1 x2 x3) t e p := by
  unfold adN
  rw [tp_hs (by omega), tp_hs (by omega), tp_hs (by omega), tp_hs (by omega), tp_hs (by omega)]
theorem RS_adN {q : Hp} {s H N c : Nat} {M : Nat → Int} {key bt hd : Int} (hN : N < 14) (hc : q 142 s 0 = (c : Int)) (R : RS q s M H N) : RS (adN q s N c key bt hd) s (pnM M N bt key hd) H (N + 1) := by
  obtain ⟨r1, r2, r3, r4⟩ := R
  have hH := r1.2.1
  have o : ∀ tt j, ¬ ((134 ≤ tt ∧ tt ≤ 136) ∨ tt = 140 ∨ tt = 142) → adN q s N c key bt hd tt s j = q tt s j := fun tt j hf => by
    unfold adN
    rw [hs_o (by omega), hs_o (by omega), hs_o (by omega), hs_o (by omega), hs_o (by omega)]
  have m : ∀ j, j ≠ 4 → (j < 50 + 4 * N ∨ 50 + 4 * N + 4 ≤ j) → pnM M N bt key hd j = M j := fun j h1 h2 => by
    unfold pnM
    rw [up_ne h1, up_ne (by omega), up_ne (by omega), up_ne (by omega), up_ne (by omega)]
  refine ⟨RH_c (fun t i ht => o t i (by omega)) (fun j h1 h2 => m j (by omega) (by omega)) r1, ?_, RX_d (fun t i ht => o t i (by omega)) (fun j hj => m j (by omega) (by omega)) r3, RL_c (fun t i ht => o t i (by omega)) (fun j hj => m j (by omega) (by omega)) r4⟩
  obtain ⟨a1, a2, ⟨c', a3, a4, a5⟩, a6⟩ := r2
  have ec : c' = c := by omega
  subst ec
  refine ⟨by unfold adN; rw [hs_eq]; rfl, by omega, ⟨c' ^^^ (c' &&& 2 ^ N), ?_, ?_, fun i hi => ?_⟩, fun i hi => ?_⟩
  · unfold adN; rw [hs_o (by omega), hs_eq]
  · exact Nat.xor_lt_two_pow (n := 14) a4 (Nat.lt_of_le_of_lt Nat.and_le_left a4)
  · rw [Nat.testBit_xor, Nat.testBit_and, Nat.testBit_two_pow]
    by_cases e : i = N
    · subst e
      unfold stB pnM
      rw [up_ne (by omega), up_eq]
      simp
    · rw [a5 i (by omega)]
      unfold stB
      rw [m _ (by omega) (by omega)]
      simp [show ¬ N = i by omega]
  · by_cases e : i = N
    · subst e
      unfold adN pnM
      refine ⟨?_, ?_, ?_⟩
      · rw [hs_o (by omega), hs_o (by omega), hs_o (by omega), hs_eq, up_ne (by omega), up_ne (by omega), up_ne (by omega), up_ne (by omega), up_eq]
      · rw [hs_o (by omega), hs_o (by omega), hs_o (by omega), hs_o (by omega), hs_eq, up_ne (by omega), up_ne (by omega), up_ne (by omega), up_eq]
      · rw [hs_o (by omega), hs_o (by omega), hs_eq, up_ne (by omega), up_ne (by omega), up_eq]
    · rw [m _ (by omega) (by omega), m _ (by omega) (by omega), m _ (by omega) (by omega)]
      unfold adN
      rw [hs_o (by omega), hs_o (by omega), hs_o (by omega), hs_o (by omega), hs_o (by omega), hs_o (by omega), hs_o (by omega), hs_o (by omega), hs_o (by omega), hs_o (by omega), hs_o (by omega), hs_o (by omega), hs_o (by omega), hs_o (by omega), hs_o (by omega)]
      exact a6 i (by omega)
theorem readHand_c (lv : Nat) {q : Hp} {t : Nat → Int} {e p : Nat} (S : PcS) (B : Bt q t e) (hp : p < e) (R : RS q 1 S.1 S.2.1 S.2.2) (hH : S.2.1 < 6) : PcR (cl (lv + 8) 44 [aA 6 0] (tpH q t e p)) (pcHand t e S p) q t e := by
  have A := TA_tp B.1 B.2.1 B.2.2 (Nat.le_of_lt hp)
  have e1 := adv_c (lv + 6) A
  rw [tp_tp] at e1
  have l0 := nxt_b t hp
  have b1 := behind_c lv 27 wOf 2 B l0.2 (by omega) (by decide) rfl (by decide)
  unfold pcHand
  rw [in_44]
  have fin : ∀ (r : Nat) (f : Nat), hset (tpH q t e r) 150 0 0 (f : Int) 150 0 0 = (f : Int) := fun r f => hs_eq _ _ _ _ _
  cases q1 : pAft t e wOf 2 (nxt t e p) with
  | inl f =>
    rw [q1] at b1
    obtain ⟨r, b1⟩ := b1
    refine ⟨_, ?_, fin r f, fun tt k j hf => fl_o hf⟩
    simp (disch := omega) only [x_6_0, x_35_0, x_79_1_8_d0, x_79_1_8_d1, x_79_1_8_d2, x_79_1_8_d3, x_79_1_8_d4, x_3, x_1, x_79_3_6_d0, x_79_3_6_d1, x_79_3_6_d2, x_79_3_6_d3, x_79_3_6_d4, x_7_1_I, x_7_1_A, x_7_1_U, x_4_1, x_63, x_85, x_7_2_I, x_7_2_A, x_7_2_U, x_4_2, x_7_3_I, x_7_3_A, x_7_3_U, x_4_3, x_7_4_I, x_7_4_A, x_7_4_U, x_4_4, x_35_1, x_79_5_7_d0, x_79_5_7_d1, x_79_5_7_d2, x_79_5_7_d3, x_79_5_7_d4, cb_ri, cb_rl, cb_rv, cb_th, cb_ite, ps_s, ps_n, u_44_0, u_44_22, u_44_38, u_44_54, u_44_72, e1, b1, Int.reduceEq, Int.reduceLT, Int.reduceLE, reduceIte, Int.reduceAdd, Int.reduceSub, Int.reduceMul, Int.reduceNeg, Int.reduceToNat, Bool.false_eq_true, eq_self, if_pos, if_neg]
  | inr z =>
    obtain ⟨x1, p1⟩ := z
    have l1 := pAft_len l0.2 (by decide) q1
    rw [q1] at b1
    have b1 : _ = ri x1 _ := b1
    have b2 := behind_c lv 2 wAt 63 B l1.2.1 (by omega) (by decide) rfl (by decide)
    dsimp only
    cases q2 : pAft t e wAt 63 p1 with
    | inl f =>
      rw [q2] at b2
      obtain ⟨r, b2⟩ := b2
      refine ⟨_, ?_, fin r f, fun tt k j hf => fl_o hf⟩
      simp (disch := omega) only [x_6_0, x_35_0, x_79_1_8_d0, x_79_1_8_d1, x_79_1_8_d2, x_79_1_8_d3, x_79_1_8_d4, x_3, x_1, x_79_3_6_d0, x_79_3_6_d1, x_79_3_6_d2, x_79_3_6_d3, x_79_3_6_d4, x_7_1_I, x_7_1_A, x_7_1_U, x_4_1, x_63, x_85, x_7_2_I, x_7_2_A, x_7_2_U, x_4_2, x_7_3_I, x_7_3_A, x_7_3_U, x_4_3, x_7_4_I, x_7_4_A, x_7_4_U, x_4_4, x_35_1, x_79_5_7_d0, x_79_5_7_d1, x_79_5_7_d2, x_79_5_7_d3, x_79_5_7_d4, cb_ri, cb_rl, cb_rv, cb_th, cb_ite, ps_s, ps_n, u_44_0, u_44_22, u_44_38, u_44_54, u_44_72, e1, b1, b2, Int.reduceEq, Int.reduceLT, Int.reduceLE, reduceIte, Int.reduceAdd, Int.reduceSub, Int.reduceMul, Int.reduceNeg, Int.reduceToNat, Bool.false_eq_true, eq_self, if_pos, if_neg]
    | inr z =>
      obtain ⟨x2, p2⟩ := z
      have l2 := pAft_len l1.2.1 (by decide) q2
      rw [q2] at b2
      have b2 : _ = ri x2 _ := b2
      have b3 := behind_c lv 32 wReach 40 B l2.2.1 (by omega) (by decide) rfl (by decide)
      dsimp only
      cases q3 : pAft t e wReach 40 p2 with
      | inl f =>
        rw [q3] at b3
        obtain ⟨r, b3⟩ := b3
        refine ⟨_, ?_, fin r f, fun tt k j hf => fl_o hf⟩
        simp (disch := omega) only [x_6_0, x_35_0, x_79_1_8_d0, x_79_1_8_d1, x_79_1_8_d2, x_79_1_8_d3, x_79_1_8_d4, x_3, x_1, x_79_3_6_d0, x_79_3_6_d1, x_79_3_6_d2, x_79_3_6_d3, x_79_3_6_d4, x_7_1_I, x_7_1_A, x_7_1_U, x_4_1, x_63, x_85, x_7_2_I, x_7_2_A, x_7_2_U, x_4_2, x_7_3_I, x_7_3_A, x_7_3_U, x_4_3, x_7_4_I, x_7_4_A, x_7_4_U, x_4_4, x_35_1, x_79_5_7_d0, x_79_5_7_d1, x_79_5_7_d2, x_79_5_7_d3, x_79_5_7_d4, cb_ri, cb_rl, cb_rv, cb_th, cb_ite, ps_s, ps_n, u_44_0, u_44_22, u_44_38, u_44_54, u_44_72, e1, b1, b2, b3, Int.reduceEq, Int.reduceLT, Int.reduceLE, reduceIte, Int.reduceAdd, Int.reduceSub, Int.reduceMul, Int.reduceNeg, Int.reduceToNat, Bool.false_eq_true, eq_self, if_pos, if_neg]
      | inr z =>
        obtain ⟨x3, p3⟩ := z
        have l3 := pAft_len l2.2.1 (by decide) q3
        rw [q3] at b3
        have b3 : _ = ri x3 _ := b3
        have b4 := behind_c lv 33 wSkill 9 B l3.2.1 (by omega) (by decide) rfl (by decide)
        dsimp only
        cases q4 : pAft t e wSkill 9 p3 with
        | inl f =>
          rw [q4] at b4
          obtain ⟨r, b4⟩ := b4
          refine ⟨_, ?_, fin r f, fun tt k j hf => fl_o hf⟩
          simp (disch := omega) only [x_6_0, x_35_0, x_79_1_8_d0, x_79_1_8_d1, x_79_1_8_d2, x_79_1_8_d3, x_79_1_8_d4, x_3, x_1, x_79_3_6_d0, x_79_3_6_d1, x_79_3_6_d2, x_79_3_6_d3, x_79_3_6_d4, x_7_1_I, x_7_1_A, x_7_1_U, x_4_1, x_63, x_85, x_7_2_I, x_7_2_A, x_7_2_U, x_4_2, x_7_3_I, x_7_3_A, x_7_3_U, x_4_3, x_7_4_I, x_7_4_A, x_7_4_U, x_4_4, x_35_1, x_79_5_7_d0, x_79_5_7_d1, x_79_5_7_d2, x_79_5_7_d3, x_79_5_7_d4, cb_ri, cb_rl, cb_rv, cb_th, cb_ite, ps_s, ps_n, u_44_0, u_44_22, u_44_38, u_44_54, u_44_72, e1, b1, b2, b3, b4, Int.reduceEq, Int.reduceLT, Int.reduceLE, reduceIte, Int.reduceAdd, Int.reduceSub, Int.reduceMul, Int.reduceNeg, Int.reduceToNat, Bool.false_eq_true, eq_self, if_pos, if_neg]
        | inr z =>
          obtain ⟨x4, p4⟩ := z
          have l4 := pAft_len l3.2.1 (by decide) q4
          rw [q4] at b4
          have b4 : _ = ri x4 _ := b4
          obtain ⟨a1, a2, ⟨c, a3, a4, a5⟩, a6⟩ := R.1
          have ah := addHand_c (lv + 6) 1 S.2.1 c x1 x2 x3 x4 (tpH q t e p4) (by rw [tp_o (by unfold tpR; omega)]; exact a1) (by omega) (by rw [tp_o (by unfold tpR; omega)]; exact a3) a4
          rw [adH_tp] at ah
          refine ⟨adH q 1 S.2.1 c x1 x2 x3 x4, ?_, RS_adH hH a3 R, fun tt k j hf => ?_⟩
          · simp (disch := omega) only [x_6_0, x_35_0, x_79_1_8_d0, x_79_1_8_d1, x_79_1_8_d2, x_79_1_8_d3, x_79_1_8_d4, x_3, x_1, x_79_3_6_d0, x_79_3_6_d1, x_79_3_6_d2, x_79_3_6_d3, x_79_3_6_d4, x_7_1_I, x_7_1_A, x_7_1_U, x_4_1, x_63, x_85, x_7_2_I, x_7_2_A, x_7_2_U, x_4_2, x_7_3_I, x_7_3_A, x_7_3_U, x_4_3, x_7_4_I, x_7_4_A, x_7_4_U, x_4_4, x_35_1, x_79_5_7_d0, x_79_5_7_d1, x_79_5_7_d2, x_79_5_7_d3, x_79_5_7_d4, cb_ri, cb_rl, cb_rv, cb_th, cb_ite, ps_s, ps_n, u_44_0, u_44_22, u_44_38, u_44_54, u_44_72, e1, b1, b2, b3, b4, ah, Int.reduceEq, Int.reduceLT, Int.reduceLE, reduceIte, Int.reduceAdd, Int.reduceSub, Int.reduceMul, Int.reduceNeg, Int.reduceToNat, Bool.false_eq_true, eq_self, if_pos, if_neg]
          · unfold stFr stTag at hf
            unfold adH
            rw [hs_o (by omega), hs_o (by omega), hs_o (by omega), hs_o (by omega), hs_o (by omega), hs_o (by omega), hs_o (by omega)]
