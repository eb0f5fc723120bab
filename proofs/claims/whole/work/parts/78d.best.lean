/-! THE CLASS: a hand more. -/
theorem withBit_c (lv a j : Nat) (b : Bool) (h : Hp) (ha : a < 16384) (hj : j < 14) : cl (lv + 1) 153 [aI (a : Int), aI (j : Int), aI (boI b)] h = ri ((if b = true then a ||| 2 ^ j else a ^^^ (a &&& 2 ^ j) : Nat) : Int) h := by
  have h2 : 2 ^ j < 2 ^ 14 := Nat.pow_lt_pow_right (by omega) hj
  have e1 := ishl_1 j (by omega)
  have e2 : ior (a : Int) (ishl 1 (j : Int)) = ((a ||| 2 ^ j : Nat) : Int) := by rw [e1, ior_n (by omega) (by omega)]
  have e3 : iand (a : Int) (ixor (ishl 1 (j : Int)) (-1)) = ((a ^^^ (a &&& 2 ^ j) : Nat) : Int) := by rw [e1, iandn_n (by omega) (by omega)]
  rw [in_153]
  cases b with
  | true => simp (disch := omega) only [x_4_2, x_68, x_4_0, x_1, x_4_1, x_20, x_18, x_60, x_19, x_17, x_61, x_82, u_153_0, u_153_12, u_153_19, boI, e2, Int.reduceEq, Int.reduceLT, Int.reduceLE, reduceIte, Int.reduceAdd, Int.reduceSub, Int.reduceMul, Int.reduceNeg, Int.reduceToNat, Bool.false_eq_true, eq_self, if_pos, if_neg]
  | false => simp (disch := omega) only [x_4_2, x_68, x_4_0, x_1, x_4_1, x_20, x_18, x_60, x_19, x_17, x_61, x_82, u_153_0, u_153_12, u_153_19, boI, e3, Int.reduceEq, Int.reduceLT, Int.reduceLE, reduceIte, Int.reduceAdd, Int.reduceSub, Int.reduceMul, Int.reduceNeg, Int.reduceToNat, Bool.false_eq_true, eq_self, if_pos, if_neg]
theorem wb_bs {P P' : Nat → Bool} {H : Nat} {b : Bool} (h1 : ∀ i, i < H → P' i = P i) (h2 : P' H = b) : (if b = true then bsN P (H + 1) ||| 2 ^ H else bsN P (H + 1) ^^^ (bsN P (H + 1) &&& 2 ^ H)) = bsN P' (H + 1) := by
  apply Nat.eq_of_testBit_eq
  intro i
  rw [bsN_bit]
  cases b with
  | true =>
    rw [if_pos rfl, tb_or, bsN_bit]
    by_cases e : i = H
    · subst e; simp [h2]
    · have e2 : ¬ H = i := fun z => e z.symm
      by_cases c : i < H
      · rw [h1 i c]; simp [e2]
      · have c1 : ¬ i < H + 1 := by omega
        simp [c1, e2]
  | false =>
    rw [if_neg Bool.false_ne_true, Nat.testBit_xor, Nat.testBit_and, bsN_bit, Nat.testBit_two_pow]
    by_cases e : i = H
    · subst e; simp [h2]
    · have e2 : ¬ H = i := fun z => e z.symm
      by_cases c : i < H
      · rw [h1 i c]; simp [e2]
      · have c1 : ¬ i < H + 1 := by omega
        simp [c1]
def adH (h : Hp) (s H c : Nat) (of key far able : Int) : Hp := hset (hset (hset (hset (hset (hset (hset h 129 s H of) 130 s H key) 131 s H far) 132 s H able) 133 s H 0) 141 s 0 ((c ^^^ (c &&& 2 ^ H) : Nat) : Int)) 139 s 0 ((H : Int) + 1)
theorem addHand_c (lv s H c : Nat) (of key far able : Int) (h : Hp) (h1 : h 139 s 0 = (H : Int)) (hH : H ≤ 6) (h2 : h 141 s 0 = (c : Int)) (hc : c < 128) : cl (lv + 1) 48 [aA 7 s, aI of, aI key, aI far, aI able] h = rv (adH h s H c of key far able) := by
  have p2 : 2 ^ H < 2 ^ 7 := Nat.pow_lt_pow_right (by omega) (by omega)
  have e3 : iand (c : Int) (ixor (ishl 1 (H : Int)) (-1)) = ((c ^^^ (c &&& 2 ^ H) : Nat) : Int) := by rw [ishl_1 H (by omega), iandn_n (by omega) (by omega)]
  rw [in_48]
  simp (disch := omega) only [x_6_0, x_33, x_34, x_45_129, x_45_130, x_45_131, x_45_132, x_45_133, x_64, x_83, x_4_1, x_39_129, x_39_130, x_39_131, x_39_132, x_39_133, x_4_2, x_4_3, x_4_4, x_1, x_47_I, x_47_A, x_20, x_19, x_17, x_36, x_11, u_48_0, u_48_13, h1, h2, hs_t, tn, e3, w32_id, Int.reduceEq, Int.reduceLT, Int.reduceLE, reduceIte, Int.reduceAdd, Int.reduceSub, Int.reduceMul, Int.reduceNeg, Int.reduceToNat, Bool.false_eq_true, eq_self, if_pos, if_neg]
  rfl
def abK (M : Nat → Int) (L : List LN) (H : Nat) (key : Int) (n i : Nat) : Bool := if i < H then abM M L n i else stB M n && decide (dsV M n key ≤ rcG M L H 8 0 2 key n (M (50 + 4 * n)))
def bkV (M : Nat → Int) (L : List LN) (H N : Nat) (key : Nat) : Nat := lvN (alB (cnA (abK M L H (key : Int)) (H + 1)) 0) M N
def bkFr (s tt k : Nat) : Prop := miFr tt k ∨ (k = s ∧ ((129 ≤ tt ∧ tt ≤ 133) ∨ tt = 139 ∨ tt = 141))
/-- a draft with a hand more, at some key -/
def BK (h q : Hp) (s H : Nat) (M : Nat → Int) (key : Int) : Prop := (∀ tt kk j, ¬ bkFr s tt kk → q tt kk j = h tt kk j) ∧ q 139 s 0 = ((H + 1 : Nat) : Int) ∧ (∀ i, i < H → q 129 s i = M (14 + 6 * i) ∧ q 130 s i = M (14 + 6 * i + 1) ∧ q 131 s i = M (14 + 6 * i + 2) ∧ q 132 s i = M (14 + 6 * i + 3) ∧ q 133 s i = M (14 + 6 * i + 4)) ∧ (q 129 s H = 2 ∧ q 130 s H = key ∧ q 131 s H = 8 ∧ q 132 s H = 9 ∧ q 133 s H = 0) ∧ ∃ c : Nat, q 141 s 0 = (c : Int) ∧ c < 128 ∧ (∀ i, i < H → c.testBit i = bdB M i) ∧ c.testBit H = false
theorem BK_add {h : Hp} {s H : Nat} {M : Nat → Int} (R : RH h s M H) : ∃ c : Nat, h 141 s 0 = (c : Int) ∧ c < 128 ∧ BK h (adH h s H c 2 0 8 9) s H M 0 := by
  obtain ⟨a1, a2, ⟨c, a3, a4, a5⟩, a6⟩ := R
  have p2 : 2 ^ H < 2 ^ 7 := Nat.pow_lt_pow_right (by omega) (by omega)
  refine ⟨c, a3, a4, fun tt kk j hf => ?_, ?_, fun i hi => ?_, ?_, c ^^^ (c &&& 2 ^ H), ?_, ?_, fun i hi => ?_, ?_⟩
  · unfold bkFr at hf
    unfold adH
    rw [hs_o (by omega), hs_o (by omega), hs_o (by omega), hs_o (by omega), hs_o (by omega), hs_o (by omega), hs_o (by omega)]
  · unfold adH; rw [hs_eq]; rfl
  · obtain ⟨p1, p2, p3, p4, p5⟩ := a6 i hi
    unfold adH
    refine ⟨?_, ?_, ?_, ?_, ?_⟩
    · rw [hs_o (by omega), hs_o (by omega), hs_o (by omega), hs_o (by omega), hs_o (by omega), hs_o (by omega), hs_o (by omega)]; exact p1
    · rw [hs_o (by omega), hs_o (by omega), hs_o (by omega), hs_o (by omega), hs_o (by omega), hs_o (by omega), hs_o (by omega)]; exact p2
    · rw [hs_o (by omega), hs_o (by omega), hs_o (by omega), hs_o (by omega), hs_o (by omega), hs_o (by omega), hs_o (by omega)]; exact p3
    · rw [hs_o (by omega), hs_o (by omega), hs_o (by omega), hs_o (by omega), hs_o (by omega), hs_o (by omega), hs_o (by omega)]; exact p4
    · rw [hs_o (by omega), hs_o (by omega), hs_o (by omega), hs_o (by omega), hs_o (by omega), hs_o (by omega), hs_o (by omega)]; exact p5
  · unfold adH
    refine ⟨?_, ?_, ?_, ?_, ?_⟩ <;> simp [hset]
  · unfold adH; simp [hset]
  · exact Nat.xor_lt_two_pow (n := 7) a4 (Nat.lt_of_le_of_lt Nat.and_le_left a4)
  · rw [Nat.testBit_xor, Nat.testBit_and, Nat.testBit_two_pow, a5 i hi]; simp [show ¬ H = i by omega]
  · rw [Nat.testBit_xor, Nat.testBit_and, Nat.testBit_two_pow]; simp
theorem BK_key {h q : Hp} {s H : Nat} {M : Nat → Int} {key : Int} (k2 : Int) (B : BK h q s H M key) : BK h (hset q 130 s H k2) s H M k2 := by
  obtain ⟨b1, b2, b3, ⟨c1, c2, c3, c4, c5⟩, c, d1, d2, d3, d4⟩ := B
  refine ⟨fun tt kk j hf => ?_, by rw [hs_t (by omega)]; exact b2, fun i hi => ?_, ⟨by rw [hs_t (by omega)]; exact c1, hs_eq _ _ _ _ _, by rw [hs_t (by omega)]; exact c3, by rw [hs_t (by omega)]; exact c4, by rw [hs_t (by omega)]; exact c5⟩, c, by rw [hs_t (by omega)]; exact d1, d2, d3, d4⟩
  · rw [hs_o (by unfold bkFr at hf; omega)]; exact b1 tt kk j hf
  · rw [hs_t (by omega), hs_i (by omega), hs_t (by omega), hs_t (by omega), hs_t (by omega)]; exact b3 i hi
theorem BK_fr {h q q' : Hp} {s H : Nat} {M : Nat → Int} {key : Int} (e : ∀ tt kk j, ¬ miFr tt kk → q' tt kk j = q tt kk j) (B : BK h q s H M key) : BK h q' s H M key := by
  have e2 : ∀ tt kk j, 129 ≤ tt → q' tt kk j = q tt kk j := fun tt kk j ht => e tt kk j (by unfold miFr gaFr lwFr lvFr; omega)
  obtain ⟨b1, b2, b3, ⟨c1, c2, c3, c4, c5⟩, c, d1, d2, d3, d4⟩ := B
  refine ⟨fun tt kk j hf => by rw [e _ _ _ (fun z => hf (Or.inl z))]; exact b1 tt kk j hf, by rw [e2 _ _ _ (by omega)]; exact b2, fun i hi => ?_, ⟨by rw [e2 _ _ _ (by omega)]; exact c1, by rw [e2 _ _ _ (by omega)]; exact c2, by rw [e2 _ _ _ (by omega)]; exact c3, by rw [e2 _ _ _ (by omega)]; exact c4, by rw [e2 _ _ _ (by omega)]; exact c5⟩, c, by rw [e2 _ _ _ (by omega)]; exact d1, d2, d3, d4⟩
  rw [e2 _ _ _ (by omega), e2 _ _ _ (by omega), e2 _ _ _ (by omega), e2 _ _ _ (by omega), e2 _ _ _ (by omega)]
  exact b3 i hi
theorem BK_q {h q g : Hp} {s H : Nat} {M : Nat → Int} {key : Int} (e : ∀ tt kk j, qT tt → g tt kk j = q tt kk j) (B : BK h q s H M key) {i : Nat} (G : GH M H) (hi : i < H) : HdV g s i (H + 1) (M (14 + 6 * i)) (M (14 + 6 * i + 1)) (M (14 + 6 * i + 2)) (M (14 + 6 * i + 3)) (M (14 + 6 * i + 4)) (bdB M i) := by
  obtain ⟨-, b2, b3, -, c, d1, d2, d3, d4⟩ := B
  obtain ⟨p1, p2, p3, p4, p5⟩ := b3 i hi
  obtain ⟨g1, g2, g3, g4, g5, -⟩ := G.2.2 i hi
  have := G.2.1
  exact ⟨⟨by rw [e _ _ _ (by unfold qT; omega)]; exact b2, by omega, by omega⟩, ⟨by rw [e _ _ _ (by unfold qT; omega)]; exact p1, by rw [e _ _ _ (by unfold qT; omega)]; exact p2, by rw [e _ _ _ (by unfold qT; omega)]; exact p3, by rw [e _ _ _ (by unfold qT; omega)]; exact p4, by rw [e _ _ _ (by unfold qT; omega)]; exact p5⟩, ⟨g1, g2, g3, g4, g5⟩, c, by rw [e _ _ _ (by unfold qT; omega)]; exact d1, d2, d3 i hi⟩
theorem BK_abs {h q : Hp} {s H N : Nat} {M : Nat → Int} {L : List LN} {key : Int} (B : BK h q s H M key) (G : GM M H N) (R : RN h s M N) (x6 : h 145 s 0 = M 6) (W : LawW h 0 L) (hk : 0 ≤ key ∧ key ≤ 63) : AbS q s (H + 1) N (abK M L H key) := by
  have hH := G.1.2.1
  have fr : ∀ tt kk j, ¬ bkFr s tt kk → q tt kk j = h tt kk j := B.1
  have Rq : RN q s M N := by
    obtain ⟨r1, r2, ⟨c, r3, r4, r5⟩, r6⟩ := R
    refine ⟨by rw [fr _ _ _ (by unfold bkFr miFr gaFr lwFr lvFr; omega)]; exact r1, r2, ⟨c, by rw [fr _ _ _ (by unfold bkFr miFr gaFr lwFr lvFr; omega)]; exact r3, r4, r5⟩, fun n hn => ?_⟩
    rw [fr _ _ _ (by unfold bkFr miFr gaFr lwFr lvFr; omega), fr _ _ _ (by unfold bkFr miFr gaFr lwFr lvFr; omega), fr _ _ _ (by unfold bkFr miFr gaFr lwFr lvFr; omega)]
    exact r6 n hn
  have Wq : LawW q 0 L := by
    obtain ⟨W1, W2, W3, W4, W5⟩ := W
    refine ⟨?_, ?_, ?_, ?_, W5⟩
    · rw [fr _ _ _ (by unfold bkFr miFr gaFr lwFr lvFr; omega)]; exact W1
    · rw [fr _ _ _ (by unfold bkFr miFr gaFr lwFr lvFr; omega)]; exact W2
    · intro i hi; rw [fr _ _ _ (by unfold bkFr miFr gaFr lwFr lvFr; omega), fr _ _ _ (by unfold bkFr miFr gaFr lwFr lvFr; omega)]; exact W3 i hi
    · intro i hi; rw [fr _ _ _ (by unfold bkFr miFr gaFr lwFr lvFr; omega)]; exact W4 i hi
  have q6 : q 145 s 0 = M 6 := by rw [fr _ _ _ (by unfold bkFr miFr gaFr lwFr lvFr; omega)]; exact x6
  have gN : ∀ n, n < N → NV M n := fun n hn => by have := G.2.1.2.2.1 n hn; exact ⟨this.1, this.2.1, this.2.2.1⟩
  have g6 := G.2.2.2.2.1
  refine ⟨⟨B.2.1, by omega, Rq.1, Rq.2.1⟩, fun lv i n g h1 h2 h3 => ?_⟩
  have Rg : RN g s M N := RN_fr (fun t i a b => h3 t s i (by unfold qT; omega)) Rq
  have g6q : g 145 s 0 = M 6 := by rw [h3 _ _ _ (by unfold qT; omega)]; exact q6
  by_cases hi : i < H
  · have := isAble_g lv 0 s i n (H + 1) N M g L _ _ _ _ _ _ (BK_q h3 B G.1 hi) Rg g6q g6 (gN n h2) (LawW_q h3 Wq) h2
    rw [← canB_abl] at this
    unfold abK
    rw [if_pos hi]
    exact this
  · have ei : i = H := by omega
    subst ei
    obtain ⟨-, b2, -, ⟨c1, c2, c3, c4, c5⟩, c, d1, d2, -, d4⟩ := B
    have V : HdV g s i (i + 1) 2 key 8 9 0 false := ⟨⟨by rw [h3 _ _ _ (by unfold qT; omega)]; exact b2, by omega, by omega⟩, ⟨by rw [h3 _ _ _ (by unfold qT; omega)]; exact c1, by rw [h3 _ _ _ (by unfold qT; omega)]; exact c2, by rw [h3 _ _ _ (by unfold qT; omega)]; exact c3, by rw [h3 _ _ _ (by unfold qT; omega)]; exact c4, by rw [h3 _ _ _ (by unfold qT; omega)]; exact c5⟩, ⟨by omega, hk, by omega, by omega, by omega⟩, c, by rw [h3 _ _ _ (by unfold qT; omega)]; exact d1, d2, d4⟩
    have := isAble_g lv 0 s i n (i + 1) N M g L _ _ _ _ _ _ V Rg g6q g6 (gN n h2) (LawW_q h3 Wq) h2
    unfold abK
    rw [if_neg hi]
    have e : ablV M L i 2 key 8 9 0 false n (M (50 + 4 * n)) = decide (dsV M n key ≤ rcG M L i 8 0 2 key n (M (50 + 4 * n))) := by
      unfold ablV
      have := (gN n h2).2.2
      rw [decide_eq_true (show M (50 + 4 * n + 2) ≤ 9 - 0 / 10 by omega)]
      rfl
    rw [e] at this
    exact this
theorem abK_real {M : Nat → Int} {L : List LN} {H : Nat} {k1 k2 : Int} {n i : Nat} (h : i < H) : abK M L H k1 n i = abK M L H k2 n i := by unfold abK; rw [if_pos h, if_pos h]
theorem bestKey_c (lv s H N : Nat) (M : Nat → Int) (h : Hp) (L : List LN) (R : RS h s M H N) (G : GM M H N) (W : LawW h 0 L) :
    ∃ h', cl (lv + 12) 21 [aA 3 0, aA 7 s] h = ri (((mnF (fun _ => true) (bkV M L H N) (0, 15) 64).1 : Nat) : Int) h' ∧ ∀ tt kk j, ¬ bkFr s tt kk → h' tt kk j = h tt kk j := by
  have hH := G.1.2.1
  have hN := R.2.1.2.1
  have x6 := R.2.2.1.2.2.1
  have bt : ∀ n, n < N → 0 ≤ M (50 + 4 * n) ∧ M (50 + 4 * n) ≤ 11 := fun n hn => (G.2.1.2.2.1 n hn).1
  have vle : ∀ b : Nat, bkV M L H N b ≤ 14 := fun b => Nat.le_trans (lvN_le _ _ _ bt) hN
  obtain ⟨c, c1, c2, B0⟩ := BK_add R.1
  have add := addHand_c (lv + 10) s H c 2 0 8 9 h R.1.1 (by omega) c1 c2
  obtain ⟨h1, a1, a2, a3⟩ := gather_c (lv + 6) s (H + 1) N _ _ (BK_abs B0 G R.2.1 x6 W (by omega))
  have B1 : BK h h1 s H M 0 := BK_fr (fun tt kk j hf => a3 tt kk j (fun z => hf (Or.inl z))) B0
  have RNq : ∀ {q : Hp} {key : Int}, BK h q s H M key → RN q s M N := fun {q key} B => by
    obtain ⟨r1, r2, ⟨c, r3, r4, r5⟩, r6⟩ := R.2.1
    refine ⟨by rw [B.1 _ _ _ (by unfold bkFr miFr gaFr lwFr lvFr; omega)]; exact r1, r2, ⟨c, by rw [B.1 _ _ _ (by unfold bkFr miFr gaFr lwFr lvFr; omega)]; exact r3, r4, r5⟩, fun n hn => ?_⟩
    rw [B.1 _ _ _ (by unfold bkFr miFr gaFr lwFr lvFr; omega), B.1 _ _ _ (by unfold bkFr miFr gaFr lwFr lvFr; omega), B.1 _ _ _ (by unfold bkFr miFr gaFr lwFr lvFr; omega)]
    exact r6 n hn
  have main := loop_p (S := (Int × AV) × Hp) (F := fun j (q : (Int × AV) × Hp) => run (lv + 11) 21 29 [aA 3 0, aA 7 s, aI (H : Int), aI (((mnF (fun _ => true) (bkV M L H N) (0, 15) j).1 : Nat) : Int), aI (((mnF (fun _ => true) (bkV M L H N) (0, 15) j).2 : Nat) : Int), aI (j : Int), q.1.2] [] q.2)
    (I := fun j q => BK h q.2 s H M q.1.1 ∧ ∀ n, n < N → q.2 117 0 n = ((cnA (abK M L H q.1.1) (H + 1) n : Nat) : Int))
    (Q := fun r => ∃ h', r = ri (((mnF (fun _ => true) (bkV M L H N) (0, 15) 64).1 : Nat) : Int) h' ∧ ∀ tt kk j, ¬ bkFr s tt kk → h' tt kk j = h tt kk j) (N := 64) ?_ ?_ ((0, none), h1) ⟨B1, a2⟩
  · obtain ⟨h', e1, e2⟩ := main
    refine ⟨h', ?_, e2⟩
    rw [← e1, in_21]
    simp (disch := omega) only [x_6_1, x_33, x_7_2_I, x_7_2_A, x_7_2_U, x_1, x_79_5_7_d0, x_79_5_7_d1, x_79_5_7_d2, x_79_5_7_d3, x_79_5_7_d4, x_6_0, x_79_2_3_d0, x_79_2_3_d1, x_79_2_3_d2, x_79_2_3_d3, x_79_2_3_d4, x_7_3_I, x_7_3_A, x_7_3_U, x_7_4_I, x_7_4_A, x_7_4_U, x_7_5_I, x_7_5_A, x_7_5_U, x_61, x_4_5, x_65, x_34, x_4_2, x_39_117, x_39_130, x_7_6_I, x_7_6_A, x_7_6_U, x_4_6, x_38_117, x_38_130, x_35_0, x_79_4_1_d0, x_79_4_1_d1, x_79_4_1_d2, x_79_4_1_d3, x_79_4_1_d4, x_80_3_d0, x_80_3_d1, x_80_3_d2, x_80_3_d3, x_80_3_d4, x_10_6_I, x_10_6_A, x_10_6_U, x_60, x_79_3_3_d0, x_79_3_3_d1, x_79_3_3_d2, x_79_3_3_d3, x_79_3_3_d4, x_80_1_d0, x_80_1_d1, x_80_1_d2, x_80_1_d3, x_80_1_d4, x_4_4, x_10_5_I, x_10_5_A, x_10_5_U, x_4_3, x_82, cb_ri, cb_rl, cb_rv, cb_th, cb_ite, ps_s, ps_n, u_21_0, u_21_91, u_21_116, u_21_122, R.1.1, add, a1, w32_id]
    rfl
  · rintro j ⟨⟨key, v6⟩, q⟩ hj ⟨i1, i2⟩
    simp only at i1 i2 ⊢
    have ml := mnF_le (fun _ => true) (bkV M L H N) (0, 15) j
    have vj := vle j
    generalize hmn : mnF (fun _ => true) (bkV M L H N) (0, 15) j = mj at ml ⊢
    have hs : mnF (fun _ => true) (bkV M L H N) (0, 15) (j + 1) = if (true && decide (bkV M L H N j < mj.2)) = true then (j, bkV M L H N j) else mj := by rw [← hmn]; rfl
    rw [hs]
    -- the notes, one behind another
    have inner : ∃ h3 : Hp, run (lv + 11) 21 47 [aA 3 0, aA 7 s, aI (H : Int), aI (mj.1 : Int), aI (mj.2 : Int), aI (j : Int), aI 0] [] (hset q 130 s H (j : Int)) = run (lv + 11) 21 91 [aA 3 0, aA 7 s, aI (H : Int), aI (mj.1 : Int), aI (mj.2 : Int), aI (j : Int), aI (N : Int)] [] h3 ∧ BK h h3 s H M (j : Int) ∧ ∀ n, n < N → h3 117 0 n = ((cnA (abK M L H (j : Int)) (H + 1) n : Nat) : Int) := by
      refine loop_p (S := Hp) (F := fun i (g : Hp) => run (lv + 11) 21 47 [aA 3 0, aA 7 s, aI (H : Int), aI (mj.1 : Int), aI (mj.2 : Int), aI (j : Int), aI (i : Int)] [] g)
        (I := fun i g => BK h g s H M (j : Int) ∧ ∀ n, n < N → g 117 0 n = ((cnA (abK M L H (if n < i then (j : Int) else key)) (H + 1) n : Nat) : Int))
        (Q := fun r => ∃ h3 : Hp, r = run (lv + 11) 21 91 [aA 3 0, aA 7 s, aI (H : Int), aI (mj.1 : Int), aI (mj.2 : Int), aI (j : Int), aI (N : Int)] [] h3 ∧ BK h h3 s H M (j : Int) ∧ ∀ n, n < N → h3 117 0 n = ((cnA (abK M L H (j : Int)) (H + 1) n : Nat) : Int)) (N := N) ?_ ?_ (hset q 130 s H (j : Int)) ⟨BK_key (j : Int) i1, fun n hn => by rw [hs_t (by omega), if_neg (by omega)]; exact i2 n hn⟩
      · rintro i g hi ⟨k1, k2⟩
        have AB := BK_abs (L := L) k1 G R.2.1 x6 W (by omega)
        obtain ⟨g', e1, e2⟩ := AB.2 (lv + 8) H i g (by omega) hi (fun _ _ _ _ => rfl)
        have g117 := k2 i hi
        rw [if_neg (by omega)] at g117
        have wb := withBit_c (lv + 10) (cnA (abK M L H key) (H + 1) i) H (abK M L H (j : Int) i H) g' (by have := cnA_lt (abK M L H key) (show H + 1 ≤ 7 by omega) i; omega) (by omega)
        have wv : (if abK M L H (j : Int) i H = true then cnA (abK M L H key) (H + 1) i ||| 2 ^ H else cnA (abK M L H key) (H + 1) i ^^^ (cnA (abK M L H key) (H + 1) i &&& 2 ^ H)) = cnA (abK M L H (j : Int)) (H + 1) i := wb_bs (fun i' hi' => abK_real hi') rfl
        rw [wv] at wb
        refine ⟨hset g' 117 0 i ((cnA (abK M L H (j : Int)) (H + 1) i : Nat) : Int), ?_, ?_, fun n hn => ?_⟩
        · have n40 : g 140 s 0 = (N : Int) := (RNq k1).1
          try simp only
          rw [hd_21_47]
          simp (disch := omega) only [x_6_1, x_33, x_7_2_I, x_7_2_A, x_7_2_U, x_1, x_79_5_7_d0, x_79_5_7_d1, x_79_5_7_d2, x_79_5_7_d3, x_79_5_7_d4, x_6_0, x_79_2_3_d0, x_79_2_3_d1, x_79_2_3_d2, x_79_2_3_d3, x_79_2_3_d4, x_7_3_I, x_7_3_A, x_7_3_U, x_7_4_I, x_7_4_A, x_7_4_U, x_7_5_I, x_7_5_A, x_7_5_U, x_61, x_4_5, x_65, x_34, x_4_2, x_39_117, x_39_130, x_7_6_I, x_7_6_A, x_7_6_U, x_4_6, x_38_117, x_38_130, x_35_0, x_79_4_1_d0, x_79_4_1_d1, x_79_4_1_d2, x_79_4_1_d3, x_79_4_1_d4, x_80_3_d0, x_80_3_d1, x_80_3_d2, x_80_3_d3, x_80_3_d4, x_10_6_I, x_10_6_A, x_10_6_U, x_60, x_79_3_3_d0, x_79_3_3_d1, x_79_3_3_d2, x_79_3_3_d3, x_79_3_3_d4, x_80_1_d0, x_80_1_d1, x_80_1_d2, x_80_1_d3, x_80_1_d4, x_4_4, x_10_5_I, x_10_5_A, x_10_5_U, x_4_3, x_82, cb_ri, cb_rl, cb_rv, cb_th, cb_ite, ps_s, ps_n, u_21_0, u_21_91, u_21_116, u_21_122, n40, tn, g117, e1, wb, Int.reduceEq, Int.reduceLT, Int.reduceLE, reduceIte, Int.reduceAdd, Int.reduceSub, Int.reduceMul, Int.reduceNeg, Int.reduceToNat, Bool.false_eq_true, eq_self, if_pos, if_neg, ci, w32_id]
        · refine BK_fr (fun tt kk x hf => ?_) k1
          unfold miFr gaFr at hf
          rw [hs_o (fun z => hf (Or.inl (Or.inr ⟨z.1, z.2.1⟩))), e2 _ _ _ (fun z => hf (Or.inl (Or.inl z)))]
        · by_cases e : n = i
          · rw [e, hs_eq, if_pos (by omega)]
          · rw [hs_i e, e2 _ _ _ (by unfold lwFr; omega), k2 n hn]
            by_cases c : n < i
            · rw [if_pos c, if_pos (by omega)]
            · rw [if_neg c, if_neg (by omega)]
      · rintro g ⟨k1, k2⟩
        have n40 : g 140 s 0 = (N : Int) := (RNq k1).1
        refine ⟨g, ?_, k1, fun n hn => by rw [k2 n hn, if_pos hn]⟩
        try simp only
        rw [hd_21_47]
        simp (disch := omega) only [x_6_1, x_33, x_7_2_I, x_7_2_A, x_7_2_U, x_1, x_79_5_7_d0, x_79_5_7_d1, x_79_5_7_d2, x_79_5_7_d3, x_79_5_7_d4, x_6_0, x_79_2_3_d0, x_79_2_3_d1, x_79_2_3_d2, x_79_2_3_d3, x_79_2_3_d4, x_7_3_I, x_7_3_A, x_7_3_U, x_7_4_I, x_7_4_A, x_7_4_U, x_7_5_I, x_7_5_A, x_7_5_U, x_61, x_4_5, x_65, x_34, x_4_2, x_39_117, x_39_130, x_7_6_I, x_7_6_A, x_7_6_U, x_4_6, x_38_117, x_38_130, x_35_0, x_79_4_1_d0, x_79_4_1_d1, x_79_4_1_d2, x_79_4_1_d3, x_79_4_1_d4, x_80_3_d0, x_80_3_d1, x_80_3_d2, x_80_3_d3, x_80_3_d4, x_10_6_I, x_10_6_A, x_10_6_U, x_60, x_79_3_3_d0, x_79_3_3_d1, x_79_3_3_d2, x_79_3_3_d3, x_79_3_3_d4, x_80_1_d0, x_80_1_d1, x_80_1_d2, x_80_1_d3, x_80_1_d4, x_4_4, x_10_5_I, x_10_5_A, x_10_5_U, x_4_3, x_82, cb_ri, cb_rl, cb_rv, cb_th, cb_ite, ps_s, ps_n, u_21_0, u_21_116, u_21_122, n40, Int.reduceEq, Int.reduceLT, Int.reduceLE, reduceIte, Int.reduceAdd, Int.reduceSub, Int.reduceMul, Int.reduceNeg, Int.reduceToNat, Bool.false_eq_true, eq_self, if_pos, if_neg]
    obtain ⟨h3, d1, d2, d3⟩ := inner
    obtain ⟨lf, h4, b1, b2, b3, b4⟩ := leave_c (lv + 1) s N 0 M h3 (cnA (abK M L H (j : Int)) (H + 1)) (RNq d2) bt (fun n hn => ⟨d3 n hn, cnA_lt _ (by omega) n⟩) (by omega)
    have s1 := lv_sum b2 b3 bt
    have bc := bitCount_c (lv + 10) lf N h4 hN
    rw [s1] at bc
    have bc : _ = ri ((bkV M L H N j : Nat) : Int) h4 := bc
    have b1' : cl (lv + 11) 25 [aA 3 0, aA 7 s, aI 0] h3 = ri ((bsN lf N : Nat) : Int) h4 := b1
    have B4 : BK h h4 s H M (j : Int) := BK_fr (fun tt kk x hf => b4 tt kk x (fun z => hf (Or.inr z))) d2
    have c4 : ∀ n, n < N → h4 117 0 n = ((cnA (abK M L H (j : Int)) (H + 1) n : Nat) : Int) := fun n hn => by rw [b4 _ _ _ (by unfold lvFr; omega)]; exact d3 n hn
    refine ⟨(((j : Int), aI ((bkV M L H N j : Nat) : Int)), h4), ?_, B4, c4⟩
    try simp only
    rw [hd_21_29]
    simp (disch := omega) only [x_6_1, x_33, x_7_2_I, x_7_2_A, x_7_2_U, x_1, x_79_5_7_d0, x_79_5_7_d1, x_79_5_7_d2, x_79_5_7_d3, x_79_5_7_d4, x_6_0, x_79_2_3_d0, x_79_2_3_d1, x_79_2_3_d2, x_79_2_3_d3, x_79_2_3_d4, x_7_3_I, x_7_3_A, x_7_3_U, x_7_4_I, x_7_4_A, x_7_4_U, x_7_5_I, x_7_5_A, x_7_5_U, x_61, x_4_5, x_65, x_34, x_4_2, x_39_117, x_39_130, x_7_6_I, x_7_6_A, x_7_6_U, x_4_6, x_38_117, x_38_130, x_35_0, x_79_4_1_d0, x_79_4_1_d1, x_79_4_1_d2, x_79_4_1_d3, x_79_4_1_d4, x_80_3_d0, x_80_3_d1, x_80_3_d2, x_80_3_d3, x_80_3_d4, x_10_6_I, x_10_6_A, x_10_6_U, x_60, x_79_3_3_d0, x_79_3_3_d1, x_79_3_3_d2, x_79_3_3_d3, x_79_3_3_d4, x_80_1_d0, x_80_1_d1, x_80_1_d2, x_80_1_d3, x_80_1_d4, x_4_4, x_10_5_I, x_10_5_A, x_10_5_U, x_4_3, x_82, cb_ri, cb_rl, cb_rv, cb_th, cb_ite, ps_s, ps_n, u_21_0, u_21_116, u_21_122, tn, Int.reduceEq, Int.reduceLT, Int.reduceLE, reduceIte, Int.reduceAdd, Int.reduceSub, Int.reduceMul, Int.reduceNeg, Int.reduceToNat, Bool.false_eq_true, eq_self, if_pos, if_neg]
    rw [d1]
    by_cases lt : bkV M L H N j < mj.2
    · rw [if_pos (by simpa using lt)]
      simp (disch := omega) only [x_6_1, x_33, x_7_2_I, x_7_2_A, x_7_2_U, x_1, x_79_5_7_d0, x_79_5_7_d1, x_79_5_7_d2, x_79_5_7_d3, x_79_5_7_d4, x_6_0, x_79_2_3_d0, x_79_2_3_d1, x_79_2_3_d2, x_79_2_3_d3, x_79_2_3_d4, x_7_3_I, x_7_3_A, x_7_3_U, x_7_4_I, x_7_4_A, x_7_4_U, x_7_5_I, x_7_5_A, x_7_5_U, x_61, x_4_5, x_65, x_34, x_4_2, x_39_117, x_39_130, x_7_6_I, x_7_6_A, x_7_6_U, x_4_6, x_38_117, x_38_130, x_35_0, x_79_4_1_d0, x_79_4_1_d1, x_79_4_1_d2, x_79_4_1_d3, x_79_4_1_d4, x_80_3_d0, x_80_3_d1, x_80_3_d2, x_80_3_d3, x_80_3_d4, x_10_6_I, x_10_6_A, x_10_6_U, x_60, x_79_3_3_d0, x_79_3_3_d1, x_79_3_3_d2, x_79_3_3_d3, x_79_3_3_d4, x_80_1_d0, x_80_1_d1, x_80_1_d2, x_80_1_d3, x_80_1_d4, x_4_4, x_10_5_I, x_10_5_A, x_10_5_U, x_4_3, x_82, cb_ri, cb_rl, cb_rv, cb_th, cb_ite, ps_s, ps_n, u_21_0, u_21_91, u_21_116, u_21_122, b1', bc, Int.reduceEq, Int.reduceLT, Int.reduceLE, reduceIte, Int.reduceAdd, Int.reduceSub, Int.reduceMul, Int.reduceNeg, Int.reduceToNat, Bool.false_eq_true, eq_self, if_pos, if_neg, ci, w32_id]
    · rw [if_neg (by simpa using lt)]
      simp (disch := omega) only [x_6_1, x_33, x_7_2_I, x_7_2_A, x_7_2_U, x_1, x_79_5_7_d0, x_79_5_7_d1, x_79_5_7_d2, x_79_5_7_d3, x_79_5_7_d4, x_6_0, x_79_2_3_d0, x_79_2_3_d1, x_79_2_3_d2, x_79_2_3_d3, x_79_2_3_d4, x_7_3_I, x_7_3_A, x_7_3_U, x_7_4_I, x_7_4_A, x_7_4_U, x_7_5_I, x_7_5_A, x_7_5_U, x_61, x_4_5, x_65, x_34, x_4_2, x_39_117, x_39_130, x_7_6_I, x_7_6_A, x_7_6_U, x_4_6, x_38_117, x_38_130, x_35_0, x_79_4_1_d0, x_79_4_1_d1, x_79_4_1_d2, x_79_4_1_d3, x_79_4_1_d4, x_80_3_d0, x_80_3_d1, x_80_3_d2, x_80_3_d3, x_80_3_d4, x_10_6_I, x_10_6_A, x_10_6_U, x_60, x_79_3_3_d0, x_79_3_3_d1, x_79_3_3_d2, x_79_3_3_d3, x_79_3_3_d4, x_80_1_d0, x_80_1_d1, x_80_1_d2, x_80_1_d3, x_80_1_d4, x_4_4, x_10_5_I, x_10_5_A, x_10_5_U, x_4_3, x_82, cb_ri, cb_rl, cb_rv, cb_th, cb_ite, ps_s, ps_n, u_21_0, u_21_91, u_21_116, u_21_122, b1', bc, Int.reduceEq, Int.reduceLT, Int.reduceLE, reduceIte, Int.reduceAdd, Int.reduceSub, Int.reduceMul, Int.reduceNeg, Int.reduceToNat, Bool.false_eq_true, eq_self, if_pos, if_neg, ci, w32_id]
  · rintro ⟨⟨key, v6⟩, q⟩ ⟨i1, i2⟩
    refine ⟨q, ?_, i1.1⟩
    try simp only
    rw [hd_21_29]
    simp (disch := omega) only [x_6_1, x_33, x_7_2_I, x_7_2_A, x_7_2_U, x_1, x_79_5_7_d0, x_79_5_7_d1, x_79_5_7_d2, x_79_5_7_d3, x_79_5_7_d4, x_6_0, x_79_2_3_d0, x_79_2_3_d1, x_79_2_3_d2, x_79_2_3_d3, x_79_2_3_d4, x_7_3_I, x_7_3_A, x_7_3_U, x_7_4_I, x_7_4_A, x_7_4_U, x_7_5_I, x_7_5_A, x_7_5_U, x_61, x_4_5, x_65, x_34, x_4_2, x_39_117, x_39_130, x_7_6_I, x_7_6_A, x_7_6_U, x_4_6, x_38_117, x_38_130, x_35_0, x_79_4_1_d0, x_79_4_1_d1, x_79_4_1_d2, x_79_4_1_d3, x_79_4_1_d4, x_80_3_d0, x_80_3_d1, x_80_3_d2, x_80_3_d3, x_80_3_d4, x_10_6_I, x_10_6_A, x_10_6_U, x_60, x_79_3_3_d0, x_79_3_3_d1, x_79_3_3_d2, x_79_3_3_d3, x_79_3_3_d4, x_80_1_d0, x_80_1_d1, x_80_1_d2, x_80_1_d3, x_80_1_d4, x_4_4, x_10_5_I, x_10_5_A, x_10_5_U, x_4_3, x_82, cb_ri, cb_rl, cb_rv, cb_th, cb_ite, ps_s, ps_n, u_21_0, u_21_91, u_21_116, u_21_122, Int.reduceEq, Int.reduceLT, Int.reduceLE, reduceIte, Int.reduceAdd, Int.reduceSub, Int.reduceMul, Int.reduceNeg, Int.reduceToNat, Bool.false_eq_true, eq_self, if_pos, if_neg]
