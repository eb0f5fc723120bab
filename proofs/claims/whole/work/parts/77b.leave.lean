/-! THE CLASS: which notes are left over. -/
theorem RN_fr {h g : Hp} {s N : Nat} {M : Nat → Int} (e : ∀ t i, 129 ≤ t → t ≤ 147 → g t s i = h t s i) (R : RN h s M N) : RN g s M N := by
  obtain ⟨r1, r2, ⟨c, r3, r4, r5⟩, r6⟩ := R
  refine ⟨by rw [e _ _ (by omega) (by omega)]; exact r1, r2, ⟨c, by rw [e _ _ (by omega) (by omega)]; exact r3, r4, r5⟩, fun n hn => ?_⟩
  rw [e _ _ (by omega) (by omega), e _ _ (by omega) (by omega), e _ _ (by omega) (by omega)]
  exact r6 n hn
theorem KI_cg {A : Nat → Nat → Bool} {P : Nat → Bool} {m N : Nat} {hd hd' : Nat → Int} {lf lf' C : Nat → Bool} (e1 : ∀ x, x < 7 → hd' x = hd x) (e2 : ∀ y, P y = true → lf' y = lf y) (k : KI A P m N hd lf C) : KI A P m N hd' lf' C := by
  obtain ⟨k1, k2, k3, k4⟩ := k
  refine ⟨fun x hx => ?_, fun y h1 h2 h3 h4 => ?_, fun x hx hc => ?_, fun y h1 h2 h3 h4 => ?_⟩
  · rw [e1 x hx]
    rcases k1 x hx with r | ⟨y, r1, r2, r3, r4, r5⟩
    · exact Or.inl r
    · exact Or.inr ⟨y, r1, r2, r3, by rw [e2 y r3]; exact r4, r5⟩
  · rw [e2 y h3] at h4
    rw [← k2 y h1 h2 h3 h4]
    exact cnt_congr (fun x hx => by rw [e1 x hx])
  · rw [e1 x hx]; exact k3 x hx hc
  · rw [e2 y h3] at h4; exact k4 y h1 h2 h3 h4
theorem bsN_tb {a N : Nat} (h : a < 2 ^ N) : bsN (fun n => a.testBit n) N = a := by
  apply Nat.eq_of_testBit_eq
  intro i
  rw [bsN_bit]
  by_cases c : i < N
  · simp [c]
  · rw [Nat.testBit_lt_two_pow (Nat.lt_of_lt_of_le h (Nat.pow_le_pow_right (by omega) (by omega)))]; simp [c]
theorem lt_tb {a N : Nat} (h : ∀ n, a.testBit n = true → n < N) : a < 2 ^ N := by
  refine Nat.lt_of_not_le (fun hge => ?_)
  obtain ⟨i, h1, h2⟩ := Nat.exists_ge_and_testBit_of_ge_two_pow hge
  have := h i h2
  omega
def lvFr (tt k : Nat) : Prop := k = 0 ∧ 118 ≤ tt ∧ tt ≤ 120
theorem leave_c (lv s N aw : Nat) (M : Nat → Int) (h : Hp) (cn : Nat → Nat) (R : RN h s M N) (hbt : ∀ n, n < N → 0 ≤ M (50 + 4 * n) ∧ M (50 + 4 * n) ≤ 11) (hc : ∀ n, n < N → h 117 0 n = (cn n : Int) ∧ cn n < 128) (haw : aw < 128) :
    ∃ (lf : Nat → Bool) (h' : Hp), cl (lv + 10) 25 [aA 3 0, aA 7 s, aI (aw : Int)] h = ri ((bsN lf N : Nat) : Int) h' ∧ (∀ b : Nat, b < 12 → LVs (alB cn aw) (atB M (b : Int)) N lf) ∧ (∀ n, lf n = true → n < N ∧ stB M n = true) ∧ ∀ tt k i, ¬ lvFr tt k → h' tt k i = h tt k i := by
  have hN := R.2.1
  have two : ∀ g : Hp, (∀ tt k i, ¬ lvFr tt k → g tt k i = h tt k i) → g 119 0 0 = (aw : Int) → (∀ j, j < 84 → g 118 0 j = -1) → ∃ (lf : Nat → Bool) (h' : Hp), run (lv + 9) 25 36 [aA 3 0, aA 7 s, aI (aw : Int), aI 0, aI ((N : Int) - 1)] [] g = ri ((bsN lf N : Nat) : Int) h' ∧ (∀ b : Nat, b < 12 → LVs (alB cn aw) (atB M (b : Int)) N lf) ∧ (∀ n, lf n = true → n < N ∧ stB M n = true) ∧ ∀ tt k i, ¬ lvFr tt k → h' tt k i = h tt k i := by
    intro g hg g9 g8
    have main := loop_p (S := Nat × Hp) (F := fun j (q : Nat × Hp) => run (lv + 9) 25 36 [aA 3 0, aA 7 s, aI (aw : Int), aI (q.1 : Int), aI ((N : Int) - 1 - (j : Int))] [] q.2)
      (I := fun j (q : Nat × Hp) => (∀ tt k i, ¬ lvFr tt k → q.2 tt k i = h tt k i) ∧ q.2 119 0 0 = (aw : Int) ∧ (∀ n, q.1.testBit n = true → N ≤ n + j ∧ n < N ∧ stB M n = true) ∧ ∀ b : Nat, b < 12 → (∃ C, KI (alB cn aw) (atB M (b : Int)) (N - j) N (fun x => q.2 118 0 (7 * b + x)) (fun n => q.1.testBit n) C) ∧ ∀ g', MatU (alB cn aw) 7 (chL (atB M (b : Int)) N) 0 g' → ∀ m, N - j ≤ m → m ≤ N → cntF (fun n => atB M (b : Int) n && decide (g' n ≠ -1)) m N ≤ cntF (fun n => atB M (b : Int) n && !q.1.testBit n) m N)
      (Q := fun r => ∃ (lf : Nat → Bool) (h' : Hp), r = ri ((bsN lf N : Nat) : Int) h' ∧ (∀ b : Nat, b < 12 → LVs (alB cn aw) (atB M (b : Int)) N lf) ∧ (∀ n, lf n = true → n < N ∧ stB M n = true) ∧ ∀ tt k i, ¬ lvFr tt k → h' tt k i = h tt k i) (N := N) ?_ ?_ (0, g) ?_
    · simp only [Int.natCast_zero, Int.sub_zero] at main
      exact main
    · rintro j ⟨left, q⟩ hj ⟨i1, i2, i3, i4⟩
      simp only at i1 i2 i3 i4 ⊢
      obtain ⟨m, hm⟩ : ∃ m, N = m + 1 + j := ⟨N - 1 - j, by omega⟩
      have em : (N : Int) - 1 - (j : Int) = (m : Int) := by omega
      have em1 : N - j = m + 1 := by omega
      have em2 : N - (j + 1) = m := by omega
      have ez : (N : Int) - 1 - ((j + 1 : Nat) : Int) = (m : Int) + -1 := by omega
      have hmN : m < N := by omega
      have Rq : RN q s M N := RN_fr (fun t i h1 h2 => i1 t s i (by unfold lvFr; omega)) R
      have st := isStanding_c (lv + 8) s N m M q Rq hmN
      have nom : left.testBit m = false := by
        cases hq : left.testBit m with
        | false => rfl
        | true => have := (i3 m hq).1; omega
      -- what follows once the beats' pictures stand
      have fin : ∀ (left' : Nat) (q' : Hp), (∀ tt k i, ¬ lvFr tt k → q' tt k i = h tt k i) → q' 119 0 0 = (aw : Int) → (∀ n, left'.testBit n = true → left.testBit n = true ∨ (n = m ∧ stB M m = true)) → (∀ n, n ≠ m → left'.testBit n = left.testBit n) → (∀ b : Nat, b < 12 → ∃ C, KI (alB cn aw) (atB M (b : Int)) m N (fun x => q' 118 0 (7 * b + x)) (fun n => left'.testBit n) C) →
          (∀ tt k i, ¬ lvFr tt k → q' tt k i = h tt k i) ∧ q' 119 0 0 = (aw : Int) ∧ (∀ n, left'.testBit n = true → N ≤ n + (j + 1) ∧ n < N ∧ stB M n = true) ∧ ∀ b : Nat, b < 12 → (∃ C, KI (alB cn aw) (atB M (b : Int)) (N - (j + 1)) N (fun x => q' 118 0 (7 * b + x)) (fun n => left'.testBit n) C) ∧ ∀ g', MatU (alB cn aw) 7 (chL (atB M (b : Int)) N) 0 g' → ∀ m', N - (j + 1) ≤ m' → m' ≤ N → cntF (fun n => atB M (b : Int) n && decide (g' n ≠ -1)) m' N ≤ cntF (fun n => atB M (b : Int) n && !left'.testBit n) m' N := by
        intro left' q' a1 a2 a3 a4 a5
        refine ⟨a1, a2, fun n hn => ?_, fun b hb => ⟨by rw [em2]; exact a5 b hb, fun g' hg' m' h1 h2 => ?_⟩⟩
        · rcases a3 n hn with z | ⟨rfl, z⟩
          · have := i3 n z; exact ⟨by omega, this.2⟩
          · exact ⟨by omega, hmN, z⟩
        · by_cases e : m' = m
          · subst e
            obtain ⟨C, kC⟩ := a5 b hb
            exact KI_dom kC g' hg'
          · have := (i4 b hb).2 g' hg' m' (by omega) h2
            have e2 : cntF (fun n => atB M (b : Int) n && !left'.testBit n) m' N = cntF (fun n => atB M (b : Int) n && !left.testBit n) m' N := by
              unfold cntF
              refine cnt_congr (fun n hn => ?_)
              by_cases en : m' ≤ n
              · try simp only
                rw [a4 n (by omega)]
              · simp [en]
            rw [e2]; exact this
      by_cases hs : stB M m = true
      · obtain ⟨b0, hb0⟩ : ∃ b0 : Nat, M (50 + 4 * m) = (b0 : Int) := ⟨(M (50 + 4 * m)).toNat, by have := hbt m hmN; omega⟩
        have hb12 : b0 < 12 := by have := hbt m hmN; omega
        have q34 : q 134 s m = (b0 : Int) := by rw [(Rq.2.2.2 m hmN).1]; exact hb0
        obtain ⟨⟨C0, k0⟩, -⟩ := i4 b0 hb12
        obtain ⟨res, h2, sn2, r1, r2, r3, r4, r5⟩ := finds_c (cn := cn) hN hb12 haw 7 0 (lv + 1) m 0 (hset q 120 0 0 0) (by omega) hmN (fun n hn => ⟨by rw [hs_t (by omega), i1 _ _ _ (by unfold lvFr; omega)]; exact (hc n hn).1, (hc n hn).2⟩) (by rw [hs_t (by omega)]; exact i2) (by rw [hs_eq]; rfl) (by omega) (Nat.zero_le _) (fun x hx => by
          rw [hs_t (by omega)]
          rcases k0.1 x hx with z | ⟨y, z1, z2, -⟩
          · exact Or.inl z
          · exact Or.inr ⟨y, z1, z2.2⟩)
        have hg1 : (fun x => hset q 120 0 0 0 118 0 (7 * b0 + x)) = fun x => q 118 0 (7 * b0 + x) := by funext x; rw [hs_t (by omega)]
        rw [hg1] at r5
        have a1 : ∀ tt k i, ¬ lvFr tt k → h2 tt k i = h tt k i := by
          intro tt k i hf
          rw [r4 tt k i (by unfold lvFr at hf; omega), hs_o (by unfold lvFr at hf; omega)]
          exact i1 tt k i hf
        have a2 : h2 119 0 0 = (aw : Int) := by rw [r4 _ _ _ (by omega), hs_t (by omega)]; exact i2
        have oth : ∀ b : Nat, b ≠ b0 → atB M (b : Int) m = false := by
          intro b hne
          unfold atB
          rw [hb0, hs, Bool.true_and, decide_eq_false_iff_not]
          omega
        have own : atB M (b0 : Int) m = true := by unfold atB; rw [hb0, hs]; simp
        have cells : ∀ b : Nat, b ≠ b0 → ∀ x, x < 7 → h2 118 0 (7 * b + x) = q 118 0 (7 * b + x) := by
          intro b hne x hx
          rw [r4 _ _ _ (by omega), hs_t (by omega)]
        have fh : cl (lv + 9) 26 [aA 3 0, aI (m : Int), aI (7 * (b0 : Int)), aI 0] (hset q 120 0 0 0) = ri res h2 := r1
        rw [if_pos hs] at st
        rcases r5 with ⟨rfl, ff⟩ | ⟨rfl, ss⟩
        · have hm14 : 2 ^ m < 2 ^ 14 := Nat.pow_lt_pow_right (by omega) (by omega)
          have hl14 : left < 2 ^ 14 := Nat.lt_of_lt_of_le (lt_tb (fun n hn => (i3 n hn).2.1)) (Nat.pow_le_pow_right (by omega) hN)
          have ob : ior (left : Int) (ishl 1 (m : Int)) = ((left ||| 2 ^ m : Nat) : Int) := by rw [ishl_1 m (by omega), ior_n (by omega) (by omega)]
          refine ⟨(left ||| 2 ^ m, h2), ?_, fin (left ||| 2 ^ m) h2 a1 a2 (fun n hn => ?_) (fun n hn => by rw [tb_or]; simp; omega) (fun b hb => ?_)⟩
          · try simp only
            rw [em, ez, hd_25_36]
            simp (disch := omega) only [x_6_0, x_4_2, x_36, x_1, x_7_3_I, x_7_3_A, x_7_3_U, x_61, x_4_3, x_65, x_34, x_39_118, x_39_134, x_10_3_I, x_10_3_A, x_10_3_U, x_60, x_6_1, x_33, x_12, x_7_4_I, x_7_4_A, x_7_4_U, x_4_4, x_70, x_79_2_7_d0, x_79_2_7_d1, x_79_2_7_d2, x_79_2_7_d3, x_79_2_7_d4, x_68, x_38_118, x_38_134, x_13, x_79_4_3_d0, x_79_4_3_d1, x_79_4_3_d2, x_79_4_3_d3, x_79_4_3_d4, x_69, x_20, x_18, x_10_4_I, x_10_4_A, x_10_4_U, x_82, cb_ri, cb_rl, cb_rv, cb_th, cb_ite, ps_s, ps_n, u_25_0, u_25_26, u_25_82, u_25_88, st, hs_t, q34, tn, w32_id, fh, ob, Int.reduceEq, Int.reduceLT, Int.reduceLE, reduceIte, Int.reduceAdd, Int.reduceSub, Int.reduceMul, Int.reduceNeg, Int.reduceToNat, Bool.false_eq_true, eq_self, if_pos, if_neg]
          · rw [tb_or, Bool.or_eq_true] at hn
            rcases hn with z | z
            · exact Or.inl z
            · exact Or.inr ⟨by simpa [eq_comm] using z, hs⟩
          · by_cases eb : b = b0
            · subst eb
              rw [em1] at k0
              exact ⟨_, KI_rej k0 ff (fun y => by rw [tb_or]; congr 1; exact decide_eq_decide.mpr eq_comm)⟩
            · obtain ⟨⟨C, kC⟩, -⟩ := i4 b hb
              rw [em1] at kC
              refine ⟨C, KI_cg (cells b eb) (fun y hy => ?_) (KI_skip kC (oth b eb))⟩
              rw [tb_or]
              have : y ≠ m := fun e => by rw [e, oth b eb] at hy; cases hy
              simp; omega
        · refine ⟨(left, h2), ?_, fin left h2 a1 a2 (fun n hn => Or.inl hn) (fun n hn => rfl) (fun b hb => ?_)⟩
          · try simp only
            rw [em, ez, hd_25_36]
            simp (disch := omega) only [x_6_0, x_4_2, x_36, x_1, x_7_3_I, x_7_3_A, x_7_3_U, x_61, x_4_3, x_65, x_34, x_39_118, x_39_134, x_10_3_I, x_10_3_A, x_10_3_U, x_60, x_6_1, x_33, x_12, x_7_4_I, x_7_4_A, x_7_4_U, x_4_4, x_70, x_79_2_7_d0, x_79_2_7_d1, x_79_2_7_d2, x_79_2_7_d3, x_79_2_7_d4, x_68, x_38_118, x_38_134, x_13, x_79_4_3_d0, x_79_4_3_d1, x_79_4_3_d2, x_79_4_3_d3, x_79_4_3_d4, x_69, x_20, x_18, x_10_4_I, x_10_4_A, x_10_4_U, x_82, cb_ri, cb_rl, cb_rv, cb_th, cb_ite, ps_s, ps_n, u_25_0, u_25_26, u_25_82, u_25_88, st, hs_t, q34, tn, w32_id, fh, Int.reduceEq, Int.reduceLT, Int.reduceLE, reduceIte, Int.reduceAdd, Int.reduceSub, Int.reduceMul, Int.reduceNeg, Int.reduceToNat, Bool.false_eq_true, eq_self, if_pos, if_neg]
          · by_cases eb : b = b0
            · subst eb
              rw [em1] at k0
              exact ⟨_, KI_acc k0 ss own nom hmN⟩
            · obtain ⟨⟨C, kC⟩, -⟩ := i4 b hb
              rw [em1] at kC
              exact ⟨C, KI_cg (cells b eb) (fun y hy => rfl) (KI_skip kC (oth b eb))⟩
      · rw [if_neg hs] at st
        refine ⟨(left, q), ?_, fin left q i1 i2 (fun n hn => Or.inl hn) (fun n hn => rfl) (fun b hb => ?_)⟩
        · try simp only
          rw [em, ez, hd_25_36]
          simp (disch := omega) only [x_6_0, x_4_2, x_36, x_1, x_7_3_I, x_7_3_A, x_7_3_U, x_61, x_4_3, x_65, x_34, x_39_118, x_39_134, x_10_3_I, x_10_3_A, x_10_3_U, x_60, x_6_1, x_33, x_12, x_7_4_I, x_7_4_A, x_7_4_U, x_4_4, x_70, x_79_2_7_d0, x_79_2_7_d1, x_79_2_7_d2, x_79_2_7_d3, x_79_2_7_d4, x_68, x_38_118, x_38_134, x_13, x_79_4_3_d0, x_79_4_3_d1, x_79_4_3_d2, x_79_4_3_d3, x_79_4_3_d4, x_69, x_20, x_18, x_10_4_I, x_10_4_A, x_10_4_U, x_82, cb_ri, cb_rl, cb_rv, cb_th, cb_ite, ps_s, ps_n, u_25_0, u_25_26, u_25_82, u_25_88, st, w32_id, Int.reduceEq, Int.reduceLT, Int.reduceLE, reduceIte, Int.reduceAdd, Int.reduceSub, Int.reduceMul, Int.reduceNeg, Int.reduceToNat, Bool.false_eq_true, eq_self, if_pos, if_neg]
        · obtain ⟨⟨C, kC⟩, -⟩ := i4 b hb
          rw [em1] at kC
          exact ⟨C, KI_skip kC (by unfold atB; rw [Bool.eq_false_iff.mpr hs]; rfl)⟩
    · rintro ⟨left, q⟩ ⟨i1, i2, i3, i4⟩
      simp only at i1 i2 i3 i4 ⊢
      have hl := lt_tb (N := N) (fun n hn => (i3 n hn).2.1)
      refine ⟨fun n => left.testBit n, q, ?_, fun b hb => ?_, fun n hn => (i3 n hn).2, i1⟩
      · rw [bsN_tb hl, show (N : Int) - 1 - (N : Int) = -1 by omega, hd_25_36]
        simp (disch := omega) only [x_6_0, x_4_2, x_36, x_1, x_7_3_I, x_7_3_A, x_7_3_U, x_61, x_4_3, x_65, x_34, x_39_118, x_39_134, x_10_3_I, x_10_3_A, x_10_3_U, x_60, x_6_1, x_33, x_12, x_7_4_I, x_7_4_A, x_7_4_U, x_4_4, x_70, x_79_2_7_d0, x_79_2_7_d1, x_79_2_7_d2, x_79_2_7_d3, x_79_2_7_d4, x_68, x_38_118, x_38_134, x_13, x_79_4_3_d0, x_79_4_3_d1, x_79_4_3_d2, x_79_4_3_d3, x_79_4_3_d4, x_69, x_20, x_18, x_10_4_I, x_10_4_A, x_10_4_U, x_82, cb_ri, cb_rl, cb_rv, cb_th, cb_ite, ps_s, ps_n, u_25_0, u_25_26, u_25_82, u_25_88, Int.reduceEq, Int.reduceLT, Int.reduceLE, reduceIte, Int.reduceAdd, Int.reduceSub, Int.reduceMul, Int.reduceNeg, Int.reduceToNat, Bool.false_eq_true, eq_self, if_pos, if_neg]
      · obtain ⟨⟨C, kC⟩, dm⟩ := i4 b hb
        rw [Nat.sub_self] at kC dm
        exact ⟨KI_ex kC, fun g' hg' m hm => dm g' hg' m (Nat.zero_le _) hm⟩
    · refine ⟨hg, g9, fun n hn => by simp at hn, fun b hb => ⟨⟨fun _ => false, ?_⟩, fun g' _ m h1 h2 => ?_⟩⟩
      · rw [Nat.sub_zero]; exact KI_none (fun x hx => g8 _ (by omega))
      · have : m = N := by omega
        subst this
        rw [cntF_e, cntF_e]
        exact Nat.le_refl _
  have one := loop_p (S := Hp) (F := fun j (q : Hp) => run (lv + 9) 25 7 [aA 3 0, aA 7 s, aI (aw : Int), aI (j : Int), none] [] q)
    (I := fun j q => (∀ tt k i, ¬ lvFr tt k → q tt k i = h tt k i) ∧ q 119 0 0 = (aw : Int) ∧ ∀ i, i < j → q 118 0 i = -1)
    (Q := fun r => ∃ (lf : Nat → Bool) (h' : Hp), r = ri ((bsN lf N : Nat) : Int) h' ∧ (∀ b : Nat, b < 12 → LVs (alB cn aw) (atB M (b : Int)) N lf) ∧ (∀ n, lf n = true → n < N ∧ stB M n = true) ∧ ∀ tt k i, ¬ lvFr tt k → h' tt k i = h tt k i) (N := 84) ?_ ?_ (hset h 119 0 0 (aw : Int)) ?_
  · rw [in_25]
    simp (disch := omega) only [x_6_0, x_4_2, x_36, x_1, x_7_3_I, x_7_3_A, x_7_3_U, x_61, x_4_3, x_65, x_34, x_39_118, x_39_134, x_10_3_I, x_10_3_A, x_10_3_U, x_60, x_6_1, x_33, x_12, x_7_4_I, x_7_4_A, x_7_4_U, x_4_4, x_70, x_79_2_7_d0, x_79_2_7_d1, x_79_2_7_d2, x_79_2_7_d3, x_79_2_7_d4, x_68, x_38_118, x_38_134, x_13, x_79_4_3_d0, x_79_4_3_d1, x_79_4_3_d2, x_79_4_3_d3, x_79_4_3_d4, x_69, x_20, x_18, x_10_4_I, x_10_4_A, x_10_4_U, x_82, cb_ri, cb_rl, cb_rv, cb_th, cb_ite, ps_s, ps_n, u_25_0, u_25_26, u_25_82, u_25_88]
    exact one
  · rintro j q hj ⟨i1, i2, i3⟩
    refine ⟨hset q 118 0 j (-1), ?_, ?_, ?_, ?_⟩
    · try simp only
      rw [hd_25_7]
      simp (disch := omega) only [x_6_0, x_4_2, x_36, x_1, x_7_3_I, x_7_3_A, x_7_3_U, x_61, x_4_3, x_65, x_34, x_39_118, x_39_134, x_10_3_I, x_10_3_A, x_10_3_U, x_60, x_6_1, x_33, x_12, x_7_4_I, x_7_4_A, x_7_4_U, x_4_4, x_70, x_79_2_7_d0, x_79_2_7_d1, x_79_2_7_d2, x_79_2_7_d3, x_79_2_7_d4, x_68, x_38_118, x_38_134, x_13, x_79_4_3_d0, x_79_4_3_d1, x_79_4_3_d2, x_79_4_3_d3, x_79_4_3_d4, x_69, x_20, x_18, x_10_4_I, x_10_4_A, x_10_4_U, x_82, cb_ri, cb_rl, cb_rv, cb_th, cb_ite, ps_s, ps_n, u_25_0, u_25_26, u_25_82, u_25_88, tn, w32_id, ci, Int.reduceEq, Int.reduceLT, Int.reduceLE, reduceIte, Int.reduceAdd, Int.reduceSub, Int.reduceMul, Int.reduceNeg, Int.reduceToNat, Bool.false_eq_true, eq_self, if_pos, if_neg]
    · intro tt k i hf
      rw [hs_o (by unfold lvFr at hf; omega)]
      exact i1 tt k i hf
    · rw [hs_t (by omega)]; exact i2
    · intro i hi
      by_cases e : i = j
      · rw [e, hs_eq]
      · rw [hs_i e]; exact i3 i (by omega)
  · rintro q ⟨i1, i2, i3⟩
    have hn : q 140 s 0 = (N : Int) := by rw [i1 _ _ _ (by unfold lvFr; omega)]; exact R.1
    obtain ⟨lf, h', e, rest⟩ := two q i1 i2 i3
    refine ⟨lf, h', ?_, rest⟩
    rw [← e]
    try simp only
    rw [hd_25_7]
    simp (disch := omega) only [x_6_0, x_4_2, x_36, x_1, x_7_3_I, x_7_3_A, x_7_3_U, x_61, x_4_3, x_65, x_34, x_39_118, x_39_134, x_10_3_I, x_10_3_A, x_10_3_U, x_60, x_6_1, x_33, x_12, x_7_4_I, x_7_4_A, x_7_4_U, x_4_4, x_70, x_79_2_7_d0, x_79_2_7_d1, x_79_2_7_d2, x_79_2_7_d3, x_79_2_7_d4, x_68, x_38_118, x_38_134, x_13, x_79_4_3_d0, x_79_4_3_d1, x_79_4_3_d2, x_79_4_3_d3, x_79_4_3_d4, x_69, x_20, x_18, x_10_4_I, x_10_4_A, x_10_4_U, x_82, cb_ri, cb_rl, cb_rv, cb_th, cb_ite, ps_s, ps_n, u_25_0, u_25_26, u_25_82, u_25_88, hn, w32_id, Int.reduceEq, Int.reduceLT, Int.reduceLE, reduceIte, Int.reduceAdd, Int.reduceSub, Int.reduceMul, Int.reduceNeg, Int.reduceToNat, Bool.false_eq_true, eq_self, if_pos, if_neg]
  · refine ⟨fun tt k i hf => by rw [hs_o (by unfold lvFr at hf; omega)], hs_eq _ _ _ _ _, fun i hi => by omega⟩
