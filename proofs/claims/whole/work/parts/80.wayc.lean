/-! THE CLASS: the way of a beat: its notes, its hands. -/
def ahF (ab : Nat → Nat → Bool) (H : Nat) (l : List Nat) : Nat := l.foldl (fun a n => a ||| bsN (ab n) H) 0
theorem ahF_a (ab : Nat → Nat → Bool) (H : Nat) (l : List Nat) (n : Nat) : ahF ab H (l ++ [n]) = ahF ab H l ||| bsN (ab n) H := by unfold ahF; rw [List.foldl_append]; rfl
theorem ahF_lt (ab : Nat → Nat → Bool) {H : Nat} (hH : H ≤ 6) (l : List Nat) : ahF ab H l < 64 := by
  have key : ∀ (l : List Nat) (a : Nat), a < 2 ^ 6 → l.foldl (fun a n => a ||| bsN (ab n) H) a < 2 ^ 6 := by
    intro l
    induction l with
    | nil => intro a h; exact h
    | cons n l ih => intro a h; exact ih _ (Nat.or_lt_two_pow h (bsN_mono (ab n) hH))
  exact key l 0 (by omega)
theorem take_s (cs : List Nat) {k : Nat} (h : k < cs.length) : cs.take (k + 1) = cs.take k ++ [cs.getD k 0] := by
  rw [List.take_succ, List.getElem?_eq_getElem h, List.getD_eq_getElem?_getD, List.getElem?_eq_getElem h]; rfl
def gwFr (tt k : Nat) : Prop := (k = 0 ∧ 159 ≤ tt ∧ tt ≤ 165) ∨ lwFr 0 tt k
/-- what gather has gathered of these notes -/
def GWy (q : Hp) (ab : Nat → Nat → Bool) (fr : Nat → Nat → Int) (H : Nat) (l : List Nat) : Prop := q 164 0 0 = (l.length : Int) ∧ (∀ k, k < l.length → q 159 0 k = ((l.getD k 0 : Nat) : Int) ∧ q 160 0 k = ((bsN (ab (l.getD k 0)) H : Nat) : Int) ∧ ∀ i, i < H → q 161 0 (6 * k + i) = fr (l.getD k 0) i) ∧ ∀ k, k ≤ l.length → q 162 0 k = ((ahF ab H (l.take k) : Nat) : Int)
theorem gatherW_c (lv s H N : Nat) (b : Int) (M : Nat → Int) (h : Hp) (ab : Nat → Nat → Bool) (fr : Nat → Nat → Int) (B : AbS h s H N ab) (hH : H ≤ 6) (R : RN h s M N) (gN : ∀ n, n < N → NV M n) (hfr : ∀ n, n < N → ∀ i, i < H → fr n i = dsV M n (h 130 s i) ∧ 0 ≤ h 130 s i ∧ h 130 s i ≤ 63) :
    ∃ h', cl (lv + 4) 77 [aA 10 0, aA 7 s, aI b] h = rv h' ∧ GWy h' ab fr H (chL (atB M b) N) ∧ (∀ n, n < N → h' 165 0 n = -1) ∧ ∀ tt kk j, ¬ gwFr tt kk → h' tt kk j = h tt kk j := by
  have hN := R.2.1
  obtain ⟨b1, b2, b3, b4⟩ := B.1
  have na := notesAt_c (lv + 1) s N M b h R
  have outer := loop_p (S := AV × Hp) (F := fun n (q : AV × Hp) => run (lv + 3) 77 21 [aA 10 0, aA 7 s, aI b, aI ((bsN (atB M b) N : Nat) : Int), aI (n : Int), q.1] [] q.2)
    (I := fun n q => GWy q.2 ab fr H (chL (atB M b) n) ∧ (∀ n', n' < n → q.2 165 0 n' = -1) ∧ ∀ tt kk j, ¬ gwFr tt kk → q.2 tt kk j = h tt kk j)
    (Q := fun r => ∃ h', r = rv h' ∧ GWy h' ab fr H (chL (atB M b) N) ∧ (∀ n, n < N → h' 165 0 n = -1) ∧ ∀ tt kk j, ¬ gwFr tt kk → h' tt kk j = h tt kk j) (N := N) ?_ ?_ (none, hset (hset h 164 0 0 0) 162 0 0 0) ?_
  · rw [in_77]
    simp (disch := omega) only [x_6_1, x_4_2, x_79_2_7_d0, x_79_2_7_d1, x_79_2_7_d2, x_79_2_7_d3, x_79_2_7_d4, x_7_3_I, x_7_3_A, x_7_3_U, x_6_0, x_1, x_36, x_34, x_39_130, x_39_135, x_39_159, x_39_160, x_39_161, x_39_162, x_39_165, x_7_4_I, x_7_4_A, x_7_4_U, x_61, x_4_4, x_33, x_65, x_4_3, x_21, x_17, x_68, x_7_5_I, x_7_5_A, x_7_5_U, x_4_5, x_48, x_38_130, x_38_135, x_38_159, x_38_160, x_38_161, x_38_162, x_38_165, x_35_0, x_79_4_1_d0, x_79_4_1_d1, x_79_4_1_d2, x_79_4_1_d3, x_79_4_1_d4, x_20, x_60, x_18, x_13, x_11, x_12, x_80_1_d0, x_80_1_d1, x_80_1_d2, x_80_1_d3, x_80_1_d4, x_10_5_I, x_10_5_A, x_10_5_U, x_47_I, x_47_A, x_10_4_I, x_10_4_A, x_10_4_U, x_83, cb_ri, cb_rl, cb_rv, cb_th, cb_ite, ps_s, ps_n, u_77_0, u_77_119, u_77_120, u_77_161, u_77_201, u_77_207, na, Int.reduceEq, Int.reduceLT, Int.reduceLE, reduceIte, Int.reduceAdd, Int.reduceSub, Int.reduceMul, Int.reduceNeg, Int.reduceToNat, Bool.false_eq_true, eq_self, if_pos, if_neg]
    exact outer
  · rintro n ⟨v5, q⟩ hn ⟨⟨i1, i2, i3⟩, i4, i5⟩
    simp only at i1 i2 i3 i4 i5 ⊢
    have bt := bit_n (a := bsN (atB M b) N) (i := n) (by omega) (Nat.lt_of_lt_of_le (bsN_mono (atB M b) hN) (by omega))
    rw [bsN_bit, show (decide (n < N) && atB M b n) = atB M b n by simp [hn]] at bt
    have n40 : q 140 s 0 = (N : Int) := by rw [i5 _ _ _ (by unfold gwFr lwFr; omega)]; exact b3
    have lle : (chL (atB M b) n).length ≤ n := by rw [chL_len]; exact cnt_le _ _
    generalize hl : chL (atB M b) n = l at i1 i2 i3 lle
    by_cases c : atB M b n = true
    · rw [if_pos c] at bt
      have el : chL (atB M b) (n + 1) = l ++ [n] := by rw [chL_s, if_pos c, hl]
      -- the hands
      have inner : ∃ h2, run (lv + 3) 77 71 [aA 10 0, aA 7 s, aI b, aI ((bsN (atB M b) N : Nat) : Int), aI (n : Int), aI 0] [] (hset (hset (hset q 165 0 n (-1)) 159 0 l.length (n : Int)) 160 0 l.length 0) = run (lv + 3) 77 161 [aA 10 0, aA 7 s, aI b, aI ((bsN (atB M b) N : Nat) : Int), aI (n : Int), aI (H : Int)] [] h2 ∧ h2 160 0 l.length = ((bsN (ab n) H : Nat) : Int) ∧ (∀ i, i < H → h2 161 0 (6 * l.length + i) = fr n i) ∧ ∀ tt kk j, ¬ (lwFr 0 tt kk ∨ (kk = 0 ∧ ((tt = 160 ∧ j = l.length) ∨ (tt = 161 ∧ 6 * l.length ≤ j)))) → h2 tt kk j = (hset (hset q 165 0 n (-1)) 159 0 l.length (n : Int)) tt kk j := by
        refine loop_p (S := Hp) (F := fun i (g : Hp) => run (lv + 3) 77 71 [aA 10 0, aA 7 s, aI b, aI ((bsN (atB M b) N : Nat) : Int), aI (n : Int), aI (i : Int)] [] g)
          (I := fun i g => g 160 0 l.length = ((bsN (ab n) i : Nat) : Int) ∧ (∀ i', i' < i → g 161 0 (6 * l.length + i') = fr n i') ∧ ∀ tt kk j, ¬ (lwFr 0 tt kk ∨ (kk = 0 ∧ ((tt = 160 ∧ j = l.length) ∨ (tt = 161 ∧ 6 * l.length ≤ j)))) → g tt kk j = (hset (hset q 165 0 n (-1)) 159 0 l.length (n : Int)) tt kk j)
          (Q := fun r => ∃ h2, r = run (lv + 3) 77 161 [aA 10 0, aA 7 s, aI b, aI ((bsN (atB M b) N : Nat) : Int), aI (n : Int), aI (H : Int)] [] h2 ∧ h2 160 0 l.length = ((bsN (ab n) H : Nat) : Int) ∧ (∀ i, i < H → h2 161 0 (6 * l.length + i) = fr n i) ∧ ∀ tt kk j, ¬ (lwFr 0 tt kk ∨ (kk = 0 ∧ ((tt = 160 ∧ j = l.length) ∨ (tt = 161 ∧ 6 * l.length ≤ j)))) → h2 tt kk j = (hset (hset q 165 0 n (-1)) 159 0 l.length (n : Int)) tt kk j) (N := H) ?_ ?_ _ ⟨hs_eq _ _ _ _ _, fun i' hi' => by omega, fun tt kk j hf => hs_o (by omega)⟩
        · rintro i g hi ⟨k1, k2, k3⟩
          have gq : ∀ tt kk j, (tt < 159 ∨ 165 < tt) → ¬ lwFr 0 tt kk → g tt kk j = h tt kk j := fun tt kk j ht hf => by
            rw [k3 tt kk j (by unfold lwFr at hf ⊢; omega), hs_o (by omega), hs_o (by omega)]
            exact i5 tt kk j (by unfold lwFr at hf; unfold gwFr lwFr; omega)
          have g64 : g 164 0 0 = (l.length : Int) := by rw [k3 _ _ _ (by unfold lwFr; omega), hs_t (by omega), hs_t (by omega)]; exact i1
          have g39 : g 139 s 0 = (H : Int) := by rw [gq _ _ _ (by omega) (by unfold lwFr; omega)]; exact b1
          have g35 : g 135 s n = M (50 + 4 * n + 1) := by rw [gq _ _ _ (by omega) (by unfold lwFr; omega)]; exact (R.2.2.2 n hn).2.1
          have g30 : g 130 s i = h 130 s i := gq _ _ _ (by omega) (by unfold lwFr; omega)
          obtain ⟨f1, f2, f3⟩ := hfr n hn i hi
          obtain ⟨-, key, -⟩ := gN n hn
          obtain ⟨g', e1, e2⟩ := B.2 lv i n g hi hn (fun tt kk j hq => gq tt kk j (by unfold qT at hq; omega) (by unfold qT at hq; unfold lwFr; omega))
          have ab1 := abs_c (lv + 2)  (M (50 + 4 * n + 1) - h 130 s i) (hset g' 160 0 l.length ((bsN (ab n) (i + 1) : Nat) : Int)) (by omega) (by omega)
          have ab1 : cl (lv + 3) 320 [aI (M (50 + 4 * n + 1) - h 130 s i)] (hset g' 160 0 l.length ((bsN (ab n) (i + 1) : Nat) : Int)) = ri (fr n i) (hset g' 160 0 l.length ((bsN (ab n) (i + 1) : Nat) : Int)) := by rw [f1]; exact ab1
          have p64 : g' 164 0 0 = (l.length : Int) := by rw [e2 _ _ _ (by unfold lwFr; omega)]; exact g64
          have p35 : g' 135 s n = M (50 + 4 * n + 1) := by rw [e2 _ _ _ (by unfold lwFr; omega)]; exact g35
          have p30 : g' 130 s i = h 130 s i := by rw [e2 _ _ _ (by unfold lwFr; omega)]; exact g30
          have ei : ((l.length : Int) * 6 + (i : Int)).toNat = 6 * l.length + i := by omega
          refine ⟨hset (hset g' 160 0 l.length ((bsN (ab n) (i + 1) : Nat) : Int)) 161 0 (6 * l.length + i) (fr n i), ?_, ?_, fun i' hi' => ?_, fun tt kk j hf => ?_⟩
          · try simp only
            rw [hd_77_71]
            by_cases cc : ab n i = true
            · rw [cc] at e1
              have e1 : _ = ri 1 g' := e1
              have ob := bs_or (ab n) (show i < 31 by omega)
              rw [← bs_s (ab n) cc] at ob
              simp (disch := omega) only [x_6_1, x_4_2, x_79_2_7_d0, x_79_2_7_d1, x_79_2_7_d2, x_79_2_7_d3, x_79_2_7_d4, x_7_3_I, x_7_3_A, x_7_3_U, x_6_0, x_1, x_36, x_34, x_39_130, x_39_135, x_39_159, x_39_160, x_39_161, x_39_162, x_39_165, x_7_4_I, x_7_4_A, x_7_4_U, x_61, x_4_4, x_33, x_65, x_4_3, x_21, x_17, x_68, x_7_5_I, x_7_5_A, x_7_5_U, x_4_5, x_48, x_38_130, x_38_135, x_38_159, x_38_160, x_38_161, x_38_162, x_38_165, x_35_0, x_79_4_1_d0, x_79_4_1_d1, x_79_4_1_d2, x_79_4_1_d3, x_79_4_1_d4, x_20, x_60, x_18, x_13, x_11, x_12, x_80_1_d0, x_80_1_d1, x_80_1_d2, x_80_1_d3, x_80_1_d4, x_10_5_I, x_10_5_A, x_10_5_U, x_47_I, x_47_A, x_10_4_I, x_10_4_A, x_10_4_U, x_83, cb_ri, cb_rl, cb_rv, cb_th, cb_ite, ps_s, ps_n, u_77_0, u_77_119, u_77_120, u_77_161, u_77_201, u_77_207, g39, g64, tn, k1, e1, ob, hs_t, p64, p35, p30, ab1, ei, Int.reduceEq, Int.reduceLT, Int.reduceLE, reduceIte, Int.reduceAdd, Int.reduceSub, Int.reduceMul, Int.reduceNeg, Int.reduceToNat, Bool.false_eq_true, eq_self, if_pos, if_neg, ci, w32_id]
            · rw [Bool.eq_false_iff.mpr cc] at e1
              have e1 : _ = ri 0 g' := e1
              have ob : ior ((bsN (ab n) i : Nat) : Int) 0 = ((bsN (ab n) (i + 1) : Nat) : Int) := by
                rw [show (0 : Int) = ((0 : Nat) : Int) from rfl, ior_n (bsN_mono _ (by omega)) (by omega), Nat.or_zero, bs_f _ (Bool.eq_false_iff.mpr cc)]
              simp (disch := omega) only [x_6_1, x_4_2, x_79_2_7_d0, x_79_2_7_d1, x_79_2_7_d2, x_79_2_7_d3, x_79_2_7_d4, x_7_3_I, x_7_3_A, x_7_3_U, x_6_0, x_1, x_36, x_34, x_39_130, x_39_135, x_39_159, x_39_160, x_39_161, x_39_162, x_39_165, x_7_4_I, x_7_4_A, x_7_4_U, x_61, x_4_4, x_33, x_65, x_4_3, x_21, x_17, x_68, x_7_5_I, x_7_5_A, x_7_5_U, x_4_5, x_48, x_38_130, x_38_135, x_38_159, x_38_160, x_38_161, x_38_162, x_38_165, x_35_0, x_79_4_1_d0, x_79_4_1_d1, x_79_4_1_d2, x_79_4_1_d3, x_79_4_1_d4, x_20, x_60, x_18, x_13, x_11, x_12, x_80_1_d0, x_80_1_d1, x_80_1_d2, x_80_1_d3, x_80_1_d4, x_10_5_I, x_10_5_A, x_10_5_U, x_47_I, x_47_A, x_10_4_I, x_10_4_A, x_10_4_U, x_83, cb_ri, cb_rl, cb_rv, cb_th, cb_ite, ps_s, ps_n, u_77_0, u_77_119, u_77_120, u_77_161, u_77_201, u_77_207, g39, g64, tn, k1, e1, ob, hs_t, p64, p35, p30, ab1, ei, Int.reduceEq, Int.reduceLT, Int.reduceLE, reduceIte, Int.reduceAdd, Int.reduceSub, Int.reduceMul, Int.reduceNeg, Int.reduceToNat, Bool.false_eq_true, eq_self, if_pos, if_neg, ci, w32_id]
          · rw [hs_t (by omega), hs_eq]
          · by_cases e : i' = i
            · rw [e, hs_eq]
            · rw [hs_i (by omega), hs_t (by omega), e2 _ _ _ (by unfold lwFr; omega)]; exact k2 i' (by omega)
          · rw [hs_o (by omega), hs_o (by omega), e2 _ _ _ (fun z => hf (Or.inl z))]
            exact k3 tt kk j hf
        · rintro g ⟨k1, k2, k3⟩
          have g39 : g 139 s 0 = (H : Int) := by rw [k3 _ _ _ (by unfold lwFr; omega), hs_t (by omega), hs_t (by omega), i5 _ _ _ (by unfold gwFr lwFr; omega)]; exact b1
          refine ⟨g, ?_, k1, k2, k3⟩
          try simp only
          rw [hd_77_71]
          by_cases c6 : H = 6
          · simp (disch := omega) only [x_6_1, x_4_2, x_79_2_7_d0, x_79_2_7_d1, x_79_2_7_d2, x_79_2_7_d3, x_79_2_7_d4, x_7_3_I, x_7_3_A, x_7_3_U, x_6_0, x_1, x_36, x_34, x_39_130, x_39_135, x_39_159, x_39_160, x_39_161, x_39_162, x_39_165, x_7_4_I, x_7_4_A, x_7_4_U, x_61, x_4_4, x_33, x_65, x_4_3, x_21, x_17, x_68, x_7_5_I, x_7_5_A, x_7_5_U, x_4_5, x_48, x_38_130, x_38_135, x_38_159, x_38_160, x_38_161, x_38_162, x_38_165, x_35_0, x_79_4_1_d0, x_79_4_1_d1, x_79_4_1_d2, x_79_4_1_d3, x_79_4_1_d4, x_20, x_60, x_18, x_13, x_11, x_12, x_80_1_d0, x_80_1_d1, x_80_1_d2, x_80_1_d3, x_80_1_d4, x_10_5_I, x_10_5_A, x_10_5_U, x_47_I, x_47_A, x_10_4_I, x_10_4_A, x_10_4_U, x_83, cb_ri, cb_rl, cb_rv, cb_th, cb_ite, ps_s, ps_n, u_77_0, u_77_119, u_77_120, u_77_201, u_77_207, g39, Int.reduceEq, Int.reduceLT, Int.reduceLE, reduceIte, Int.reduceAdd, Int.reduceSub, Int.reduceMul, Int.reduceNeg, Int.reduceToNat, Bool.false_eq_true, eq_self, if_pos, if_neg]
          · simp (disch := omega) only [x_6_1, x_4_2, x_79_2_7_d0, x_79_2_7_d1, x_79_2_7_d2, x_79_2_7_d3, x_79_2_7_d4, x_7_3_I, x_7_3_A, x_7_3_U, x_6_0, x_1, x_36, x_34, x_39_130, x_39_135, x_39_159, x_39_160, x_39_161, x_39_162, x_39_165, x_7_4_I, x_7_4_A, x_7_4_U, x_61, x_4_4, x_33, x_65, x_4_3, x_21, x_17, x_68, x_7_5_I, x_7_5_A, x_7_5_U, x_4_5, x_48, x_38_130, x_38_135, x_38_159, x_38_160, x_38_161, x_38_162, x_38_165, x_35_0, x_79_4_1_d0, x_79_4_1_d1, x_79_4_1_d2, x_79_4_1_d3, x_79_4_1_d4, x_20, x_60, x_18, x_13, x_11, x_12, x_80_1_d0, x_80_1_d1, x_80_1_d2, x_80_1_d3, x_80_1_d4, x_10_5_I, x_10_5_A, x_10_5_U, x_47_I, x_47_A, x_10_4_I, x_10_4_A, x_10_4_U, x_83, cb_ri, cb_rl, cb_rv, cb_th, cb_ite, ps_s, ps_n, u_77_0, u_77_119, u_77_120, u_77_201, u_77_207, g39, Int.reduceEq, Int.reduceLT, Int.reduceLE, reduceIte, Int.reduceAdd, Int.reduceSub, Int.reduceMul, Int.reduceNeg, Int.reduceToNat, Bool.false_eq_true, eq_self, if_pos, if_neg]
      obtain ⟨h2, e1, e2, e3, e4⟩ := inner
      have p64 : h2 164 0 0 = (l.length : Int) := by rw [e4 _ _ _ (by unfold lwFr; omega), hs_t (by omega), hs_t (by omega)]; exact i1
      have p62 : h2 162 0 l.length = ((ahF ab H l : Nat) : Int) := by
        rw [e4 _ _ _ (by unfold lwFr; omega), hs_t (by omega), hs_t (by omega), i3 _ (Nat.le_refl _), List.take_length]
      have al := ahF_lt ab hH l
      have cl6 := bsN_mono (ab n) (m := 6) hH
      have ob : ior ((ahF ab H l : Nat) : Int) ((bsN (ab n) H : Nat) : Int) = ((ahF ab H (l ++ [n]) : Nat) : Int) := by rw [ahF_a, ior_n (by omega) (by omega)]
      refine ⟨(aI (H : Int), hset (hset h2 162 0 (l.length + 1) ((ahF ab H (l ++ [n]) : Nat) : Int)) 164 0 0 ((l.length : Int) + 1)), ?_, ?_, fun n' hn' => ?_, fun tt kk j hf => ?_⟩
      · try simp only
        rw [hd_77_21]
        simp (disch := omega) only [x_6_1, x_4_2, x_79_2_7_d0, x_79_2_7_d1, x_79_2_7_d2, x_79_2_7_d3, x_79_2_7_d4, x_7_3_I, x_7_3_A, x_7_3_U, x_6_0, x_1, x_36, x_34, x_39_130, x_39_135, x_39_159, x_39_160, x_39_161, x_39_162, x_39_165, x_7_4_I, x_7_4_A, x_7_4_U, x_61, x_4_4, x_33, x_65, x_4_3, x_21, x_17, x_68, x_7_5_I, x_7_5_A, x_7_5_U, x_4_5, x_48, x_38_130, x_38_135, x_38_159, x_38_160, x_38_161, x_38_162, x_38_165, x_35_0, x_79_4_1_d0, x_79_4_1_d1, x_79_4_1_d2, x_79_4_1_d3, x_79_4_1_d4, x_20, x_60, x_18, x_13, x_11, x_12, x_80_1_d0, x_80_1_d1, x_80_1_d2, x_80_1_d3, x_80_1_d4, x_10_5_I, x_10_5_A, x_10_5_U, x_47_I, x_47_A, x_10_4_I, x_10_4_A, x_10_4_U, x_83, cb_ri, cb_rl, cb_rv, cb_th, cb_ite, ps_s, ps_n, u_77_0, u_77_119, u_77_120, u_77_201, u_77_207, n40, tn, hs_t, i1, bt, Int.reduceEq, Int.reduceLT, Int.reduceLE, reduceIte, Int.reduceAdd, Int.reduceSub, Int.reduceMul, Int.reduceNeg, Int.reduceToNat, Bool.false_eq_true, eq_self, if_pos, if_neg]
        rw [e1]
        have ei : ((l.length : Int) + 1).toNat = l.length + 1 := by omega
        simp (disch := omega) only [x_6_1, x_4_2, x_79_2_7_d0, x_79_2_7_d1, x_79_2_7_d2, x_79_2_7_d3, x_79_2_7_d4, x_7_3_I, x_7_3_A, x_7_3_U, x_6_0, x_1, x_36, x_34, x_39_130, x_39_135, x_39_159, x_39_160, x_39_161, x_39_162, x_39_165, x_7_4_I, x_7_4_A, x_7_4_U, x_61, x_4_4, x_33, x_65, x_4_3, x_21, x_17, x_68, x_7_5_I, x_7_5_A, x_7_5_U, x_4_5, x_48, x_38_130, x_38_135, x_38_159, x_38_160, x_38_161, x_38_162, x_38_165, x_35_0, x_79_4_1_d0, x_79_4_1_d1, x_79_4_1_d2, x_79_4_1_d3, x_79_4_1_d4, x_20, x_60, x_18, x_13, x_11, x_12, x_80_1_d0, x_80_1_d1, x_80_1_d2, x_80_1_d3, x_80_1_d4, x_10_5_I, x_10_5_A, x_10_5_U, x_47_I, x_47_A, x_10_4_I, x_10_4_A, x_10_4_U, x_83, cb_ri, cb_rl, cb_rv, cb_th, cb_ite, ps_s, ps_n, u_77_0, u_77_119, u_77_120, u_77_161, u_77_201, u_77_207, p64, tn, p62, e2, ob, hs_t, ei, Int.reduceEq, Int.reduceLT, Int.reduceLE, reduceIte, Int.reduceAdd, Int.reduceSub, Int.reduceMul, Int.reduceNeg, Int.reduceToNat, Bool.false_eq_true, eq_self, if_pos, if_neg, ci, w32_id]
      · try simp only
        rw [el]
        refine ⟨by rw [hs_eq, List.length_append]; rfl, fun k hk => ?_, fun k hk => ?_⟩
        · rw [List.length_append] at hk
          have hk : k < l.length + 1 := hk
          rw [hs_t (by omega), hs_t (by omega), hs_t (by omega), hs_t (by omega)]
          by_cases ek : k = l.length
          · subst ek
            have eg : (l ++ [n]).getD l.length 0 = n := by rw [List.getD_eq_getElem?_getD, List.getElem?_append_right (Nat.le_refl _), Nat.sub_self]; rfl
            rw [eg]
            refine ⟨by rw [e4 _ _ _ (by unfold lwFr; omega), hs_eq], e2, fun i hi => ?_⟩
            rw [hs_t (by omega), hs_t (by omega)]
            exact e3 i hi
          · have eg : (l ++ [n]).getD k 0 = l.getD k 0 := by rw [List.getD_eq_getElem?_getD, List.getElem?_append_left (by omega), List.getD_eq_getElem?_getD]
            rw [eg]
            obtain ⟨z1, z2, z3⟩ := i2 k (by omega)
            refine ⟨by rw [e4 _ _ _ (by unfold lwFr; omega), hs_i ek, hs_t (by omega)]; exact z1, by rw [e4 _ _ _ (by unfold lwFr; omega), hs_t (by omega), hs_t (by omega)]; exact z2, fun i hi => ?_⟩
            rw [hs_t (by omega), hs_t (by omega), e4 _ _ _ (by unfold lwFr; omega), hs_t (by omega), hs_t (by omega)]
            exact z3 i hi
        · rw [List.length_append] at hk
          have hk : k ≤ l.length + 1 := hk
          rw [hs_t (by omega)]
          by_cases ek : k = l.length + 1
          · rw [ek, hs_eq, List.take_of_length_le (by rw [List.length_append]; exact Nat.le_refl _)]
          · rw [hs_i ek, e4 _ _ _ (by unfold lwFr; omega), hs_t (by omega), hs_t (by omega), i3 k (by omega), List.take_append_of_le_length (by omega)]
      · try simp only
        rw [hs_t (by omega), hs_t (by omega), e4 _ _ _ (by unfold lwFr; omega), hs_t (by omega)]
        by_cases en : n' = n
        · rw [en, hs_eq]
        · rw [hs_i en]; exact i4 n' (by omega)
      · try simp only
        have hf2 := hf
        unfold gwFr lwFr at hf2
        rw [hs_o (by omega), hs_o (by omega), e4 _ _ _ (by unfold lwFr; omega), hs_o (by omega), hs_o (by omega)]
        exact i5 tt kk j hf
    · rw [if_neg c] at bt
      have el : chL (atB M b) (n + 1) = l := by rw [chL_s, if_neg c, hl, List.append_nil]
      refine ⟨(v5, hset q 165 0 n (-1)), ?_, ?_, fun n' hn' => ?_, fun tt kk j hf => ?_⟩
      · try simp only
        rw [hd_77_21]
        simp (disch := omega) only [x_6_1, x_4_2, x_79_2_7_d0, x_79_2_7_d1, x_79_2_7_d2, x_79_2_7_d3, x_79_2_7_d4, x_7_3_I, x_7_3_A, x_7_3_U, x_6_0, x_1, x_36, x_34, x_39_130, x_39_135, x_39_159, x_39_160, x_39_161, x_39_162, x_39_165, x_7_4_I, x_7_4_A, x_7_4_U, x_61, x_4_4, x_33, x_65, x_4_3, x_21, x_17, x_68, x_7_5_I, x_7_5_A, x_7_5_U, x_4_5, x_48, x_38_130, x_38_135, x_38_159, x_38_160, x_38_161, x_38_162, x_38_165, x_35_0, x_79_4_1_d0, x_79_4_1_d1, x_79_4_1_d2, x_79_4_1_d3, x_79_4_1_d4, x_20, x_60, x_18, x_13, x_11, x_12, x_80_1_d0, x_80_1_d1, x_80_1_d2, x_80_1_d3, x_80_1_d4, x_10_5_I, x_10_5_A, x_10_5_U, x_47_I, x_47_A, x_10_4_I, x_10_4_A, x_10_4_U, x_83, cb_ri, cb_rl, cb_rv, cb_th, cb_ite, ps_s, ps_n, u_77_0, u_77_119, u_77_120, u_77_161, u_77_201, u_77_207, n40, tn, hs_t, bt, Int.reduceEq, Int.reduceLT, Int.reduceLE, reduceIte, Int.reduceAdd, Int.reduceSub, Int.reduceMul, Int.reduceNeg, Int.reduceToNat, Bool.false_eq_true, eq_self, if_pos, if_neg, ci, w32_id]
      · try simp only
        rw [el]
        refine ⟨by rw [hs_t (by omega)]; exact i1, fun k hk => ?_, fun k hk => by rw [hs_t (by omega)]; exact i3 k hk⟩
        rw [hs_t (by omega), hs_t (by omega)]
        obtain ⟨z1, z2, z3⟩ := i2 k hk
        exact ⟨z1, z2, fun i hi => by rw [hs_t (by omega)]; exact z3 i hi⟩
      · try simp only
        by_cases en : n' = n
        · rw [en, hs_eq]
        · rw [hs_i en]; exact i4 n' (by omega)
      · try simp only
        rw [hs_o (by unfold gwFr at hf; omega)]
        exact i5 tt kk j hf
  · rintro ⟨v5, q⟩ ⟨i1, i4, i5⟩
    simp only at i1 i4 i5 ⊢
    have n40 : q 140 s 0 = (N : Int) := by rw [i5 _ _ _ (by unfold gwFr lwFr; omega)]; exact b3
    refine ⟨q, ?_, i1, i4, i5⟩
    rw [hd_77_21]
    simp (disch := omega) only [x_6_1, x_4_2, x_79_2_7_d0, x_79_2_7_d1, x_79_2_7_d2, x_79_2_7_d3, x_79_2_7_d4, x_7_3_I, x_7_3_A, x_7_3_U, x_6_0, x_1, x_36, x_34, x_39_130, x_39_135, x_39_159, x_39_160, x_39_161, x_39_162, x_39_165, x_7_4_I, x_7_4_A, x_7_4_U, x_61, x_4_4, x_33, x_65, x_4_3, x_21, x_17, x_68, x_7_5_I, x_7_5_A, x_7_5_U, x_4_5, x_48, x_38_130, x_38_135, x_38_159, x_38_160, x_38_161, x_38_162, x_38_165, x_35_0, x_79_4_1_d0, x_79_4_1_d1, x_79_4_1_d2, x_79_4_1_d3, x_79_4_1_d4, x_20, x_60, x_18, x_13, x_11, x_12, x_80_1_d0, x_80_1_d1, x_80_1_d2, x_80_1_d3, x_80_1_d4, x_10_5_I, x_10_5_A, x_10_5_U, x_47_I, x_47_A, x_10_4_I, x_10_4_A, x_10_4_U, x_83, cb_ri, cb_rl, cb_rv, cb_th, cb_ite, ps_s, ps_n, u_77_0, u_77_119, u_77_120, u_77_161, u_77_201, u_77_207, n40, Int.reduceEq, Int.reduceLT, Int.reduceLE, reduceIte, Int.reduceAdd, Int.reduceSub, Int.reduceMul, Int.reduceNeg, Int.reduceToNat, Bool.false_eq_true, eq_self, if_pos, if_neg]
  · try simp only
    refine ⟨⟨by rw [hs_t (by omega), hs_eq]; rfl, fun k hk => absurd hk (Nat.not_lt_zero _), fun k hk => ?_⟩, fun n' hn' => absurd hn' (Nat.not_lt_zero _), fun tt kk j hf => ?_⟩
    · have : k = 0 := Nat.le_zero.mp hk
      subst this
      rw [hs_eq]
      rfl
    · unfold gwFr at hf
      rw [hs_o (by omega), hs_o (by omega)]
