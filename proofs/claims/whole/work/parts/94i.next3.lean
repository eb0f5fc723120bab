/-! the answer of next -/
theorem fuF_s (v : Nat → Nat) : ∀ n, ((fuF v n).1 = -1 ∧ (fuF v n).2 = 0 ∧ ∀ b, b < n → v b = 0) ∨ (0 ≤ (fuF v n).1 ∧ (fuF v n).1 < (n : Int) ∧ 0 < (fuF v n).2 ∧ ∃ b, b < n ∧ 0 < v b) := by
  intro n
  induction n with
  | zero => exact Or.inl ⟨rfl, rfl, fun b hb => absurd hb (by omega)⟩
  | succ n ih =>
    simp only [fuF]
    by_cases c : (fuF v n).2 < v n
    · rw [if_pos c]
      exact Or.inr ⟨by show (0 : Int) ≤ (n : Int); omega, by show (n : Int) < ((n + 1 : Nat) : Int); omega, by show 0 < v n; omega, n, by omega, by omega⟩
    · rw [if_neg c]
      rcases ih with ⟨a, b, d⟩ | ⟨a, b, d, i, e1, e2⟩
      · refine Or.inl ⟨a, b, fun i hi => ?_⟩
        by_cases z : i = n
        · rw [z]; omega
        · exact d i (by omega)
      · exact Or.inr ⟨a, by omega, d, i, by omega, e2⟩
def nxR (T t : Nat → Int) (e L : Nat) : Nat → Int
  | 0 => -1
  | s + 1 => if (fuF (nvF T t e s L) 64).1 = -1 then nxR T t e L s else (fuF (nvF T t e s L) 64).1
theorem nx_big (T t : Nat → Int) (e L s : Nat) (h : L ≤ s) : nxR T t e L (s + 1) = nxR T t e L s := by
  show (if _ then _ else _) = _
  rw [if_pos]
  rcases fuF_s (nvF T t e s L) 64 with ⟨a, -⟩ | ⟨-, -, -, b, h1, h2⟩
  · exact a
  · exfalso
    have : nvF T t e s L b = 0 := by
      unfold nvF
      have z : ∀ n, n ≤ L → cnt (fun p => plB T t e s p && decide (T p = (b : Int))) n = 0 := by
        intro n
        induction n with
        | zero => intro _; rfl
        | succ n ih =>
          intro hn
          show cnt _ n + (if (plB T t e s n && decide (T n = (b : Int))) = true then 1 else 0) = 0
          rw [ih (by omega)]
          unfold plB
          rw [decide_eq_false (show ¬ s ≤ n by omega)]
          rfl
      exact z L (Nat.le_refl _)
    omega
theorem nx_min (T t : Nat → Int) (e L : Nat) : ∀ d, nxR T t e L (L + 1 + d) = nxR T t e L (L + 1) := by
  intro d
  induction d with
  | zero => rfl
  | succ d ih => rw [show L + 1 + (d + 1) = (L + 1 + d) + 1 by omega, nx_big _ _ _ _ _ (by omega)]; exact ih
theorem cnt_pz {P : Nat → Bool} : ∀ {n i : Nat}, i < n → P i = true → 0 < cnt P n := by
  intro n
  induction n with
  | zero => intro i h; omega
  | succ n ih =>
    intro i hi hp
    show 0 < cnt P n + (if P n = true then 1 else 0)
    by_cases c : i = n
    · rw [← c, if_pos hp]; omega
    · have := ih (i := i) (by omega) hp; omega
/-- no place, no key -/
theorem pl_nv (T t : Nat → Int) (e s L : Nat) (hT : ∀ j, j < L → 0 ≤ T j ∧ T j ≤ 63) : bsN (plB T t e s) L = 0 ↔ (fuF (nvF T t e s L) 64).1 = -1 := by
  have key : (∃ p, p < L ∧ plB T t e s p = true) ↔ bsN (plB T t e s) L ≠ 0 := by
    constructor
    · rintro ⟨p, h1, h2⟩ z
      have := bsN_bit (plB T t e s) L p
      rw [z, Nat.zero_testBit, h2, decide_eq_true h1] at this
      exact absurd this (by decide)
    · intro z
      cases ha : anyB (plB T t e s) L with
      | true => obtain ⟨p, h1, h2⟩ := anyB_iff.mp ha; exact ⟨p, h1, h2⟩
      | false =>
        exfalso
        apply z
        have : bsN (plB T t e s) L = bsN (fun _ => false) L := bsN_congr (fun i hi => by
          cases hb : plB T t e s i with
          | true => exact absurd (anyB_iff.mpr ⟨i, hi, hb⟩) (by rw [ha]; decide)
          | false => rfl)
        rw [this]
        have : ∀ n, bsN (fun _ => false) n = 0 := by
          intro n
          induction n with
          | zero => rfl
          | succ n ih => show bsN _ n + 0 = 0; rw [ih]
        exact this L
  rcases fuF_s (nvF T t e s L) 64 with ⟨a, b, d⟩ | ⟨a, -, -, b, h1, h2⟩
  · refine ⟨fun _ => a, fun _ => ?_⟩
    apply Classical.byContradiction
    intro z
    obtain ⟨p, q1, q2⟩ := key.mpr z
    have b1 := hT p q1
    have z2 : nvF T t e s L (T p).toNat = 0 := d (T p).toNat (by omega)
    have := cnt_pz (P := fun q => plB T t e s q && decide (T q = (((T p).toNat : Nat) : Int))) q1 (by simp only [q2, Bool.true_and]; exact decide_eq_true (by omega))
    unfold nvF at z2
    omega
  · refine ⟨fun z => ?_, fun z => by omega⟩
    exfalso
    have : cnt (fun p => plB T t e s p && decide (T p = (b : Int))) L = 0 := by
      have e1 : cnt (fun p => plB T t e s p && decide (T p = (b : Int))) L = cnt (fun _ => false) L := cnt_congr (fun i hi => by
        cases hb : plB T t e s i with
        | true => exact absurd z (key.mp ⟨i, hi, hb⟩)
        | false => rfl)
      rw [e1]
      have : ∀ n, cnt (fun _ => false) n = 0 := by
        intro n
        induction n with
        | zero => rfl
        | succ n ih => show cnt _ n + 0 = 0; rw [ih]
      exact this L
    unfold nvF at h2
    omega
theorem next_c (lv e L : Nat) (T t : Nat → Int) (h : Hp) (h3 : h 183 0 0 = (L : Int)) (hL : L ≤ 12) (hT : ∀ j, j < L → h 182 0 j = T j) (hT2 : ∀ j, j < L → 0 ≤ T j ∧ T j ≤ 63) (ht : ∀ j, j < 400 → h 148 0 j = t j) (he : e ≤ 20) : ∀ s, s ≤ e + 1 → s ≤ L + 1 → ∀ x : AV, run (lv + 1) 118 43 [aA 11 0, aI (e : Int), aI ((s : Int) - 1), x] [] h = ri (nxR T t e L s) h := by
  intro s
  induction s with
  | zero =>
    intro _ _ x
    rw [hd_118_43]
    simp (disch := omega) only [x_6_0, x_35_0, x_79_1_8_d0, x_79_1_8_d1, x_79_1_8_d2, x_79_1_8_d3, x_79_1_8_d4, x_7_1_I, x_7_1_A, x_7_1_U, x_4_1, x_79_2_8_d0, x_79_2_8_d1, x_79_2_8_d2, x_79_2_8_d3, x_79_2_8_d4, x_69, x_84, x_79_1_11_d0, x_79_1_11_d1, x_79_1_11_d2, x_79_1_11_d3, x_79_1_11_d4, x_33, x_80_2_d0, x_80_2_d1, x_80_2_d2, x_80_2_d3, x_80_2_d4, x_7_2_I, x_7_2_A, x_7_2_U, x_61, x_4_2, x_70, x_79_3_11_d0, x_79_3_11_d1, x_79_3_11_d2, x_79_3_11_d3, x_79_3_11_d4, x_7_3_I, x_7_3_A, x_7_3_U, x_4_3, x_68, x_79_2_11_d0, x_79_2_11_d1, x_79_2_11_d2, x_79_2_11_d3, x_79_2_11_d4, x_82, x_10_2_I, x_10_2_A, x_10_2_U, x_60, x_1, cb_ri, cb_rl, cb_rv, cb_th, cb_ite, ps_s, ps_n, u_118_0, u_118_30, u_118_64, u_118_70, Int.reduceEq, Int.reduceLT, Int.reduceLE, reduceIte, Int.reduceAdd, Int.reduceSub, Int.reduceMul, Int.reduceNeg, Int.reduceToNat, Bool.false_eq_true, eq_self, if_pos, if_neg]
    rfl
  | succ s ih =>
    intro h1 h2 x
    have pc := places_c lv e s L T t h h3 hL hT ht (by omega) he (by omega)
    have oc := oftenest_c lv e s L T t h h3 hL hT
    have pn := pl_nv T t e s L hT2
    have es : ((s + 1 : Nat) : Int) - 1 = (s : Int) := by omega
    rw [es, hd_118_43]
    simp only [nxR]
    by_cases c : bsN (plB T t e s) L = 0
    · rw [if_pos (pn.mp c)]
      rw [c] at pc
      simp (disch := omega) only [x_6_0, x_35_0, x_79_1_8_d0, x_79_1_8_d1, x_79_1_8_d2, x_79_1_8_d3, x_79_1_8_d4, x_7_1_I, x_7_1_A, x_7_1_U, x_4_1, x_79_2_8_d0, x_79_2_8_d1, x_79_2_8_d2, x_79_2_8_d3, x_79_2_8_d4, x_69, x_84, x_79_1_11_d0, x_79_1_11_d1, x_79_1_11_d2, x_79_1_11_d3, x_79_1_11_d4, x_33, x_80_2_d0, x_80_2_d1, x_80_2_d2, x_80_2_d3, x_80_2_d4, x_7_2_I, x_7_2_A, x_7_2_U, x_61, x_4_2, x_70, x_79_3_11_d0, x_79_3_11_d1, x_79_3_11_d2, x_79_3_11_d3, x_79_3_11_d4, x_7_3_I, x_7_3_A, x_7_3_U, x_4_3, x_68, x_79_2_11_d0, x_79_2_11_d1, x_79_2_11_d2, x_79_2_11_d3, x_79_2_11_d4, x_82, x_10_2_I, x_10_2_A, x_10_2_U, x_60, x_1, cb_ri, cb_rl, cb_rv, cb_th, cb_ite, ps_s, ps_n, u_118_0, u_118_30, u_118_64, u_118_70, pc, Int.reduceEq, Int.reduceLT, Int.reduceLE, reduceIte, Int.reduceAdd, Int.reduceSub, Int.reduceMul, Int.reduceNeg, Int.reduceToNat, Bool.false_eq_true, eq_self, if_pos, if_neg, Int.natCast_zero, w32_id]
      exact ih (by omega) (by omega) _
    · rw [if_neg (fun z => c (pn.mpr z))]
      have c2 : ¬ ((bsN (plB T t e s) L : Nat) : Int) = 0 := by omega
      simp (disch := omega) only [x_6_0, x_35_0, x_79_1_8_d0, x_79_1_8_d1, x_79_1_8_d2, x_79_1_8_d3, x_79_1_8_d4, x_7_1_I, x_7_1_A, x_7_1_U, x_4_1, x_79_2_8_d0, x_79_2_8_d1, x_79_2_8_d2, x_79_2_8_d3, x_79_2_8_d4, x_69, x_84, x_79_1_11_d0, x_79_1_11_d1, x_79_1_11_d2, x_79_1_11_d3, x_79_1_11_d4, x_33, x_80_2_d0, x_80_2_d1, x_80_2_d2, x_80_2_d3, x_80_2_d4, x_7_2_I, x_7_2_A, x_7_2_U, x_61, x_4_2, x_70, x_79_3_11_d0, x_79_3_11_d1, x_79_3_11_d2, x_79_3_11_d3, x_79_3_11_d4, x_7_3_I, x_7_3_A, x_7_3_U, x_4_3, x_68, x_79_2_11_d0, x_79_2_11_d1, x_79_2_11_d2, x_79_2_11_d3, x_79_2_11_d4, x_82, x_10_2_I, x_10_2_A, x_10_2_U, x_60, x_1, cb_ri, cb_rl, cb_rv, cb_th, cb_ite, ps_s, ps_n, u_118_0, u_118_30, u_118_64, u_118_70, pc, oc, c2, Int.reduceEq, Int.reduceLT, Int.reduceLE, reduceIte, Int.reduceAdd, Int.reduceSub, Int.reduceMul, Int.reduceNeg, Int.reduceToNat, Bool.false_eq_true, eq_self, if_pos, if_neg]
theorem next_m (lv e L : Nat) (T t : Nat → Int) (h : Hp) (hL : L ≤ 12) (hT : ∀ j, j < L → h 213 0 j = T j) (ht : ∀ j, j < 400 → h 193 0 j = t j) (he : e ≤ 20) : ∀ s, s ≤ e + 1 → ∀ x5 x6 x7 x8 x9 : AV, run (lv + 1) 271 86 [aA 12 0, aI (e : Int), aI 1, aI (L : Int), aI ((s : Int) - 1), x5, x6, x7, x8, x9] [] h = ri (nxR T t e L s) h := by
  intro s
  induction s with
  | zero =>
    intro _ x5 x6 x7 x8 x9
    rw [hd_271_86]
    simp (disch := omega) only [x_6_0, x_33, x_7_1_I, x_7_1_A, x_7_1_U, x_1, x_36, x_4_1, x_66, x_60, x_61, x_7_2_I, x_7_2_A, x_7_2_U, x_7_3_I, x_7_3_A, x_7_3_U, x_4_3, x_65, x_4_2, x_68, x_34, x_38_193, x_38_213, x_10_3_I, x_10_3_A, x_10_3_U, x_73, x_82, x_79_1_12_d0, x_79_1_12_d1, x_79_1_12_d2, x_79_1_12_d3, x_79_1_12_d4, x_7_4_I, x_7_4_A, x_7_4_U, x_4_4, x_70, x_7_5_I, x_7_5_A, x_7_5_U, x_7_6_I, x_7_6_A, x_7_6_U, x_7_7_I, x_7_7_A, x_7_7_U, x_4_7, x_7_8_I, x_7_8_A, x_7_8_U, x_7_9_I, x_7_9_A, x_7_9_U, x_4_9, x_4_8, x_63, x_79_4_12_d0, x_79_4_12_d1, x_79_4_12_d2, x_79_4_12_d3, x_79_4_12_d4, x_11, x_10_9_I, x_10_9_A, x_10_9_U, x_4_6, x_10_7_I, x_10_7_A, x_10_7_U, x_4_5, x_62, x_10_4_I, x_10_4_A, x_10_4_U, cb_ri, cb_rl, cb_rv, cb_th, cb_ite, ps_s, ps_n, u_271_0, u_271_20, u_271_21, u_271_48, u_271_49, u_271_56, u_271_65, u_271_66, u_271_78, u_271_149, u_271_150, u_271_159, u_271_169, u_271_177, u_271_183, u_271_192, u_271_198, Int.reduceEq, Int.reduceLT, Int.reduceLE, reduceIte, Int.reduceAdd, Int.reduceSub, Int.reduceMul, Int.reduceNeg, Int.reduceToNat, Bool.false_eq_true, eq_self, if_pos, if_neg]
    rfl
  | succ s ih =>
    intro h1 x5 x6 x7 x8 x9
    have es : ((s + 1 : Nat) : Int) - 1 = (s : Int) := by omega
    rw [es, hd_271_86]
    simp (disch := omega) only [x_6_0, x_33, x_7_1_I, x_7_1_A, x_7_1_U, x_1, x_36, x_4_1, x_66, x_60, x_61, x_7_2_I, x_7_2_A, x_7_2_U, x_7_3_I, x_7_3_A, x_7_3_U, x_4_3, x_65, x_4_2, x_68, x_34, x_38_193, x_38_213, x_10_3_I, x_10_3_A, x_10_3_U, x_73, x_82, x_79_1_12_d0, x_79_1_12_d1, x_79_1_12_d2, x_79_1_12_d3, x_79_1_12_d4, x_7_4_I, x_7_4_A, x_7_4_U, x_4_4, x_70, x_7_5_I, x_7_5_A, x_7_5_U, x_7_6_I, x_7_6_A, x_7_6_U, x_7_7_I, x_7_7_A, x_7_7_U, x_4_7, x_7_8_I, x_7_8_A, x_7_8_U, x_7_9_I, x_7_9_A, x_7_9_U, x_4_9, x_4_8, x_63, x_79_4_12_d0, x_79_4_12_d1, x_79_4_12_d2, x_79_4_12_d3, x_79_4_12_d4, x_11, x_10_9_I, x_10_9_A, x_10_9_U, x_4_6, x_10_7_I, x_10_7_A, x_10_7_U, x_4_5, x_62, x_10_4_I, x_10_4_A, x_10_4_U, cb_ri, cb_rl, cb_rv, cb_th, cb_ite, ps_s, ps_n, u_271_0, u_271_20, u_271_21, u_271_48, u_271_49, u_271_56, u_271_65, u_271_66, u_271_78, u_271_149, u_271_150, u_271_159, u_271_169, u_271_177, u_271_183, u_271_192, u_271_198, Int.reduceEq, Int.reduceLT, Int.reduceLE, reduceIte, Int.reduceAdd, Int.reduceSub, Int.reduceMul, Int.reduceNeg, Int.reduceToNat, Bool.false_eq_true, eq_self, if_pos, if_neg]
    refine loop_g (F := fun k (v : AV × AV) => run (lv + 1) 271 100 [aA 12 0, aI (e : Int), aI 1, aI (L : Int), aI (s : Int), aI (fuF (nvF T t e s L) k).1, aI ((fuF (nvF T t e s L) k).2 : Int), aI (k : Int), v.1, v.2] [] h) (N := 64) ?_ ?_ (x8, x9)
    · intro k v hk
      refine ⟨(aI ((nvF T t e s L k : Nat) : Int), aI (L : Int)), ?_⟩
      have main := loop_up (F := fun p => run (lv + 1) 271 113 [aA 12 0, aI (e : Int), aI 1, aI (L : Int), aI (s : Int), aI (fuF (nvF T t e s L) k).1, aI ((fuF (nvF T t e s L) k).2 : Int), aI (k : Int), aI ((cnt (fun p => plB T t e s p && decide (T p = (k : Int))) p : Nat) : Int), aI (p : Int)] [] h) (N := L) (r := run (lv + 1) 271 159 [aA 12 0, aI (e : Int), aI 1, aI (L : Int), aI (s : Int), aI (fuF (nvF T t e s L) k).1, aI ((fuF (nvF T t e s L) k).2 : Int), aI (k : Int), aI ((nvF T t e s L k : Nat) : Int), aI (L : Int)] [] h) ?_ ?_ 0 (by omega)
      · show run _ _ _ _ _ _ = run _ _ _ _ _ _
        rw [hd_271_100]
        simp (disch := omega) only [x_6_0, x_33, x_7_1_I, x_7_1_A, x_7_1_U, x_1, x_36, x_4_1, x_66, x_60, x_61, x_7_2_I, x_7_2_A, x_7_2_U, x_7_3_I, x_7_3_A, x_7_3_U, x_4_3, x_65, x_4_2, x_68, x_34, x_38_193, x_38_213, x_10_3_I, x_10_3_A, x_10_3_U, x_73, x_82, x_79_1_12_d0, x_79_1_12_d1, x_79_1_12_d2, x_79_1_12_d3, x_79_1_12_d4, x_7_4_I, x_7_4_A, x_7_4_U, x_4_4, x_70, x_7_5_I, x_7_5_A, x_7_5_U, x_7_6_I, x_7_6_A, x_7_6_U, x_7_7_I, x_7_7_A, x_7_7_U, x_4_7, x_7_8_I, x_7_8_A, x_7_8_U, x_7_9_I, x_7_9_A, x_7_9_U, x_4_9, x_4_8, x_63, x_79_4_12_d0, x_79_4_12_d1, x_79_4_12_d2, x_79_4_12_d3, x_79_4_12_d4, x_11, x_10_9_I, x_10_9_A, x_10_9_U, x_4_6, x_10_7_I, x_10_7_A, x_10_7_U, x_4_5, x_62, x_10_4_I, x_10_4_A, x_10_4_U, cb_ri, cb_rl, cb_rv, cb_th, cb_ite, ps_s, ps_n, u_271_0, u_271_20, u_271_21, u_271_48, u_271_49, u_271_56, u_271_65, u_271_66, u_271_78, u_271_149, u_271_150, u_271_169, u_271_177, u_271_183, u_271_192, u_271_198, Int.reduceEq, Int.reduceLT, Int.reduceLE, reduceIte, Int.reduceAdd, Int.reduceSub, Int.reduceMul, Int.reduceNeg, Int.reduceToNat, Bool.false_eq_true, eq_self, if_pos, if_neg]
        refine Eq.trans main ?_
        simp only [fuF]
        by_cases c : (fuF (nvF T t e s L) k).2 < nvF T t e s L k
        · rw [if_pos c]
          simp (disch := omega) only [x_6_0, x_33, x_7_1_I, x_7_1_A, x_7_1_U, x_1, x_36, x_4_1, x_66, x_60, x_61, x_7_2_I, x_7_2_A, x_7_2_U, x_7_3_I, x_7_3_A, x_7_3_U, x_4_3, x_65, x_4_2, x_68, x_34, x_38_193, x_38_213, x_10_3_I, x_10_3_A, x_10_3_U, x_73, x_82, x_79_1_12_d0, x_79_1_12_d1, x_79_1_12_d2, x_79_1_12_d3, x_79_1_12_d4, x_7_4_I, x_7_4_A, x_7_4_U, x_4_4, x_70, x_7_5_I, x_7_5_A, x_7_5_U, x_7_6_I, x_7_6_A, x_7_6_U, x_7_7_I, x_7_7_A, x_7_7_U, x_4_7, x_7_8_I, x_7_8_A, x_7_8_U, x_7_9_I, x_7_9_A, x_7_9_U, x_4_9, x_4_8, x_63, x_79_4_12_d0, x_79_4_12_d1, x_79_4_12_d2, x_79_4_12_d3, x_79_4_12_d4, x_11, x_10_9_I, x_10_9_A, x_10_9_U, x_4_6, x_10_7_I, x_10_7_A, x_10_7_U, x_4_5, x_62, x_10_4_I, x_10_4_A, x_10_4_U, cb_ri, cb_rl, cb_rv, cb_th, cb_ite, ps_s, ps_n, u_271_0, u_271_20, u_271_21, u_271_48, u_271_49, u_271_56, u_271_65, u_271_66, u_271_78, u_271_149, u_271_150, u_271_159, u_271_169, u_271_177, u_271_183, u_271_192, u_271_198, Int.reduceEq, Int.reduceLT, Int.reduceLE, reduceIte, Int.reduceAdd, Int.reduceSub, Int.reduceMul, Int.reduceNeg, Int.reduceToNat, Bool.false_eq_true, eq_self, if_pos, if_neg, ci, w32_id]
        · rw [if_neg c]
          simp (disch := omega) only [x_6_0, x_33, x_7_1_I, x_7_1_A, x_7_1_U, x_1, x_36, x_4_1, x_66, x_60, x_61, x_7_2_I, x_7_2_A, x_7_2_U, x_7_3_I, x_7_3_A, x_7_3_U, x_4_3, x_65, x_4_2, x_68, x_34, x_38_193, x_38_213, x_10_3_I, x_10_3_A, x_10_3_U, x_73, x_82, x_79_1_12_d0, x_79_1_12_d1, x_79_1_12_d2, x_79_1_12_d3, x_79_1_12_d4, x_7_4_I, x_7_4_A, x_7_4_U, x_4_4, x_70, x_7_5_I, x_7_5_A, x_7_5_U, x_7_6_I, x_7_6_A, x_7_6_U, x_7_7_I, x_7_7_A, x_7_7_U, x_4_7, x_7_8_I, x_7_8_A, x_7_8_U, x_7_9_I, x_7_9_A, x_7_9_U, x_4_9, x_4_8, x_63, x_79_4_12_d0, x_79_4_12_d1, x_79_4_12_d2, x_79_4_12_d3, x_79_4_12_d4, x_11, x_10_9_I, x_10_9_A, x_10_9_U, x_4_6, x_10_7_I, x_10_7_A, x_10_7_U, x_4_5, x_62, x_10_4_I, x_10_4_A, x_10_4_U, cb_ri, cb_rl, cb_rv, cb_th, cb_ite, ps_s, ps_n, u_271_0, u_271_20, u_271_21, u_271_48, u_271_49, u_271_56, u_271_65, u_271_66, u_271_78, u_271_149, u_271_150, u_271_159, u_271_169, u_271_177, u_271_183, u_271_192, u_271_198, Int.reduceEq, Int.reduceLT, Int.reduceLE, reduceIte, Int.reduceAdd, Int.reduceSub, Int.reduceMul, Int.reduceNeg, Int.reduceToNat, Bool.false_eq_true, eq_self, if_pos, if_neg, ci, w32_id]
      · intro p hp
        have y1 := hT p hp
        have sa := standsAhead_m lv e s p L T t h hL hT ht hp (by omega) he
        have cl' := cnt_le (fun p => plB T t e s p && decide (T p = (k : Int))) p
        show run _ _ _ _ _ _ = run _ _ _ [_, _, _, _, _, _, _, _, aI ((cnt (fun p => plB T t e s p && decide (T p = (k : Int))) p + (if (plB T t e s p && decide (T p = (k : Int))) = true then 1 else 0) : Nat) : Int), _] _ _
        rw [hd_271_113]
        by_cases c : T p = (k : Int)
        · cases hb : plB T t e s p with
          | true =>
            rw [hb] at sa
            rw [decide_eq_true c, if_pos (by decide)]
            have e1 : boI true = 1 := rfl
            simp (disch := omega) only [x_6_0, x_33, x_7_1_I, x_7_1_A, x_7_1_U, x_1, x_36, x_4_1, x_66, x_60, x_61, x_7_2_I, x_7_2_A, x_7_2_U, x_7_3_I, x_7_3_A, x_7_3_U, x_4_3, x_65, x_4_2, x_68, x_34, x_38_193, x_38_213, x_10_3_I, x_10_3_A, x_10_3_U, x_73, x_82, x_79_1_12_d0, x_79_1_12_d1, x_79_1_12_d2, x_79_1_12_d3, x_79_1_12_d4, x_7_4_I, x_7_4_A, x_7_4_U, x_4_4, x_70, x_7_5_I, x_7_5_A, x_7_5_U, x_7_6_I, x_7_6_A, x_7_6_U, x_7_7_I, x_7_7_A, x_7_7_U, x_4_7, x_7_8_I, x_7_8_A, x_7_8_U, x_7_9_I, x_7_9_A, x_7_9_U, x_4_9, x_4_8, x_63, x_79_4_12_d0, x_79_4_12_d1, x_79_4_12_d2, x_79_4_12_d3, x_79_4_12_d4, x_11, x_10_9_I, x_10_9_A, x_10_9_U, x_4_6, x_10_7_I, x_10_7_A, x_10_7_U, x_4_5, x_62, x_10_4_I, x_10_4_A, x_10_4_U, cb_ri, cb_rl, cb_rv, cb_th, cb_ite, ps_s, ps_n, u_271_0, u_271_20, u_271_21, u_271_48, u_271_49, u_271_56, u_271_65, u_271_66, u_271_78, u_271_149, u_271_150, u_271_159, u_271_169, u_271_177, u_271_183, u_271_192, u_271_198, tn, y1, sa, c, e1, Int.reduceEq, Int.reduceLT, Int.reduceLE, reduceIte, Int.reduceAdd, Int.reduceSub, Int.reduceMul, Int.reduceNeg, Int.reduceToNat, Bool.false_eq_true, eq_self, if_pos, if_neg, ci, w32_id]
          | false =>
            rw [hb] at sa
            rw [Bool.false_and, if_neg (by decide)]
            have e1 : boI false = 0 := rfl
            simp (disch := omega) only [x_6_0, x_33, x_7_1_I, x_7_1_A, x_7_1_U, x_1, x_36, x_4_1, x_66, x_60, x_61, x_7_2_I, x_7_2_A, x_7_2_U, x_7_3_I, x_7_3_A, x_7_3_U, x_4_3, x_65, x_4_2, x_68, x_34, x_38_193, x_38_213, x_10_3_I, x_10_3_A, x_10_3_U, x_73, x_82, x_79_1_12_d0, x_79_1_12_d1, x_79_1_12_d2, x_79_1_12_d3, x_79_1_12_d4, x_7_4_I, x_7_4_A, x_7_4_U, x_4_4, x_70, x_7_5_I, x_7_5_A, x_7_5_U, x_7_6_I, x_7_6_A, x_7_6_U, x_7_7_I, x_7_7_A, x_7_7_U, x_4_7, x_7_8_I, x_7_8_A, x_7_8_U, x_7_9_I, x_7_9_A, x_7_9_U, x_4_9, x_4_8, x_63, x_79_4_12_d0, x_79_4_12_d1, x_79_4_12_d2, x_79_4_12_d3, x_79_4_12_d4, x_11, x_10_9_I, x_10_9_A, x_10_9_U, x_4_6, x_10_7_I, x_10_7_A, x_10_7_U, x_4_5, x_62, x_10_4_I, x_10_4_A, x_10_4_U, cb_ri, cb_rl, cb_rv, cb_th, cb_ite, ps_s, ps_n, u_271_0, u_271_20, u_271_21, u_271_48, u_271_49, u_271_56, u_271_65, u_271_66, u_271_78, u_271_149, u_271_150, u_271_159, u_271_169, u_271_177, u_271_183, u_271_192, u_271_198, tn, y1, sa, c, e1, Int.reduceEq, Int.reduceLT, Int.reduceLE, reduceIte, Int.reduceAdd, Int.reduceSub, Int.reduceMul, Int.reduceNeg, Int.reduceToNat, Bool.false_eq_true, eq_self, if_pos, if_neg, ci, w32_id, Nat.add_zero, Int.add_zero]
        · rw [decide_eq_false c, Bool.and_false, if_neg (by decide)]
          simp (disch := omega) only [x_6_0, x_33, x_7_1_I, x_7_1_A, x_7_1_U, x_1, x_36, x_4_1, x_66, x_60, x_61, x_7_2_I, x_7_2_A, x_7_2_U, x_7_3_I, x_7_3_A, x_7_3_U, x_4_3, x_65, x_4_2, x_68, x_34, x_38_193, x_38_213, x_10_3_I, x_10_3_A, x_10_3_U, x_73, x_82, x_79_1_12_d0, x_79_1_12_d1, x_79_1_12_d2, x_79_1_12_d3, x_79_1_12_d4, x_7_4_I, x_7_4_A, x_7_4_U, x_4_4, x_70, x_7_5_I, x_7_5_A, x_7_5_U, x_7_6_I, x_7_6_A, x_7_6_U, x_7_7_I, x_7_7_A, x_7_7_U, x_4_7, x_7_8_I, x_7_8_A, x_7_8_U, x_7_9_I, x_7_9_A, x_7_9_U, x_4_9, x_4_8, x_63, x_79_4_12_d0, x_79_4_12_d1, x_79_4_12_d2, x_79_4_12_d3, x_79_4_12_d4, x_11, x_10_9_I, x_10_9_A, x_10_9_U, x_4_6, x_10_7_I, x_10_7_A, x_10_7_U, x_4_5, x_62, x_10_4_I, x_10_4_A, x_10_4_U, cb_ri, cb_rl, cb_rv, cb_th, cb_ite, ps_s, ps_n, u_271_0, u_271_20, u_271_21, u_271_48, u_271_49, u_271_56, u_271_65, u_271_66, u_271_78, u_271_149, u_271_150, u_271_159, u_271_169, u_271_177, u_271_183, u_271_192, u_271_198, tn, y1, c, Int.reduceEq, Int.reduceLT, Int.reduceLE, reduceIte, Int.reduceAdd, Int.reduceSub, Int.reduceMul, Int.reduceNeg, Int.reduceToNat, Bool.false_eq_true, eq_self, if_pos, if_neg, ci, w32_id, Nat.add_zero, Int.add_zero]
      · show run _ _ _ _ _ _ = _
        rw [hd_271_113]
        simp (disch := omega) only [x_6_0, x_33, x_7_1_I, x_7_1_A, x_7_1_U, x_1, x_36, x_4_1, x_66, x_60, x_61, x_7_2_I, x_7_2_A, x_7_2_U, x_7_3_I, x_7_3_A, x_7_3_U, x_4_3, x_65, x_4_2, x_68, x_34, x_38_193, x_38_213, x_10_3_I, x_10_3_A, x_10_3_U, x_73, x_82, x_79_1_12_d0, x_79_1_12_d1, x_79_1_12_d2, x_79_1_12_d3, x_79_1_12_d4, x_7_4_I, x_7_4_A, x_7_4_U, x_4_4, x_70, x_7_5_I, x_7_5_A, x_7_5_U, x_7_6_I, x_7_6_A, x_7_6_U, x_7_7_I, x_7_7_A, x_7_7_U, x_4_7, x_7_8_I, x_7_8_A, x_7_8_U, x_7_9_I, x_7_9_A, x_7_9_U, x_4_9, x_4_8, x_63, x_79_4_12_d0, x_79_4_12_d1, x_79_4_12_d2, x_79_4_12_d3, x_79_4_12_d4, x_11, x_10_9_I, x_10_9_A, x_10_9_U, x_4_6, x_10_7_I, x_10_7_A, x_10_7_U, x_4_5, x_62, x_10_4_I, x_10_4_A, x_10_4_U, cb_ri, cb_rl, cb_rv, cb_th, cb_ite, ps_s, ps_n, u_271_0, u_271_20, u_271_21, u_271_48, u_271_49, u_271_56, u_271_65, u_271_66, u_271_78, u_271_149, u_271_150, u_271_169, u_271_177, u_271_183, u_271_192, u_271_198, Int.reduceEq, Int.reduceLT, Int.reduceLE, reduceIte, Int.reduceAdd, Int.reduceSub, Int.reduceMul, Int.reduceNeg, Int.reduceToNat, Bool.false_eq_true, eq_self, if_pos, if_neg]
        rfl
    · intro v
      show run _ _ _ _ _ _ = _
      rw [hd_271_100]
      simp only [nxR]
      by_cases c : (fuF (nvF T t e s L) 64).1 = -1
      · rw [if_pos c]
        simp (disch := omega) only [x_6_0, x_33, x_7_1_I, x_7_1_A, x_7_1_U, x_1, x_36, x_4_1, x_66, x_60, x_61, x_7_2_I, x_7_2_A, x_7_2_U, x_7_3_I, x_7_3_A, x_7_3_U, x_4_3, x_65, x_4_2, x_68, x_34, x_38_193, x_38_213, x_10_3_I, x_10_3_A, x_10_3_U, x_73, x_82, x_79_1_12_d0, x_79_1_12_d1, x_79_1_12_d2, x_79_1_12_d3, x_79_1_12_d4, x_7_4_I, x_7_4_A, x_7_4_U, x_4_4, x_70, x_7_5_I, x_7_5_A, x_7_5_U, x_7_6_I, x_7_6_A, x_7_6_U, x_7_7_I, x_7_7_A, x_7_7_U, x_4_7, x_7_8_I, x_7_8_A, x_7_8_U, x_7_9_I, x_7_9_A, x_7_9_U, x_4_9, x_4_8, x_63, x_79_4_12_d0, x_79_4_12_d1, x_79_4_12_d2, x_79_4_12_d3, x_79_4_12_d4, x_11, x_10_9_I, x_10_9_A, x_10_9_U, x_4_6, x_10_7_I, x_10_7_A, x_10_7_U, x_4_5, x_62, x_10_4_I, x_10_4_A, x_10_4_U, cb_ri, cb_rl, cb_rv, cb_th, cb_ite, ps_s, ps_n, u_271_0, u_271_20, u_271_21, u_271_48, u_271_49, u_271_56, u_271_65, u_271_66, u_271_78, u_271_149, u_271_150, u_271_159, u_271_169, u_271_177, u_271_183, u_271_192, u_271_198, c, Int.reduceEq, Int.reduceLT, Int.reduceLE, reduceIte, Int.reduceAdd, Int.reduceSub, Int.reduceMul, Int.reduceNeg, Int.reduceToNat, Bool.false_eq_true, eq_self, if_pos, if_neg, w32_id]
        exact ih (by omega) _ _ _ _ _
      · rw [if_neg c]
        simp (disch := omega) only [x_6_0, x_33, x_7_1_I, x_7_1_A, x_7_1_U, x_1, x_36, x_4_1, x_66, x_60, x_61, x_7_2_I, x_7_2_A, x_7_2_U, x_7_3_I, x_7_3_A, x_7_3_U, x_4_3, x_65, x_4_2, x_68, x_34, x_38_193, x_38_213, x_10_3_I, x_10_3_A, x_10_3_U, x_73, x_82, x_79_1_12_d0, x_79_1_12_d1, x_79_1_12_d2, x_79_1_12_d3, x_79_1_12_d4, x_7_4_I, x_7_4_A, x_7_4_U, x_4_4, x_70, x_7_5_I, x_7_5_A, x_7_5_U, x_7_6_I, x_7_6_A, x_7_6_U, x_7_7_I, x_7_7_A, x_7_7_U, x_4_7, x_7_8_I, x_7_8_A, x_7_8_U, x_7_9_I, x_7_9_A, x_7_9_U, x_4_9, x_4_8, x_63, x_79_4_12_d0, x_79_4_12_d1, x_79_4_12_d2, x_79_4_12_d3, x_79_4_12_d4, x_11, x_10_9_I, x_10_9_A, x_10_9_U, x_4_6, x_10_7_I, x_10_7_A, x_10_7_U, x_4_5, x_62, x_10_4_I, x_10_4_A, x_10_4_U, cb_ri, cb_rl, cb_rv, cb_th, cb_ite, ps_s, ps_n, u_271_0, u_271_20, u_271_21, u_271_48, u_271_49, u_271_56, u_271_65, u_271_66, u_271_78, u_271_149, u_271_150, u_271_159, u_271_169, u_271_177, u_271_183, u_271_192, u_271_198, c, Int.reduceEq, Int.reduceLT, Int.reduceLE, reduceIte, Int.reduceAdd, Int.reduceSub, Int.reduceMul, Int.reduceNeg, Int.reduceToNat, Bool.false_eq_true, eq_self, if_pos, if_neg]
