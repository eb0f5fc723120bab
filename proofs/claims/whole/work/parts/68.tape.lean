/-! THE TAPE's READER (the class's). -/
theorem hs_o {h : Hp} {t k i t' k' i' : Nat} {v : Int} (hne : ¬ (t' = t ∧ k' = k ∧ i' = i)) : hset h t k i v t' k' i' = h t' k' i' := by unfold hset; rw [if_neg hne]
def kdA (t : Nat → Int) (e p : Nat) : Int := if p < e then (if isL (t p) = true then 1 else if isD (t p) = true then 2 else 3) else 0
def nmN (t : Nat → Int) (p n : Nat) : Int := if n ≤ 3 then nv t p n else 1000
def nuA (t : Nat → Int) (e p : Nat) : Int := if p < e ∧ isD (t p) = true then nmN t p (dE t e p - p) else 0
def tpR (tt k i : Nat) : Prop := k = 0 ∧ i = 0 ∧ (tt = 151 ∨ tt = 153 ∨ tt = 154 ∨ tt = 155)
noncomputable def tpH (h : Hp) (t : Nat → Int) (e p : Nat) : Hp := fun tt k i =>
  haveI := Classical.propDecidable (tpR tt k i)
  if tpR tt k i then (if tt = 151 then (p : Int) else if tt = 153 then ((tE t e p : Nat) : Int) else if tt = 154 then kdA t e p else nuA t e p) else h tt k i
theorem tp_ext {h h' : Hp} {t : Nat → Int} {e p : Nat} (h1 : h' 151 0 0 = (p : Int)) (h2 : h' 153 0 0 = ((tE t e p : Nat) : Int)) (h3 : h' 154 0 0 = kdA t e p) (h4 : h' 155 0 0 = nuA t e p) (h5 : ∀ tt k i, ¬ tpR tt k i → h' tt k i = h tt k i) : h' = tpH h t e p := by
  funext tt k i
  unfold tpH
  by_cases hp : tpR tt k i
  · rw [if_pos hp]
    obtain ⟨rfl, rfl, hc⟩ := hp
    rcases hc with rfl | rfl | rfl | rfl
    · rw [if_pos rfl]; exact h1
    · rw [if_neg (by omega), if_pos rfl]; exact h2
    · rw [if_neg (by omega), if_neg (by omega), if_pos rfl]; exact h3
    · rw [if_neg (by omega), if_neg (by omega), if_neg (by omega)]; exact h4
  · rw [if_neg hp]; exact h5 tt k i hp
theorem tp_o {h : Hp} {t : Nat → Int} {e p tt k i : Nat} (hn : ¬ tpR tt k i) : tpH h t e p tt k i = h tt k i := by unfold tpH; rw [if_neg hn]
theorem tp_1 (h : Hp) (t : Nat → Int) (e p : Nat) : tpH h t e p 151 0 0 = (p : Int) := by unfold tpH; rw [if_pos ⟨rfl, rfl, by omega⟩, if_pos rfl]
theorem tp_3 (h : Hp) (t : Nat → Int) (e p : Nat) : tpH h t e p 153 0 0 = ((tE t e p : Nat) : Int) := by unfold tpH; rw [if_pos ⟨rfl, rfl, by omega⟩, if_neg (by omega), if_pos rfl]
theorem tp_4 (h : Hp) (t : Nat → Int) (e p : Nat) : tpH h t e p 154 0 0 = kdA t e p := by unfold tpH; rw [if_pos ⟨rfl, rfl, by omega⟩, if_neg (by omega), if_neg (by omega), if_pos rfl]
theorem tp_5 (h : Hp) (t : Nat → Int) (e p : Nat) : tpH h t e p 155 0 0 = nuA t e p := by unfold tpH; rw [if_pos ⟨rfl, rfl, by omega⟩, if_neg (by omega), if_neg (by omega), if_neg (by omega)]
theorem isL_t {c : Int} (h : isL c = true) : 97 ≤ c ∧ c ≤ 122 := by simpa [isL] using h
theorem isL_f {c : Int} (h : ¬ isL c = true) : c < 97 ∨ 122 < c := by simp [isL] at h; omega
theorem isD_t {c : Int} (h : isD c = true) : 48 ≤ c ∧ c ≤ 57 := by simpa [isD] using h
theorem isD_f {c : Int} (h : ¬ isD c = true) : c < 48 ∨ 57 < c := by simp [isD] at h; omega
theorem adv_s (lv e : Nat) (h : Hp) (g : AV) (he : h 152 0 0 = (e : Int)) (h400 : e ≤ 400) : ∀ d p, e - p = d → p ≤ e → run lv 62 5 [aA 8 0, aI (p : Int), g] [] h = run lv 62 30 [aA 8 0, aI ((sk (h 148 0) e p : Nat) : Int), g] [] h := by
  intro d
  induction d with
  | zero =>
    intro p h1 h2
    have : p = e := by omega
    subst this
    rw [hd_62_5, sk_e]
    simp (disch := omega) only [x_4_1, x_6_0, x_33, x_65, x_34, x_38_148, x_1, x_63, x_10_1_A, x_60, he, Int.reduceEq, Int.reduceLT, Int.reduceLE, reduceIte, Int.reduceAdd, Int.reduceSub, Int.reduceMul, Int.reduceNeg, Int.reduceToNat, Bool.false_eq_true, eq_self, if_pos, if_neg]
  | succ d ih =>
    intro p h1 h2
    rw [hd_62_5]
    by_cases h3 : h 148 0 p = 32
    · rw [sk_32 _ (by omega) h3, ← ih (p + 1) (by omega) (by omega)]
      simp (disch := omega) only [x_4_1, x_6_0, x_33, x_65, x_34, x_38_148, x_1, x_63, x_10_1_A, x_60, he, tn, h3, Int.reduceEq, Int.reduceLT, Int.reduceLE, reduceIte, Int.reduceAdd, Int.reduceSub, Int.reduceMul, Int.reduceNeg, Int.reduceToNat, Bool.false_eq_true, eq_self, if_pos, if_neg, ci, w32_id]
    · rw [sk_n _ (by omega) h3]
      simp (disch := omega) only [x_4_1, x_6_0, x_33, x_65, x_34, x_38_148, x_1, x_63, x_10_1_A, x_60, he, tn, h3, Int.reduceEq, Int.reduceLT, Int.reduceLE, reduceIte, Int.reduceAdd, Int.reduceSub, Int.reduceMul, Int.reduceNeg, Int.reduceToNat, Bool.false_eq_true, eq_self, if_pos, if_neg, ci, w32_id]
theorem adv_w (lv e : Nat) (h : Hp) (g : AV) (he : h 152 0 0 = (e : Int)) (h400 : e ≤ 400) : ∀ d p, e - p = d → p ≤ e → run lv 62 105 [aA 8 0, aI (p : Int), g] [] h = run lv 62 233 [aA 8 0, aI ((wE (h 148 0) e p : Nat) : Int), g] [] h := by
  intro d
  induction d with
  | zero =>
    intro p h1 h2
    have : p = e := by omega
    subst this
    rw [hd_62_105, show wE (h 148 0) p p = p from runE _ _ _]
    simp (disch := omega) only [x_4_1, x_6_0, x_33, x_65, he, Int.reduceEq, Int.reduceLT, Int.reduceLE, reduceIte, Int.reduceAdd, Int.reduceSub, Int.reduceMul, Int.reduceNeg, Int.reduceToNat, Bool.false_eq_true, eq_self, if_pos, if_neg]
  | succ d ih =>
    intro p h1 h2
    rw [hd_62_105]
    by_cases h3 : isL (h 148 0 p) = true
    · have h4 := isL_t h3
      rw [show wE (h 148 0) e p = wE (h 148 0) e (p + 1) from run_y _ _ (by omega) h3, ← ih (p + 1) (by omega) (by omega)]
      simp (disch := omega) only [x_4_1, x_6_0, x_33, x_65, x_34, x_38_148, x_1, x_64, x_66, x_10_1_A, x_60, he, tn, Int.reduceEq, Int.reduceLT, Int.reduceLE, reduceIte, Int.reduceAdd, Int.reduceSub, Int.reduceMul, Int.reduceNeg, Int.reduceToNat, Bool.false_eq_true, eq_self, if_pos, if_neg, ci, w32_id]
    · have h4 := isL_f h3
      rw [show wE (h 148 0) e p = p from run_n _ _ h3]
      by_cases h5 : h 148 0 p < 97
      · simp (disch := omega) only [x_4_1, x_6_0, x_33, x_65, x_34, x_38_148, x_1, x_64, x_66, x_10_1_A, x_60, he, tn, Int.reduceEq, Int.reduceLT, Int.reduceLE, reduceIte, Int.reduceAdd, Int.reduceSub, Int.reduceMul, Int.reduceNeg, Int.reduceToNat, Bool.false_eq_true, eq_self, if_pos, if_neg, ci, w32_id]
      · simp (disch := omega) only [x_4_1, x_6_0, x_33, x_65, x_34, x_38_148, x_1, x_64, x_66, x_10_1_A, x_60, he, tn, Int.reduceEq, Int.reduceLT, Int.reduceLE, reduceIte, Int.reduceAdd, Int.reduceSub, Int.reduceMul, Int.reduceNeg, Int.reduceToNat, Bool.false_eq_true, eq_self, if_pos, if_neg, ci, w32_id]
theorem nv_b {t : Nat → Int} {p : Nat} : ∀ n, (∀ j, j < n → isD (t (p + j)) = true) → 0 ≤ nv t p n ∧ (n ≤ 1 → nv t p n ≤ 9) ∧ (n ≤ 2 → nv t p n ≤ 99) ∧ (n ≤ 3 → nv t p n ≤ 999) := by
  intro n
  induction n with
  | zero => intro _; simp [nv]
  | succ n ih =>
    intro hd
    have h1 := ih (fun j hj => hd j (by omega))
    have h2 := isD_t (hd n (by omega))
    show 0 ≤ 10 * nv t p n + t (p + n) - 48 ∧ (_ → 10 * nv t p n + t (p + n) - 48 ≤ 9) ∧ (_ → 10 * nv t p n + t (p + n) - 48 ≤ 99) ∧ (_ → 10 * nv t p n + t (p + n) - 48 ≤ 999)
    obtain ⟨a, b, c, d⟩ := h1
    refine ⟨by omega, fun h3 => ?_, fun h3 => ?_, fun h3 => ?_⟩
    · have hn : n = 0 := by omega
      subst hn
      show 10 * (0 : Int) + _ - 48 ≤ 9
      omega
    · have := b (by omega); omega
    · have := c (by omega); omega
theorem adv_d (lv e b : Nat) (h : Hp) (g : AV) (he : h 152 0 0 = (e : Int)) (h400 : e ≤ 400) (hb : h 151 0 0 = (b : Int)) : ∀ d p, e - p = d → p ≤ e → b ≤ p → (∀ j, j < p - b → isD (h 148 0 (b + j)) = true) → run lv 62 149 [aA 8 0, aI (p : Int), g] [] (hset h 155 0 0 (nmN (h 148 0) b (p - b))) = run lv 62 233 [aA 8 0, aI ((dE (h 148 0) e p : Nat) : Int), g] [] (hset h 155 0 0 (nmN (h 148 0) b (dE (h 148 0) e p - b))) := by
  intro d
  induction d with
  | zero =>
    intro p h1 h2 h3 h4
    have : p = e := by omega
    subst this
    rw [hd_62_149, show dE (h 148 0) p p = p from runE _ _ _]
    simp (disch := omega) only [x_4_1, x_6_0, x_33, x_65, hs_t, he, Int.reduceEq, Int.reduceLT, Int.reduceLE, reduceIte, Int.reduceAdd, Int.reduceSub, Int.reduceMul, Int.reduceNeg, Int.reduceToNat, Bool.false_eq_true, eq_self, if_pos, if_neg]
  | succ d ih =>
    intro p h1 h2 h3 h4
    have hb8 : ∀ v, hset h 155 0 0 v 148 0 = h 148 0 := fun v => by funext i; exact hs_t (by omega)
    by_cases h5 : isD (h 148 0 p) = true
    · have h6 := isD_t h5
      have hall : ∀ j, j < p + 1 - b → isD (h 148 0 (b + j)) = true := by
        intro j hj
        by_cases e1 : j < p - b
        · exact h4 j e1
        · rw [show b + j = p by omega]; exact h5
      have hnv := nv_b (t := h 148 0) (p := b) (p - b) h4
      rw [show dE (h 148 0) e p = dE (h 148 0) e (p + 1) from run_y _ _ (by omega) h5, ← ih (p + 1) (by omega) (by omega) (by omega) hall, hd_62_149]
      have e2 : p + 1 - b = p - b + 1 := by omega
      by_cases h7 : p - b < 3
      · have e3 : nmN (h 148 0) b (p - b) = nv (h 148 0) b (p - b) := by unfold nmN; rw [if_pos (by omega)]
        have e4 : nmN (h 148 0) b (p + 1 - b) = 10 * nv (h 148 0) b (p - b) + h 148 0 p - 48 := by
          unfold nmN; rw [if_pos (by omega), e2]
          show 10 * nv (h 148 0) b (p - b) + h 148 0 (b + (p - b)) - 48 = _
          rw [show b + (p - b) = p by omega]
        have h8 : nv (h 148 0) b (p - b) ≤ 99 := hnv.2.2.1 (by omega)
        have h9 := hnv.1
        simp (disch := omega) only [x_4_1, x_6_0, x_33, x_65, x_34, x_38_148, x_1, x_64, x_66, x_10_1_A, x_60, x_61, x_12, x_13, x_11, x_36, u_62_213, u_62_210, hb8, hs_t, hs_eq, he, hb, tn, e3, e4, Int.reduceEq, Int.reduceLT, Int.reduceLE, reduceIte, Int.reduceAdd, Int.reduceSub, Int.reduceMul, Int.reduceNeg, Int.reduceToNat, Bool.false_eq_true, eq_self, if_pos, if_neg, ci, w32_id]
        rw [show hset (hset h 155 0 0 (nv (h 148 0) b (p - b))) 155 0 0 (10 * nv (h 148 0) b (p - b) + h 148 0 p - 48) = hset h 155 0 0 (10 * nv (h 148 0) b (p - b) + h 148 0 p - 48) by funext a c f; unfold hset; split <;> rfl]
      · have e4 : nmN (h 148 0) b (p + 1 - b) = 1000 := by unfold nmN; rw [if_neg (by omega)]
        simp (disch := omega) only [x_4_1, x_6_0, x_33, x_65, x_34, x_38_148, x_1, x_64, x_66, x_10_1_A, x_60, x_61, x_12, x_13, x_11, x_36, u_62_213, u_62_210, hb8, hs_t, hs_eq, he, hb, tn, e4, Int.reduceEq, Int.reduceLT, Int.reduceLE, reduceIte, Int.reduceAdd, Int.reduceSub, Int.reduceMul, Int.reduceNeg, Int.reduceToNat, Bool.false_eq_true, eq_self, if_pos, if_neg, ci, w32_id]
        rw [show ∀ v, hset (hset h 155 0 0 v) 155 0 0 1000 = hset h 155 0 0 1000 from fun v => by funext a c f; unfold hset; split <;> rfl]
    · have h6 := isD_f h5
      rw [show dE (h 148 0) e p = p from run_n _ _ h5, hd_62_149]
      by_cases h7 : h 148 0 p < 48
      · simp (disch := omega) only [x_4_1, x_6_0, x_33, x_65, x_34, x_38_148, x_1, x_64, x_66, hb8, hs_t, he, tn, Int.reduceEq, Int.reduceLT, Int.reduceLE, reduceIte, Int.reduceAdd, Int.reduceSub, Int.reduceMul, Int.reduceNeg, Int.reduceToNat, Bool.false_eq_true, eq_self, if_pos, if_neg]
      · simp (disch := omega) only [x_4_1, x_6_0, x_33, x_65, x_34, x_38_148, x_1, x_64, x_66, hb8, hs_t, he, tn, Int.reduceEq, Int.reduceLT, Int.reduceLE, reduceIte, Int.reduceAdd, Int.reduceSub, Int.reduceMul, Int.reduceNeg, Int.reduceToNat, Bool.false_eq_true, eq_self, if_pos, if_neg]
theorem dE_all (t : Nat → Int) (e : Nat) : ∀ d p, e - p = d → p ≤ e → ∀ j, p ≤ j → j < dE t e p → isD (t j) = true := by
  intro d
  induction d with
  | zero => intro p h1 h2 j h3 h4; rw [show p = e by omega, show dE t e e = e from runE _ _ _] at h4; omega
  | succ d ih =>
    intro p h1 h2 j h3 h4
    by_cases h5 : isD (t p) = true
    · rw [show dE t e p = dE t e (p + 1) from run_y _ _ (by omega) h5] at h4
      by_cases h6 : j = p
      · rw [h6]; exact h5
      · exact ih (p + 1) (by omega) (by omega) j (by omega) h4
    · rw [show dE t e p = p from run_n _ _ h5] at h4; omega
theorem tpR_n {tt k i : Nat} (h : ¬ tpR tt k i) : ¬ (tt = 151 ∧ k = 0 ∧ i = 0) ∧ ¬ (tt = 153 ∧ k = 0 ∧ i = 0) ∧ ¬ (tt = 154 ∧ k = 0 ∧ i = 0) ∧ ¬ (tt = 155 ∧ k = 0 ∧ i = 0) := by unfold tpR at h; omega
theorem advance_c (lv e b : Nat) (h : Hp) (he : h 152 0 0 = (e : Int)) (h400 : e ≤ 400) (hb : h 153 0 0 = (b : Int)) (hbe : b ≤ e) : cl (lv + 1) 62 [aA 8 0] h = rv (tpH h (h 148 0) e (sk (h 148 0) e b)) := by
  rw [in_62, u_62_0]
  simp (disch := omega) only [x_6_0, x_33, x_7_1_A, x_61, hb]
  rw [adv_s lv e h none he h400 _ b rfl hbe]
  have hp := sk_b (h 148 0) hbe
  generalize hpp : sk (h 148 0) e b = p at hp ⊢
  rw [u_62_30]
  have w8 : ∀ v0 v1 v2, hset (hset (hset h 151 0 0 v0) 154 0 0 v1) 155 0 0 v2 148 0 = h 148 0 := fun v0 v1 v2 => by funext i; rw [hs_t (by omega), hs_t (by omega), hs_t (by omega)]
  have fin : ∀ (h1 : Hp) (q : Nat) (g : AV), run lv 62 233 [aA 8 0, aI (q : Int), g] [] h1 = rv (hset h1 153 0 0 (q : Int)) := by
    intro h1 q g
    simp (disch := omega) only [u_62_233, x_6_0, x_4_1, x_36, x_83]
  by_cases h1 : p < e
  · by_cases h2 : isL (h 148 0 p) = true
    · have h3 := isL_t h2
      simp (disch := omega) only [x_4_1, x_6_0, x_33, x_65, x_34, x_38_148, x_1, x_64, x_66, x_60, x_61, x_36, x_7_2_I, x_4_2, x_63, u_62_94, u_62_97, hs_t, hs_eq, he, tn, w8, Int.reduceEq, Int.reduceLT, Int.reduceLE, reduceIte, Int.reduceAdd, Int.reduceSub, Int.reduceMul, Int.reduceNeg, Int.reduceToNat, Bool.false_eq_true, eq_self, if_pos, if_neg]
      have e1 := adv_w lv e (hset (hset (hset (hset h 151 0 0 (p : Int)) 154 0 0 0) 155 0 0 0) 154 0 0 1) (aI (h 148 0 p)) (by rw [hs_t (by omega), hs_t (by omega), hs_t (by omega), hs_t (by omega)]; exact he) h400 _ p rfl (by omega)
      have e2 : hset (hset (hset (hset h 151 0 0 (p : Int)) 154 0 0 0) 155 0 0 0) 154 0 0 1 148 0 = h 148 0 := by funext i; rw [hs_t (by omega), hs_t (by omega), hs_t (by omega), hs_t (by omega)]
      rw [e2] at e1
      rw [e1, fin]
      congr 1
      refine tp_ext ?_ ?_ ?_ ?_ ?_
      · simp (disch := omega) only [hs_t, hs_eq]
      · rw [hs_eq]; unfold tE; rw [if_pos h1, if_pos h2]
      · simp (disch := omega) only [hs_t, hs_eq]; unfold kdA; rw [if_pos h1, if_pos h2]
      · simp (disch := omega) only [hs_t, hs_eq]; unfold nuA; rw [if_neg (fun z => by have := isD_t z.2; omega)]
      · intro tt k i hn; obtain ⟨n1, n2, n3, n4⟩ := tpR_n hn; rw [hs_o n2, hs_o n3, hs_o n4, hs_o n3, hs_o n1]
    · have h3 := isL_f h2
      by_cases h4 : isD (h 148 0 p) = true
      · have h5 := isD_t h4
        simp (disch := omega) only [x_4_1, x_6_0, x_33, x_65, x_34, x_38_148, x_1, x_64, x_66, x_60, x_61, x_36, x_7_2_I, x_4_2, x_63, u_62_77, u_62_94, u_62_97, u_62_141, hs_t, hs_eq, he, tn, w8, Int.reduceEq, Int.reduceLT, Int.reduceLE, reduceIte, Int.reduceAdd, Int.reduceSub, Int.reduceMul, Int.reduceNeg, Int.reduceToNat, Bool.false_eq_true, eq_self, if_pos, if_neg]
        have e1 := adv_d lv e p (hset (hset (hset (hset h 151 0 0 (p : Int)) 154 0 0 0) 155 0 0 0) 154 0 0 2) (aI (h 148 0 p)) (by rw [hs_t (by omega), hs_t (by omega), hs_t (by omega), hs_t (by omega)]; exact he) h400 (by rw [hs_t (by omega), hs_t (by omega), hs_t (by omega), hs_eq]) _ p rfl (by omega) (Nat.le_refl _) (fun j hj => by omega)
        have e2 : hset (hset (hset (hset h 151 0 0 (p : Int)) 154 0 0 0) 155 0 0 0) 154 0 0 2 148 0 = h 148 0 := by funext i; rw [hs_t (by omega), hs_t (by omega), hs_t (by omega), hs_t (by omega)]
        rw [e2, Nat.sub_self, show nmN (h 148 0) p 0 = 0 from rfl] at e1
        have e3 : hset (hset (hset (hset (hset h 151 0 0 (p : Int)) 154 0 0 0) 155 0 0 0) 154 0 0 2) 155 0 0 0 = hset (hset (hset (hset h 151 0 0 (p : Int)) 154 0 0 0) 155 0 0 0) 154 0 0 2 := by
          funext a c f; unfold hset; by_cases q : a = 155 ∧ c = 0 ∧ f = 0
          · rw [if_pos q, if_neg (by omega), if_pos q]
          · rw [if_neg q]
        rw [e3] at e1
        rw [e1, fin]
        congr 1
        refine tp_ext ?_ ?_ ?_ ?_ ?_
        · simp (disch := omega) only [hs_t, hs_eq]
        · rw [hs_eq]; unfold tE; rw [if_pos h1, if_neg h2, if_pos h4]
        · simp (disch := omega) only [hs_t, hs_eq]; unfold kdA; rw [if_pos h1, if_neg h2, if_pos h4]
        · simp (disch := omega) only [hs_t, hs_eq]; unfold nuA; rw [if_pos ⟨h1, h4⟩]
        · intro tt k i hn; obtain ⟨n1, n2, n3, n4⟩ := tpR_n hn; rw [hs_o n2, hs_o n4, hs_o n3, hs_o n4, hs_o n3, hs_o n1]
      · have h5 := isD_f h4
        have key : run lv 62 30 [aA 8 0, aI (p : Int), none] [] h = rv (hset (hset (hset (hset (hset h 151 0 0 (p : Int)) 154 0 0 0) 155 0 0 0) 154 0 0 3) 153 0 0 ((p : Int) + 1)) := by
          rw [u_62_30]
          rcases h3 with h3 | h3
          · rcases h5 with h5 | h5
            · simp (disch := omega) only [x_4_1, x_6_0, x_33, x_65, x_34, x_38_148, x_1, x_64, x_66, x_60, x_61, x_36, x_7_2_I, x_4_2, x_63, x_10_1_A, x_83, u_62_77, u_62_93, u_62_94, u_62_97, u_62_141, u_62_222, u_62_233, hs_t, hs_eq, he, tn, w8, w32_id, Int.reduceEq, Int.reduceLT, Int.reduceLE, reduceIte, Int.reduceAdd, Int.reduceSub, Int.reduceMul, Int.reduceNeg, Int.reduceToNat, Bool.false_eq_true, eq_self, if_pos, if_neg]
            · simp (disch := omega) only [x_4_1, x_6_0, x_33, x_65, x_34, x_38_148, x_1, x_64, x_66, x_60, x_61, x_36, x_7_2_I, x_4_2, x_63, x_10_1_A, x_83, u_62_77, u_62_93, u_62_94, u_62_97, u_62_141, u_62_222, u_62_233, hs_t, hs_eq, he, tn, w8, w32_id, Int.reduceEq, Int.reduceLT, Int.reduceLE, reduceIte, Int.reduceAdd, Int.reduceSub, Int.reduceMul, Int.reduceNeg, Int.reduceToNat, Bool.false_eq_true, eq_self, if_pos, if_neg]
          · simp (disch := omega) only [x_4_1, x_6_0, x_33, x_65, x_34, x_38_148, x_1, x_64, x_66, x_60, x_61, x_36, x_7_2_I, x_4_2, x_63, x_10_1_A, x_83, u_62_77, u_62_93, u_62_94, u_62_97, u_62_141, u_62_222, u_62_233, hs_t, hs_eq, he, tn, w8, w32_id, Int.reduceEq, Int.reduceLT, Int.reduceLE, reduceIte, Int.reduceAdd, Int.reduceSub, Int.reduceMul, Int.reduceNeg, Int.reduceToNat, Bool.false_eq_true, eq_self, if_pos, if_neg]
        rw [u_62_30] at key
        rw [key]
        congr 1
        refine tp_ext ?_ ?_ ?_ ?_ ?_
        · simp (disch := omega) only [hs_t, hs_eq]
        · rw [hs_eq]; unfold tE; rw [if_pos h1, if_neg h2, if_neg h4]; rfl
        · simp (disch := omega) only [hs_t, hs_eq]; unfold kdA; rw [if_pos h1, if_neg h2, if_neg h4]
        · simp (disch := omega) only [hs_t, hs_eq]; unfold nuA; rw [if_neg (fun z => h4 z.2)]
        · intro tt k i hn; obtain ⟨n1, n2, n3, n4⟩ := tpR_n hn; rw [hs_o n2, hs_o n3, hs_o n4, hs_o n3, hs_o n1]
  · simp (disch := omega) only [x_4_1, x_6_0, x_33, x_65, x_1, x_60, x_61, x_36, x_63, u_62_97, u_62_141, u_62_222, fin, hs_t, hs_eq, he, Int.reduceEq, Int.reduceLT, Int.reduceLE, reduceIte, Int.reduceAdd, Int.reduceSub, Int.reduceMul, Int.reduceNeg, Int.reduceToNat, Bool.false_eq_true, eq_self, if_pos, if_neg]
    congr 1
    refine tp_ext ?_ ?_ ?_ ?_ ?_
    · simp (disch := omega) only [hs_t, hs_eq]
    · rw [hs_eq]; unfold tE; rw [if_neg h1]
    · simp (disch := omega) only [hs_t, hs_eq]; unfold kdA; rw [if_neg h1]
    · simp (disch := omega) only [hs_t, hs_eq]; unfold nuA; rw [if_neg (fun z => h1 z.1)]
    · intro tt k i hn; obtain ⟨n1, n2, n3, n4⟩ := tpR_n hn; rw [hs_o n2, hs_o n4, hs_o n3, hs_o n1]
