/-! THE LAW's TEXT (the class's reader): lines, and the whole. -/
def kdL (L : List LN) (i : Nat) : Int := (L.map (fun x => (x.1 : Int))).getD i 0
def amL (L : List LN) (i : Nat) : Int := (L.map (fun x => x.2.1)).getD i 0
def tkL (L : List LN) : Int := (L.map (fun x => if x.1 = 2 then (1 : Int) else 0)).sum
def codesOf (L : List LN) : List Int := L.flatMap (fun x => x.2.2.1 ++ [15])
def lnH (h : Hp) (L : List LN) : Hp := fun tt k i => if tt = 105 ∧ k = 2 ∧ i < L.length then kdL L i else if tt = 106 ∧ k = 2 ∧ i < L.length then amL L i else if tt = 110 ∧ k = 2 ∧ i = 0 then tkL L else if tt = 113 ∧ k = 2 ∧ i = 0 then (L.length : Int) else h tt k i
theorem codesOf_a (L : List LN) (x : LN) : codesOf (L ++ [x]) = codesOf L ++ x.2.2.1 ++ [15] := by unfold codesOf; simp
theorem getD_a (f : LN → Int) (L : List LN) (x : LN) (i : Nat) : ((L ++ [x]).map f).getD i 0 = if i < L.length then (L.map f).getD i 0 else if i = L.length then f x else 0 := by
  by_cases h1 : i < L.length
  · rw [if_pos h1, List.map_append, List.getD_eq_getElem?_getD, List.getElem?_append_left (by rw [List.length_map]; exact h1), ← List.getD_eq_getElem?_getD]
  · rw [if_neg h1, List.map_append, List.getD_eq_getElem?_getD, List.getElem?_append_right (by rw [List.length_map]; omega), List.length_map]
    by_cases h2 : i = L.length
    · rw [if_pos h2, h2, Nat.sub_self]; rfl
    · rw [if_neg h2, show i - L.length = (i - L.length - 1) + 1 by omega]; rfl
theorem tkL_a (L : List LN) (x : LN) : tkL (L ++ [x]) = tkL L + (if x.1 = 2 then 1 else 0) := by unfold tkL; simp
theorem tkL_b (L : List LN) : 0 ≤ tkL L ∧ tkL L ≤ (L.length : Int) := by
  induction L with
  | nil => exact ⟨by decide, by decide⟩
  | cons x L ih =>
    have e1 : tkL (x :: L) = (if x.1 = 2 then 1 else 0) + tkL L := by unfold tkL; simp
    rw [e1, List.length_cons]
    split <;> omega
theorem LT_hs {h : Hp} {cs : List Int} {t : Nat → Int} {e p t0 k0 i0 : Nat} {v : Int} (ht : t0 ≠ 104 ∧ t0 ≠ 109 ∧ t0 ≠ 151 ∧ t0 ≠ 153 ∧ t0 ≠ 154 ∧ t0 ≠ 155) : hset (LT h cs t e p) t0 k0 i0 v = LT (hset h t0 k0 i0 v) cs t e p := by
  funext tt k i
  by_cases h1 : tt = t0 ∧ k = k0 ∧ i = i0
  · rw [h1.1, h1.2.1, h1.2.2, hs_eq]
    unfold LT
    rw [tp_tag (by omega), em_t (by omega), hs_eq]
  · rw [hs_o h1]
    unfold LT
    by_cases hR : tpR tt k i
    · unfold tpH
      rw [if_pos hR, if_pos hR]
    · rw [tp_o hR, tp_o hR]
      unfold emH
      rw [hs_o h1]
theorem ln_o {h : Hp} {L : List LN} {tt k i : Nat} (ht : tt ≠ 105 ∧ tt ≠ 106 ∧ tt ≠ 110 ∧ tt ≠ 113) : lnH h L tt k i = h tt k i := by
  unfold lnH; rw [if_neg (by omega), if_neg (by omega), if_neg (by omega), if_neg (by omega)]
theorem ln_B {h : Hp} {L : List LN} {t : Nat → Int} {e : Nat} (B : Bt h t e) : Bt (lnH h L) t e := ⟨by funext i; rw [ln_o (by omega), B.1], by rw [ln_o (by omega)]; exact B.2.1, B.2.2⟩
theorem ln_add (h : Hp) (L : List LN) (x : LN) : hset (hset (hset (hset (lnH h L) 105 2 L.length (x.1 : Int)) 106 2 L.length x.2.1) 113 2 0 ((L.length : Int) + 1)) 110 2 0 (tkL L + (if x.1 = 2 then 1 else 0)) = lnH h (L ++ [x]) := by
  funext tt k i
  unfold hset lnH
  simp only [List.length_append, List.length_cons, List.length_nil, kdL, amL, getD_a, tkL_a]
  by_cases hk : k = 2
  · subst hk
    by_cases c1 : tt = 110
    · subst c1; by_cases ci : i = 0 <;> simp [ci]
    by_cases c2 : tt = 113
    · subst c2; by_cases ci : i = 0 <;> simp [ci]
    by_cases c3 : tt = 105
    · subst c3
      by_cases ci : i < L.length
      · have : ¬ i = L.length := by omega
        have : i < L.length + 1 := by omega
        simp [*]
      · by_cases cj : i = L.length
        · subst cj; simp
        · have : ¬ i < L.length + 1 := by omega
          simp [*]
    by_cases c4 : tt = 106
    · subst c4
      by_cases ci : i < L.length
      · have : ¬ i = L.length := by omega
        have : i < L.length + 1 := by omega
        simp [*]
      · by_cases cj : i = L.length
        · subst cj; simp
        · have : ¬ i < L.length + 1 := by omega
          simp [*]
    simp [*]
  · simp [hk]
theorem lt_ln (h : Hp) (L : List LN) (cs : List Int) (t : Nat → Int) (e p tt k i : Nat) (ht : tt ≠ 104 ∧ tt ≠ 109 ∧ tt ≠ 151 ∧ tt ≠ 153 ∧ tt ≠ 154 ∧ tt ≠ 155) : LT (lnH h L) cs t e p tt k i = lnH h L tt k i := by
  unfold LT
  rw [tp_tag (by omega), em_t (by omega)]
theorem close_c (lv : Nat) (h : Hp) (L : List LN) (cs : List Int) (t : Nat → Int) (e p : Nat) (x : LN) (hL : L.length < 12) (hl : cs.length < 400) : cl (lv + 2) 8 [aA 1 2, aI (x.1 : Int), aI x.2.1] (LT (lnH h L) cs t e p) = rv (LT (lnH h (L ++ [x])) (cs ++ [15]) t e p) := by
  have e1 : LT (lnH h L) cs t e p 113 2 0 = (L.length : Int) := by
    rw [lt_ln _ _ _ _ _ _ _ _ _ (by omega)]; unfold lnH; rw [if_neg (by omega), if_neg (by omega), if_neg (by omega), if_pos (by omega)]
  have e2 : LT (lnH h L) cs t e p 110 2 0 = tkL L := by
    rw [lt_ln _ _ _ _ _ _ _ _ _ (by omega)]; unfold lnH; rw [if_neg (by omega), if_neg (by omega), if_pos (by omega)]
  have hb := tkL_b L
  have ed := ln_add h L x
  have em := emit_c lv (lnH h (L ++ [x])) cs t e p 15 hl
  rw [← ed] at em ⊢
  rw [← LT_hs (by omega), ← LT_hs (by omega), ← LT_hs (by omega), ← LT_hs (by omega)] at em
  rw [in_8]
  by_cases hk : x.1 = 2
  · have hk' : (x.1 : Int) = 2 := by omega
    rw [if_pos hk] at em ⊢
    simp (disch := omega) only [x_6_0, x_33, x_70, x_1, x_64, x_61, x_83, x_34, x_4_1, x_39_105, x_39_106, x_4_2, x_47_I, x_47_A, x_11, x_36, x_63, x_60, x_79_2_1_d0, x_79_2_1_d1, x_79_2_1_d2, x_79_2_1_d3, x_79_2_1_d4, cb_ri, cb_rl, cb_rv, cb_th, cb_ite, ps_s, ps_n, u_8_0, u_8_16, u_8_17, u_8_61, u_8_62, e1, e2, hs_t, hs_eq, tn, w32_id, hk', Int.reduceEq, Int.reduceLT, Int.reduceLE, reduceIte, Int.reduceAdd, Int.reduceSub, Int.reduceMul, Int.reduceNeg, Int.reduceToNat, Bool.false_eq_true, eq_self, if_pos, if_neg]
    rw [hk'] at em
    rw [em]
    rfl
  · have hk' : ¬ (x.1 : Int) = 2 := by omega
    rw [if_neg hk] at em ⊢
    simp (disch := omega) only [x_6_0, x_33, x_70, x_1, x_64, x_61, x_83, x_34, x_4_1, x_39_105, x_39_106, x_4_2, x_47_I, x_47_A, x_11, x_36, x_63, x_60, x_79_2_1_d0, x_79_2_1_d1, x_79_2_1_d2, x_79_2_1_d3, x_79_2_1_d4, cb_ri, cb_rl, cb_rv, cb_th, cb_ite, ps_s, ps_n, u_8_0, u_8_16, u_8_17, u_8_61, u_8_62, e1, e2, hs_t, hs_eq, tn, w32_id, hk', Int.reduceEq, Int.reduceLT, Int.reduceLE, reduceIte, Int.reduceAdd, Int.reduceSub, Int.reduceMul, Int.reduceNeg, Int.reduceToNat, Bool.false_eq_true, eq_self, if_pos, if_neg]
    rw [em]
    rfl
