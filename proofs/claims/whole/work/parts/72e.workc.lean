theorem gainS_a (F : Nat → Int) (L1 L2 : List LN) : gainS F (L1 ++ L2) = gainS F L1 + gainS F L2 := by
  induction L1 with
  | nil => simp [gainS]
  | cons x L ih => simp only [List.cons_append, gainS, ih]; omega
theorem takeS_a (F : Nat → Int) (L1 L2 : List LN) : takeS F (L1 ++ L2) = (takeS F L1 || takeS F L2) := by
  induction L1 with
  | nil => simp [takeS]
  | cons x L ih => simp only [List.cons_append, takeS, ih, Bool.or_assoc]
theorem gainS_b (F : Nat → Int) (L : List LN) (hL : ∀ x ∈ L, LnG x) : -40 * (L.length : Int) ≤ gainS F L ∧ gainS F L ≤ 40 * (L.length : Int) := by
  induction L with
  | nil => simp [gainS]
  | cons x L ih =>
    have h1 := ih (fun y hy => hL y (List.mem_cons_of_mem _ hy))
    have g := hL x List.mem_cons_self
    have h2 : -40 ≤ gn1 F x ∧ gn1 F x ≤ 40 := by
      unfold gn1
      have a := g.2.2.1
      have b := g.2.2.2.1
      split
      · split <;> omega
      · omega
    simp only [gainS, List.length_cons]
    omega
/-- what the law's object needs for its work -/
def LawW (h : Hp) (k : Nat) (L : List LN) : Prop := h 110 k 0 = tkL L ∧ h 109 k 0 = ((codesOf L).length : Int) ∧ (∀ i, i < L.length → h 105 k i = kdL L i ∧ h 106 k i = amL L i) ∧ (∀ i, i < (codesOf L).length → h 104 k i = (codesOf L).getD i 0) ∧ L.length ≤ 12 ∧ (codesOf L).length ≤ 400 ∧ ∀ x ∈ L, LnG x
theorem getD_app (a b : List Int) (i : Nat) : (a ++ b).getD i 0 = if i < a.length then a.getD i 0 else b.getD (i - a.length) 0 := by
  rw [List.getD_eq_getElem?_getD]
  by_cases h : i < a.length
  · rw [if_pos h, List.getElem?_append_left h, List.getD_eq_getElem?_getD]
  · rw [if_neg h, List.getElem?_append_right (by omega), List.getD_eq_getElem?_getD]
theorem codesOf_app (L1 L2 : List LN) : codesOf (L1 ++ L2) = codesOf L1 ++ codesOf L2 := by unfold codesOf; simp
theorem work_w (lv k s : Nat) (F : Nat → Int) (h : Hp) (n : Int) (L : List LN) (W : LawW h k L) (hF : ∀ i, i < 9 → h 107 k i = F i) (hO : FOk F) : ∀ (L2 L1 : List LN) (H : Hp) (x6 x7 x8 : AV), L = L1 ++ L2 → WK h H k [] (gainS F L1) (boI (takeS F L1)) →
    ∃ H', run lv 12 88 [aA 1 k, aA 7 s, aI n, aI (L1.length : Int), aI 0, aI ((codesOf L1).length : Int), x6, x7, x8] [] H = rv H' ∧ WK h H' k [] (gainS F L) (boI (takeS F L)) := by
  obtain ⟨W1, W2, W3, W4, W5, W6, W7⟩ := W
  intro L2
  induction L2 with
  | nil =>
    intro L1 H x6 x7 x8 hL w
    rw [List.append_nil] at hL
    subst hL
    have e2 : H 109 k 0 = ((codesOf L).length : Int) := by rw [w.1 _ _ _ (by omega)]; exact W2
    refine ⟨H, ?_, w⟩
    rw [hd_12_88]
    simp (disch := omega) only [x_6_0, x_34, x_1, x_6_1, x_4_2, x_38_104, x_38_105, x_38_106, x_38_107, x_38_108, x_38_134, x_38_135, x_38_136, x_39_104, x_39_105, x_39_106, x_39_107, x_39_108, x_39_134, x_39_135, x_39_136, x_33, x_65, x_60, x_61, x_36, x_37, x_7_3_I, x_7_3_A, x_7_3_U, x_7_4_I, x_7_4_A, x_7_4_U, x_7_5_I, x_7_5_A, x_7_5_U, x_4_5, x_7_6_I, x_7_6_A, x_7_6_U, x_4_6, x_64, x_4_4, x_12, x_10_4_I, x_10_4_A, x_10_4_U, x_63, x_68, x_4_3, x_47_I, x_47_A, x_69, x_16, x_11, x_18, x_10_3_I, x_10_3_A, x_10_3_U, x_7_7_I, x_7_7_A, x_7_7_U, x_7_8_I, x_7_8_A, x_7_8_U, x_76, x_4_7, x_4_8, x_67, x_17, x_10_5_I, x_10_5_A, x_10_5_U, x_83, sw_n, sw_c, u_12_0, u_12_68, u_12_69, u_12_120, u_12_148, u_12_155, u_12_162, u_12_198, u_12_252, u_12_259, u_12_282, u_12_283, u_12_287, u_12_296, u_12_356, u_12_373, u_12_392, u_12_393, u_12_397, u_12_416, u_12_417, u_12_421, u_12_438, u_12_452, u_12_458, e2, Int.reduceEq, Int.reduceLT, Int.reduceLE, reduceIte, Int.reduceAdd, Int.reduceSub, Int.reduceMul, Int.reduceNeg, Int.reduceToNat, Bool.false_eq_true, eq_self, if_pos, if_neg]
  | cons x L2 ih =>
    intro L1 H x6 x7 x8 hL w
    have hx : x ∈ L := by rw [hL]; simp
    have g := W7 x hx
    have hc : codesOf L = codesOf L1 ++ (x.2.2.1 ++ ([15] ++ codesOf L2)) := by rw [hL, codesOf_app]; unfold codesOf; simp
    have hcl : (codesOf L).length = (codesOf L1).length + (x.2.2.1.length + (1 + (codesOf L2).length)) := by rw [hc]; simp only [List.length_append, List.length_cons, List.length_nil]
    have hll : L.length = L1.length + (L2.length + 1) := by rw [hL]; simp only [List.length_append, List.length_cons]
    have gb := gainS_b F L1 (fun y hy => W7 y (by rw [hL]; exact List.mem_append_left _ hy))
    obtain ⟨H1, a6, a7, a8, r1, w1⟩ := work_l lv k s F h n (L1.length : Int) (codesOf L).length (gainS F L1) (boI (takeS F L1)) hF W2 W6 x.2.2.1 (codesOf L1).length [] [if x.2.2.2 F = true then 1 else 0] H x6 x7 x8 w (by omega) (by
      intro i hi
      rw [W4 _ (by omega), hc, getD_app, if_neg (by omega), show (codesOf L1).length + i - (codesOf L1).length = i by omega, getD_app, if_pos hi]) g.1 (by simp) (g.2.2.2.2 F hO)
    have hk : kdL L L1.length = (x.1 : Int) ∧ amL L L1.length = x.2.1 := by
      unfold kdL amL
      rw [hL, List.map_append, List.map_append, List.getD_eq_getElem?_getD, List.getD_eq_getElem?_getD, List.getElem?_append_right (by rw [List.length_map]; omega), List.getElem?_append_right (by rw [List.length_map]; omega), List.length_map, List.length_map, Nat.sub_self]
      exact ⟨rfl, rfl⟩
    have hw := W3 L1.length (by omega)
    obtain ⟨H2, b6, b7, b8, r2, w2⟩ := work_e lv k s F h H1 n L1.length ((codesOf L1).length + x.2.2.1.length) (codesOf L).length x (gainS F L1) (takeS F L1) a6 a7 a8 w1 W2 (by omega) W6 (by
      rw [W4 _ (by omega), hc, getD_app, if_neg (by omega), getD_app, if_neg (by omega), show (codesOf L1).length + x.2.2.1.length - (codesOf L1).length - x.2.2.1.length = 0 by omega]
      rfl) (by omega) (by rw [hw.1]; exact hk.1) (by rw [hw.2]; exact hk.2) g (by omega)
    have q1 : gainS F (L1 ++ [x]) = gainS F L1 + gn1 F x := by rw [gainS_a]; simp [gainS]
    have q2 : takeS F (L1 ++ [x]) = (takeS F L1 || tk1 F x) := by rw [takeS_a]; simp [takeS]
    rw [← q1, ← q2] at w2
    obtain ⟨H3, r3, w3⟩ := ih (L1 ++ [x]) H2 b6 b7 b8 (by rw [hL]; simp) w2
    refine ⟨H3, ?_, w3⟩
    have q3 : (L1 ++ [x]).length = L1.length + 1 := by simp
    have q4 : (codesOf (L1 ++ [x])).length = (codesOf L1).length + x.2.2.1.length + 1 := by rw [codesOf_a]; simp only [List.length_append, List.length_cons, List.length_nil]
    rw [q3, q4] at r3
    refine Eq.trans r1 (Eq.trans r2 r3)
def lwFr (k tt kk : Nat) : Prop := kk = k ∧ (tt = 107 ∨ tt = 108 ∨ tt = 111 ∨ tt = 112)
theorem work_c (lv k s n : Nat) (F : Nat → Int) (h : Hp) (L : List LN) (W : LawW h k L) (hO : FOk F) (hn : n < 14) (f0 : h 107 k 0 = F 0) (f1 : h 135 s n = F 1) (f2 : h 136 s n = F 2) (f3 : h 107 k 3 = F 3) (f4 : h 107 k 4 = F 4) (f5 : h 134 s n = F 5) (f6 : h 145 s 0 = F 6) (f7 : h 107 k 7 = F 7) (f8 : (if h 135 s n < 32 then 1 else 0) = F 8) :
    ∃ h', cl (lv + 1) 12 [aA 1 k, aA 7 s, aI (n : Int)] h = rv h' ∧ h' 111 k 0 = gainS F L ∧ h' 112 k 0 = boI (takeS F L) ∧ ∀ tt kk i, ¬ lwFr k tt kk → h' tt kk i = h tt kk i := by
  let h1 : Hp := hset (hset (hset (hset (hset (hset (hset h 107 k 1 (F 1)) 107 k 2 (F 2)) 107 k 5 (F 5)) 107 k 6 (F 6)) 107 k 8 (F 8)) 111 k 0 0) 112 k 0 0
  have same : ∀ tt kk i, ¬ lwFr k tt kk → h1 tt kk i = h tt kk i := by
    intro tt kk i hf
    unfold lwFr at hf
    show hset _ _ _ _ _ _ _ _ = _
    rw [hs_o (by omega), hs_o (by omega), hs_o (by omega), hs_o (by omega), hs_o (by omega), hs_o (by omega), hs_o (by omega)]
  have W' : LawW h1 k L := by
    obtain ⟨W1, W2, W3, W4, W5⟩ := W
    refine ⟨?_, ?_, ?_, ?_, W5⟩
    · rw [same _ _ _ (by unfold lwFr; omega)]; exact W1
    · rw [same _ _ _ (by unfold lwFr; omega)]; exact W2
    · intro i hi; rw [same _ _ _ (by unfold lwFr; omega), same _ _ _ (by unfold lwFr; omega)]; exact W3 i hi
    · intro i hi; rw [same _ _ _ (by unfold lwFr; omega)]; exact W4 i hi
  have hF : ∀ i, i < 9 → h1 107 k i = F i := by
    intro i hi
    show hset _ _ _ _ _ _ _ _ = _
    rw [hs_o (by omega), hs_o (by omega)]
    have hc : i = 0 ∨ i = 1 ∨ i = 2 ∨ i = 3 ∨ i = 4 ∨ i = 5 ∨ i = 6 ∨ i = 7 ∨ i = 8 := by omega
    rcases hc with c | c | c | c | c | c | c | c | c <;> subst c <;> simp [hset, *]
  have w0 : WK h1 h1 k [] (gainS F []) (boI (takeS F [])) := ⟨fun _ _ _ _ => rfl, by intro i hi; simp at hi, by show hset _ _ _ _ _ _ _ _ = _; rw [hs_o (by omega), hs_eq]; rfl, by show hset _ _ _ _ _ _ _ _ = _; rw [hs_eq]; rfl⟩
  obtain ⟨H', r, w⟩ := work_w lv k s F h1 (n : Int) L W' hF hO L [] h1 none none none rfl w0
  refine ⟨H', ?_, w.2.2.1, w.2.2.2, ?_⟩
  · have r' : run lv 12 88 [aA 1 k, aA 7 s, aI (n : Int), aI 0, aI 0, aI 0, none, none, none] [] h1 = rv H' := r
    rw [← r', in_12]
    by_cases c : h 135 s n < 32
    · rw [if_pos c] at f8
      rw [f1] at c
      simp (disch := omega) only [x_6_0, x_34, x_1, x_6_1, x_4_2, x_38_104, x_38_105, x_38_106, x_38_107, x_38_108, x_38_134, x_38_135, x_38_136, x_39_104, x_39_105, x_39_106, x_39_107, x_39_108, x_39_134, x_39_135, x_39_136, x_33, x_65, x_60, x_61, x_36, x_37, x_7_3_I, x_7_3_A, x_7_3_U, x_7_4_I, x_7_4_A, x_7_4_U, x_7_5_I, x_7_5_A, x_7_5_U, x_4_5, x_7_6_I, x_7_6_A, x_7_6_U, x_4_6, x_64, x_4_4, x_12, x_10_4_I, x_10_4_A, x_10_4_U, x_63, x_68, x_4_3, x_47_I, x_47_A, x_69, x_16, x_11, x_18, x_10_3_I, x_10_3_A, x_10_3_U, x_7_7_I, x_7_7_A, x_7_7_U, x_7_8_I, x_7_8_A, x_7_8_U, x_76, x_4_7, x_4_8, x_67, x_17, x_10_5_I, x_10_5_A, x_10_5_U, x_83, sw_n, sw_c, u_12_0, u_12_68, u_12_69, u_12_120, u_12_148, u_12_155, u_12_162, u_12_198, u_12_252, u_12_259, u_12_282, u_12_283, u_12_287, u_12_296, u_12_356, u_12_373, u_12_392, u_12_393, u_12_397, u_12_416, u_12_417, u_12_421, u_12_438, u_12_452, u_12_458, f1, f2, f5, f6, ← f8, hs_t, tn, c, Int.reduceEq, Int.reduceLT, Int.reduceLE, reduceIte, Int.reduceAdd, Int.reduceSub, Int.reduceMul, Int.reduceNeg, Int.reduceToNat, Bool.false_eq_true, eq_self, if_pos, if_neg, h1]
    · rw [if_neg c] at f8
      rw [f1] at c
      simp (disch := omega) only [x_6_0, x_34, x_1, x_6_1, x_4_2, x_38_104, x_38_105, x_38_106, x_38_107, x_38_108, x_38_134, x_38_135, x_38_136, x_39_104, x_39_105, x_39_106, x_39_107, x_39_108, x_39_134, x_39_135, x_39_136, x_33, x_65, x_60, x_61, x_36, x_37, x_7_3_I, x_7_3_A, x_7_3_U, x_7_4_I, x_7_4_A, x_7_4_U, x_7_5_I, x_7_5_A, x_7_5_U, x_4_5, x_7_6_I, x_7_6_A, x_7_6_U, x_4_6, x_64, x_4_4, x_12, x_10_4_I, x_10_4_A, x_10_4_U, x_63, x_68, x_4_3, x_47_I, x_47_A, x_69, x_16, x_11, x_18, x_10_3_I, x_10_3_A, x_10_3_U, x_7_7_I, x_7_7_A, x_7_7_U, x_7_8_I, x_7_8_A, x_7_8_U, x_76, x_4_7, x_4_8, x_67, x_17, x_10_5_I, x_10_5_A, x_10_5_U, x_83, sw_n, sw_c, u_12_0, u_12_68, u_12_69, u_12_120, u_12_148, u_12_155, u_12_162, u_12_198, u_12_252, u_12_259, u_12_282, u_12_283, u_12_287, u_12_296, u_12_356, u_12_373, u_12_392, u_12_393, u_12_397, u_12_416, u_12_417, u_12_421, u_12_438, u_12_452, u_12_458, f1, f2, f5, f6, ← f8, hs_t, tn, c, Int.reduceEq, Int.reduceLT, Int.reduceLE, reduceIte, Int.reduceAdd, Int.reduceSub, Int.reduceMul, Int.reduceNeg, Int.reduceToNat, Bool.false_eq_true, eq_self, if_pos, if_neg, h1]
  · intro tt kk i hf
    rw [w.1 _ _ _ (by unfold lwFr at hf; omega)]
    exact same tt kk i hf
