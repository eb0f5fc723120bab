/-! WHAT THE LAW SAYS OF A HAND AND A NOTE (the reference). -/
def mbFr (tt k : Nat) : Prop := maFr tt k ∨ (k = 0 ∧ tt = 201)
theorem rch_m (lv i n H N : Nat) (b : Int) (h : Hp) (L : List LN) (hL : LM (h 187 0) L) (G : GM (h 187 0) H N) (hW : ∀ x ∈ L, LnG x) (hl : L.length ≤ 12) (hi : i < H) (hn : n < N) (hb : 0 ≤ b ∧ b ≤ 100) :
    ∃ h', cl (lv + 33) 213 [aA 12 0, aI (i : Int), aI (n : Int), aI b] h = ri (rchV (h 187 0) L i n b) h' ∧ ∀ tt k j, ¬ mbFr tt k → h' tt k j = h tt k j := by
  have hH := G.1.2.1
  have hN := G.2.1.2.1
  have m3 := G.1.1
  have gi := G.1.2.2 i hi
  have gn := G.2.1.2.2.1 n hn
  have hO := nmH_ok (b := b) G hi hn hb
  have i0 : ∀ h', cl (lv + 32) 173 [aA 12 0, aI (i : Int), aI 0] h' = ri (h' 187 0 (14 + 6 * i)) h' := fun h' => its_c (lv + 31) i 0 h' (by omega) (by omega)
  have i1 : ∀ h', cl (lv + 32) 173 [aA 12 0, aI (i : Int), aI 1] h' = ri (h' 187 0 (14 + 6 * i + 1)) h' := fun h' => its_c (lv + 31) i 1 h' (by omega) (by omega)
  have i2 : ∀ h', cl (lv + 32) 173 [aA 12 0, aI (i : Int), aI 2] h' = ri (h' 187 0 (14 + 6 * i + 2)) h' := fun h' => its_c (lv + 31) i 2 h' (by omega) (by omega)
  have i4 : ∀ h', cl (lv + 32) 173 [aA 12 0, aI (i : Int), aI 4] h' = ri (h' 187 0 (14 + 6 * i + 4)) h' := fun h' => its_c (lv + 31) i 4 h' (by omega) (by omega)
  have o1 : ∀ h', cl (lv + 32) 175 [aA 12 0, aI (n : Int), aI 1] h' = ri (h' 187 0 (50 + 4 * n + 1)) h' := fun h' => ofNote_c (lv + 31) n 1 h' (by omega) (by omega)
  let h0 : Hp := hset (hset (hset (hset h 200 0 0 (i : Int)) 200 0 3 (h 187 0 (14 + 6 * i + 4))) 200 0 4 (h 187 0 (14 + 6 * i))) 201 0 0 (if h 187 0 (50 + 4 * n + 1) < h 187 0 (14 + 6 * i + 1) then 1 else 0)
  have same : ∀ tt k j, ¬ mbFr tt k → h0 tt k j = h tt k j := by
    intro tt k j hf
    unfold mbFr maFr at hf
    show hset _ _ _ _ _ _ _ _ = _
    rw [hs_o (by omega), hs_o (by omega), hs_o (by omega), hs_o (by omega)]
  have s7 : h0 187 0 = h 187 0 := by funext j; exact same _ _ _ (by unfold mbFr maFr; omega)
  obtain ⟨h', a1, a2, a3, a4, a5⟩ := asks_m lv n b h0 (nmH (h 187 0) i n b) L (by rw [s7]; exact hL) (by omega) hO (by simp [h0, hset, nmH, nmV, fN]) (by rw [s7]; rfl) (by rw [s7]; rfl) (by simp [h0, hset, nmH, nmV, fN]) (by simp [h0, hset, nmH, nmV, fN]) rfl (by rw [s7]; rfl) (by simp [h0, hset, nmH, nmV, fN]) rfl
  have hall : ∀ tt k j, ¬ mbFr tt k → h' tt k j = h tt k j := fun tt k j hf => by rw [a5 tt k j (fun z => hf (Or.inl z)), same tt k j hf]
  have t7 : ∀ j, h' 187 0 j = h 187 0 j := fun j => hall _ _ _ (by unfold mbFr maFr; omega)
  have gb := gainS_b (nmH (h 187 0) i n b) L hW
  refine ⟨h', ?_, hall⟩
  have i2' : cl (lv + 32) 173 [aA 12 0, aI (i : Int), aI 2] h' = ri (h 187 0 (14 + 6 * i + 2)) h' := by rw [i2, t7]
  rw [in_213]
  unfold rchV
  by_cases c : h 187 0 (50 + 4 * n + 1) < h 187 0 (14 + 6 * i + 1)
  · have e0 : h0 = hset (hset (hset (hset h 200 0 0 (i : Int)) 200 0 3 (h 187 0 (14 + 6 * i + 4))) 200 0 4 (h 187 0 (14 + 6 * i))) 201 0 0 1 := by show hset _ _ _ _ _ = _; rw [if_pos c]
    rw [e0] at a1
    simp (disch := omega) only [x_4_1, x_6_0, x_34, x_1, x_38_187, x_38_200, x_65, x_60, x_61, x_7_4_I, x_7_4_A, x_7_4_U, x_4_4, x_68, x_79_3_12_d0, x_79_3_12_d1, x_79_3_12_d2, x_79_3_12_d3, x_79_3_12_d4, x_33, x_7_5_I, x_7_5_A, x_7_5_U, x_39_187, x_39_200, x_4_2, x_4_5, x_37, x_4_3, x_11, x_80_2_d0, x_80_2_d1, x_80_2_d2, x_80_2_d3, x_80_2_d4, x_82, cb_ri, cb_rl, cb_rv, cb_th, cb_ite, ps_s, ps_n, u_213_0, u_213_14, u_213_15, u_213_31, u_213_35, u_213_63, u_213_64, u_213_84, u_213_85, u_213_102, u_213_103, u_213_127, u_213_129, m3, i0, i1, i4, o1, c, hs_t, a1, i2', a2, w32_id, greater_c, Int.reduceEq, Int.reduceLT, Int.reduceLE, reduceIte, Int.reduceAdd, Int.reduceSub, Int.reduceMul, Int.reduceNeg, Int.reduceToNat, Bool.false_eq_true, eq_self, if_pos, if_neg]
  · have e0 : h0 = hset (hset (hset (hset h 200 0 0 (i : Int)) 200 0 3 (h 187 0 (14 + 6 * i + 4))) 200 0 4 (h 187 0 (14 + 6 * i))) 201 0 0 0 := by show hset _ _ _ _ _ = _; rw [if_neg c]
    rw [e0] at a1
    simp (disch := omega) only [x_4_1, x_6_0, x_34, x_1, x_38_187, x_38_200, x_65, x_60, x_61, x_7_4_I, x_7_4_A, x_7_4_U, x_4_4, x_68, x_79_3_12_d0, x_79_3_12_d1, x_79_3_12_d2, x_79_3_12_d3, x_79_3_12_d4, x_33, x_7_5_I, x_7_5_A, x_7_5_U, x_39_187, x_39_200, x_4_2, x_4_5, x_37, x_4_3, x_11, x_80_2_d0, x_80_2_d1, x_80_2_d2, x_80_2_d3, x_80_2_d4, x_82, cb_ri, cb_rl, cb_rv, cb_th, cb_ite, ps_s, ps_n, u_213_0, u_213_14, u_213_15, u_213_31, u_213_35, u_213_63, u_213_64, u_213_84, u_213_85, u_213_102, u_213_103, u_213_127, u_213_129, m3, i0, i1, i4, o1, c, hs_t, a1, i2', a2, w32_id, greater_c, Int.reduceEq, Int.reduceLT, Int.reduceLE, reduceIte, Int.reduceAdd, Int.reduceSub, Int.reduceMul, Int.reduceNeg, Int.reduceToNat, Bool.false_eq_true, eq_self, if_pos, if_neg]
theorem hasTk_tk (L : List LN) : hasTk L = decide (tkL L ≠ 0) := by
  have key : ∀ L : List LN, (hasTk L = true → 1 ≤ tkL L) ∧ (hasTk L = false → tkL L = 0) := by
    intro L
    induction L with
    | nil => exact ⟨fun h => by simp [hasTk] at h, fun _ => rfl⟩
    | cons x L ih =>
      have hb := (tkL_b L).1
      have e1 : tkL (x :: L) = (if x.1 = 2 then 1 else 0) + tkL L := by unfold tkL; simp
      have e2 : hasTk (x :: L) = (decide (x.1 = 2) || hasTk L) := by unfold hasTk; simp
      rw [e1, e2]
      by_cases c : x.1 = 2
      · simp only [c, decide_true, Bool.true_or, if_true]; exact ⟨fun _ => by omega, fun h => by cases h⟩
      · simp only [c, decide_false, Bool.false_or, if_false]; exact ⟨fun h => by have := ih.1 h; omega, fun h => by have := ih.2 h; omega⟩
  cases h : hasTk L with
  | true => have := (key L).1 h; simp; omega
  | false => have := (key L).2 h; simp [this]
/-- a hand at some key: how far a note is; how far it reaches -/
def dsV (M : Nat → Int) (n : Nat) (at' : Int) : Int := if M (50 + 4 * n + 1) - at' < 0 then -(M (50 + 4 * n + 1) - at') else M (50 + 4 * n + 1) - at'
def rcG (M : Nat → Int) (L : List LN) (i : Nat) (re ti pl at' : Int) (n : Nat) (b : Int) : Int := max 0 (re + gainS (nmV M (i : Int) ti pl at' n b) L)
def atG (M : Nat → Int) (H : Nat) (ad : Int) (i : Nat) : Int := if i < H then M (14 + 6 * i + 1) else ad
def canG (M : Nat → Int) (L : List LN) (H : Nat) (ad : Int) (i n : Nat) (b : Int) : Bool := if i < H then canB M L i n b else decide (dsV M n ad ≤ rcG M L i 8 0 2 ad n b)
theorem rchv_m (lv n H N : Nat) (b : Int) (h : Hp) (L : List LN) (hL : LM (h 187 0) L) (G : GM (h 187 0) H N) (hW : ∀ x ∈ L, LnG x) (hl : L.length ≤ 12) (hn : n < N) (hb : 0 ≤ b ∧ b ≤ 100) (had : 0 ≤ h 206 0 0 ∧ h 206 0 0 ≤ 63) :
    ∃ h', cl (lv + 33) 213 [aA 12 0, aI (H : Int), aI (n : Int), aI b] h = ri (rcG (h 187 0) L H 8 0 2 (h 206 0 0) n b) h' ∧ ∀ tt k j, ¬ mbFr tt k → h' tt k j = h tt k j := by
  have hH := G.1.2.1
  have hN := G.2.1.2.1
  have m3 := G.1.1
  have gn := G.2.1.2.2.1 n hn
  have g6 := G.2.2.2.2.1
  have hO : FOk (nmV (h 187 0) (H : Int) 0 2 (h 206 0 0) n b) := by
    refine fN_ok ?_ ?_ ?_ ?_ ?_ ?_ ?_ ?_ ?_
    all_goals first
      | omega
      | (split <;> omega)
  have o1 : ∀ h', cl (lv + 32) 175 [aA 12 0, aI (n : Int), aI 1] h' = ri (h' 187 0 (50 + 4 * n + 1)) h' := fun h' => ofNote_c (lv + 31) n 1 h' (by omega) (by omega)
  let h0 : Hp := hset (hset (hset (hset h 200 0 0 (H : Int)) 200 0 3 0) 200 0 4 2) 201 0 0 (if h 187 0 (50 + 4 * n + 1) < h 206 0 0 then 1 else 0)
  have same : ∀ tt k j, ¬ mbFr tt k → h0 tt k j = h tt k j := by
    intro tt k j hf
    unfold mbFr maFr at hf
    show hset _ _ _ _ _ _ _ _ = _
    rw [hs_o (by omega), hs_o (by omega), hs_o (by omega), hs_o (by omega)]
  have s7 : h0 187 0 = h 187 0 := by funext j; exact same _ _ _ (by unfold mbFr maFr; omega)
  obtain ⟨h', a1, a2, a3, a4, a5⟩ := asks_m lv n b h0 (nmV (h 187 0) (H : Int) 0 2 (h 206 0 0) n b) L (by rw [s7]; exact hL) (by omega) hO (by simp [h0, hset, nmV, fN]) (by rw [s7]; rfl) (by rw [s7]; rfl) (by simp [h0, hset, nmV, fN]) (by simp [h0, hset, nmV, fN]) rfl (by rw [s7]; rfl) (by simp [h0, hset, nmV, fN]) rfl
  have hall : ∀ tt k j, ¬ mbFr tt k → h' tt k j = h tt k j := fun tt k j hf => by rw [a5 tt k j (fun z => hf (Or.inl z)), same tt k j hf]
  have gb := gainS_b (nmV (h 187 0) (H : Int) 0 2 (h 206 0 0) n b) L hW
  have t3 : h' 187 0 3 = (H : Int) := by rw [hall _ _ _ (by unfold mbFr maFr; omega)]; exact m3
  refine ⟨h', ?_, hall⟩
  rw [in_213]
  unfold rcG
  by_cases c : h 187 0 (50 + 4 * n + 1) < h 206 0 0
  · have e0 : h0 = hset (hset (hset (hset h 200 0 0 (H : Int)) 200 0 3 0) 200 0 4 2) 201 0 0 1 := by show hset _ _ _ _ _ = _; rw [if_pos c]
    rw [e0] at a1
    simp (disch := omega) only [x_4_1, x_6_0, x_34, x_1, x_38_187, x_38_200, x_65, x_60, x_61, x_7_4_I, x_7_4_A, x_7_4_U, x_4_4, x_68, x_79_3_12_d0, x_79_3_12_d1, x_79_3_12_d2, x_79_3_12_d3, x_79_3_12_d4, x_33, x_7_5_I, x_7_5_A, x_7_5_U, x_39_187, x_39_200, x_4_2, x_4_5, x_37, x_4_3, x_11, x_80_2_d0, x_80_2_d1, x_80_2_d2, x_80_2_d3, x_80_2_d4, x_82, cb_ri, cb_rl, cb_rv, cb_th, cb_ite, ps_s, ps_n, u_213_0, u_213_14, u_213_15, u_213_31, u_213_35, u_213_63, u_213_64, u_213_84, u_213_85, u_213_102, u_213_103, u_213_127, u_213_129, m3, t3, o1, c, hs_t, a1, a2, w32_id, greater_c, Int.reduceEq, Int.reduceLT, Int.reduceLE, reduceIte, Int.reduceAdd, Int.reduceSub, Int.reduceMul, Int.reduceNeg, Int.reduceToNat, Bool.false_eq_true, eq_self, if_pos, if_neg]
  · have e0 : h0 = hset (hset (hset (hset h 200 0 0 (H : Int)) 200 0 3 0) 200 0 4 2) 201 0 0 0 := by show hset _ _ _ _ _ = _; rw [if_neg c]
    rw [e0] at a1
    simp (disch := omega) only [x_4_1, x_6_0, x_34, x_1, x_38_187, x_38_200, x_65, x_60, x_61, x_7_4_I, x_7_4_A, x_7_4_U, x_4_4, x_68, x_79_3_12_d0, x_79_3_12_d1, x_79_3_12_d2, x_79_3_12_d3, x_79_3_12_d4, x_33, x_7_5_I, x_7_5_A, x_7_5_U, x_39_187, x_39_200, x_4_2, x_4_5, x_37, x_4_3, x_11, x_80_2_d0, x_80_2_d1, x_80_2_d2, x_80_2_d3, x_80_2_d4, x_82, cb_ri, cb_rl, cb_rv, cb_th, cb_ite, ps_s, ps_n, u_213_0, u_213_14, u_213_15, u_213_31, u_213_35, u_213_63, u_213_64, u_213_84, u_213_85, u_213_102, u_213_103, u_213_127, u_213_129, m3, t3, o1, c, hs_t, a1, a2, w32_id, greater_c, Int.reduceEq, Int.reduceLT, Int.reduceLE, reduceIte, Int.reduceAdd, Int.reduceSub, Int.reduceMul, Int.reduceNeg, Int.reduceToNat, Bool.false_eq_true, eq_self, if_pos, if_neg]
theorem way_m (lv i n H N : Nat) (h : Hp) (G : GM (h 187 0) H N) (hn : n < N) (hi : i < H ∨ (i = H ∧ 0 ≤ h 206 0 0 ∧ h 206 0 0 ≤ 63)) :
    cl (lv + 2) 214 [aA 12 0, aI (i : Int), aI (n : Int)] h = ri (dsV (h 187 0) n (atG (h 187 0) H (h 206 0 0) i)) h := by
  have hH := G.1.2.1
  have hN := G.2.1.2.1
  have m3 := G.1.1
  have gn := G.2.1.2.2.1 n hn
  have o1 : cl (lv + 1) 175 [aA 12 0, aI (n : Int), aI 1] h = ri (h 187 0 (50 + 4 * n + 1)) h := ofNote_c lv n 1 h (by omega) (by omega)
  rw [in_214]
  unfold dsV atG
  rcases hi with hi | ⟨rfl, h0, h1⟩
  · have i1 : cl (lv + 1) 173 [aA 12 0, aI (i : Int), aI 1] h = ri (h 187 0 (14 + 6 * i + 1)) h := its_c lv i 1 h (by omega) (by omega)
    have gi := G.1.2.2 i hi
    rw [if_pos hi]
    by_cases c : h 187 0 (50 + 4 * n + 1) - h 187 0 (14 + 6 * i + 1) < 0
    · simp (disch := omega) only [x_6_0, x_4_2, x_1, x_79_3_12_d0, x_79_3_12_d1, x_79_3_12_d2, x_79_3_12_d3, x_79_3_12_d4, x_4_1, x_34, x_38_187, x_65, x_60, x_33, x_61, x_12, x_7_3_I, x_7_3_A, x_7_3_U, x_4_3, x_71, x_16, x_82, cb_ri, cb_rl, cb_rv, cb_th, cb_ite, ps_s, ps_n, u_214_0, u_214_25, u_214_29, u_214_40, u_214_41, m3, i1, o1, c, w32_id, Int.reduceEq, Int.reduceLT, Int.reduceLE, reduceIte, Int.reduceAdd, Int.reduceSub, Int.reduceMul, Int.reduceNeg, Int.reduceToNat, Bool.false_eq_true, eq_self, if_pos, if_neg]
    · simp (disch := omega) only [x_6_0, x_4_2, x_1, x_79_3_12_d0, x_79_3_12_d1, x_79_3_12_d2, x_79_3_12_d3, x_79_3_12_d4, x_4_1, x_34, x_38_187, x_65, x_60, x_33, x_61, x_12, x_7_3_I, x_7_3_A, x_7_3_U, x_4_3, x_71, x_16, x_82, cb_ri, cb_rl, cb_rv, cb_th, cb_ite, ps_s, ps_n, u_214_0, u_214_25, u_214_29, u_214_40, u_214_41, m3, i1, o1, c, w32_id, Int.reduceEq, Int.reduceLT, Int.reduceLE, reduceIte, Int.reduceAdd, Int.reduceSub, Int.reduceMul, Int.reduceNeg, Int.reduceToNat, Bool.false_eq_true, eq_self, if_pos, if_neg]
  · rw [if_neg (Nat.lt_irrefl i)]
    by_cases c : h 187 0 (50 + 4 * n + 1) - h 206 0 0 < 0
    · simp (disch := omega) only [x_6_0, x_4_2, x_1, x_79_3_12_d0, x_79_3_12_d1, x_79_3_12_d2, x_79_3_12_d3, x_79_3_12_d4, x_4_1, x_34, x_38_187, x_65, x_60, x_33, x_61, x_12, x_7_3_I, x_7_3_A, x_7_3_U, x_4_3, x_71, x_16, x_82, cb_ri, cb_rl, cb_rv, cb_th, cb_ite, ps_s, ps_n, u_214_0, u_214_25, u_214_29, u_214_40, u_214_41, m3, o1, c, w32_id, Int.reduceEq, Int.reduceLT, Int.reduceLE, reduceIte, Int.reduceAdd, Int.reduceSub, Int.reduceMul, Int.reduceNeg, Int.reduceToNat, Bool.false_eq_true, eq_self, if_pos, if_neg]
    · simp (disch := omega) only [x_6_0, x_4_2, x_1, x_79_3_12_d0, x_79_3_12_d1, x_79_3_12_d2, x_79_3_12_d3, x_79_3_12_d4, x_4_1, x_34, x_38_187, x_65, x_60, x_33, x_61, x_12, x_7_3_I, x_7_3_A, x_7_3_U, x_4_3, x_71, x_16, x_82, cb_ri, cb_rl, cb_rv, cb_th, cb_ite, ps_s, ps_n, u_214_0, u_214_25, u_214_29, u_214_40, u_214_41, m3, o1, c, w32_id, Int.reduceEq, Int.reduceLT, Int.reduceLE, reduceIte, Int.reduceAdd, Int.reduceSub, Int.reduceMul, Int.reduceNeg, Int.reduceToNat, Bool.false_eq_true, eq_self, if_pos, if_neg]
theorem canAt_m (lv i n H N : Nat) (b : Int) (h : Hp) (L : List LN) (hL : LM (h 187 0) L) (G : GM (h 187 0) H N) (hW : ∀ x ∈ L, LnG x) (hl : L.length ≤ 12) (hn : n < N) (hb : 0 ≤ b ∧ b ≤ 100) (hi : i < H ∨ (i = H ∧ 0 ≤ h 206 0 0 ∧ h 206 0 0 ≤ 63)) :
    ∃ h', cl (lv + 34) 215 [aA 12 0, aI (i : Int), aI (n : Int), aI b] h = ri (boI (canG (h 187 0) L H (h 206 0 0) i n b)) h' ∧ ∀ tt k j, ¬ mbFr tt k → h' tt k j = h tt k j := by
  have hH := G.1.2.1
  have hN := G.2.1.2.1
  have m3 := G.1.1
  have gn := G.2.1.2.2.1 n hn
  have wy := way_m (lv + 31) i n H N h G hn hi
  unfold canG
  rcases hi with hi | ⟨rfl, h0, h1⟩
  · obtain ⟨h', r1, r2⟩ := rch_m lv i n H N b h L hL G hW hl hi hn hb
    have gi := G.1.2.2 i hi
    have i5 : cl (lv + 33) 173 [aA 12 0, aI (i : Int), aI 5] h = ri (h 187 0 (14 + 6 * i + 5)) h := its_c (lv + 32) i 5 h (by omega) (by omega)
    have i3 : cl (lv + 33) 173 [aA 12 0, aI (i : Int), aI 3] h = ri (h 187 0 (14 + 6 * i + 3)) h := its_c (lv + 32) i 3 h (by omega) (by omega)
    have i4 : cl (lv + 33) 173 [aA 12 0, aI (i : Int), aI 4] h = ri (h 187 0 (14 + 6 * i + 4)) h := its_c (lv + 32) i 4 h (by omega) (by omega)
    have o2 : cl (lv + 33) 175 [aA 12 0, aI (n : Int), aI 2] h = ri (h 187 0 (50 + 4 * n + 2)) h := ofNote_c (lv + 32) n 2 h (by omega) (by omega)
    have dv : idiv (h 187 0 (14 + 6 * i + 4)) 10 = h 187 0 (14 + 6 * i + 4) / 10 := by
      have := idiv_10 (h 187 0 (14 + 6 * i + 4)).toNat (by omega)
      rw [show (((h 187 0 (14 + 6 * i + 4)).toNat : Nat) : Int) = h 187 0 (14 + 6 * i + 4) by omega] at this
      rw [this]
      omega
    have ea : atG (h 187 0) H (h 206 0 0) i = h 187 0 (14 + 6 * i + 1) := if_pos hi
    rw [ea] at wy
    rw [if_pos hi, in_215]
    unfold canB
    by_cases h1 : h 187 0 (14 + 6 * i + 5) = 1
    · refine ⟨h, ?_, fun _ _ _ _ => rfl⟩
      have hb1 : bdB (h 187 0) i = true := by simp [bdB, h1]
      simp (disch := omega) only [x_4_1, x_6_0, x_34, x_1, x_38_187, x_65, x_79_3_12_d0, x_79_3_12_d1, x_79_3_12_d2, x_79_3_12_d3, x_79_3_12_d4, x_62, x_14, x_12, x_4_2, x_61, x_85, x_4_3, x_79_4_12_d0, x_79_4_12_d1, x_79_4_12_d2, x_79_4_12_d3, x_79_4_12_d4, x_66, x_60, cb_ri, cb_rl, cb_rv, cb_th, cb_ite, ps_s, ps_n, u_215_0, u_215_45, u_215_47, u_215_67, u_215_68, m3, i5, h1, hb1, Bool.not_true, Bool.false_and, boI, Int.reduceEq, Int.reduceLT, Int.reduceLE, reduceIte, Int.reduceAdd, Int.reduceSub, Int.reduceMul, Int.reduceNeg, Int.reduceToNat, Bool.false_eq_true, eq_self, if_pos, if_neg]
    have hb1 : bdB (h 187 0) i = false := by simp [bdB]; omega
    by_cases h3 : h 187 0 (50 + 4 * n + 2) ≤ h 187 0 (14 + 6 * i + 3) - h 187 0 (14 + 6 * i + 4) / 10
    · refine ⟨h', ?_, r2⟩
      have e4 : dsV (h 187 0) n (h 187 0 (14 + 6 * i + 1)) = (if h 187 0 (50 + 4 * n + 1) - h 187 0 (14 + 6 * i + 1) < 0 then -(h 187 0 (50 + 4 * n + 1) - h 187 0 (14 + 6 * i + 1)) else h 187 0 (50 + 4 * n + 1) - h 187 0 (14 + 6 * i + 1)) := rfl
      rw [← e4]
      by_cases h4 : dsV (h 187 0) n (h 187 0 (14 + 6 * i + 1)) ≤ rchV (h 187 0) L i n b
      · rw [hb1, decide_eq_true h3, decide_eq_true h4]
        simp (disch := omega) only [x_4_1, x_6_0, x_34, x_1, x_38_187, x_65, x_79_3_12_d0, x_79_3_12_d1, x_79_3_12_d2, x_79_3_12_d3, x_79_3_12_d4, x_62, x_14, x_12, x_4_2, x_61, x_85, x_4_3, x_79_4_12_d0, x_79_4_12_d1, x_79_4_12_d2, x_79_4_12_d3, x_79_4_12_d4, x_66, x_60, cb_ri, cb_rl, cb_rv, cb_th, cb_ite, ps_s, ps_n, u_215_0, u_215_45, u_215_47, u_215_67, u_215_68, m3, i5, i3, i4, o2, dv, h1, wy, r1, w32_id, Int.reduceEq, Int.reduceLT, Int.reduceLE, reduceIte, Int.reduceAdd, Int.reduceSub, Int.reduceMul, Int.reduceNeg, Int.reduceToNat, Bool.false_eq_true, eq_self, if_pos, if_neg]
        rfl
      · rw [hb1, decide_eq_true h3, decide_eq_false h4]
        simp (disch := omega) only [x_4_1, x_6_0, x_34, x_1, x_38_187, x_65, x_79_3_12_d0, x_79_3_12_d1, x_79_3_12_d2, x_79_3_12_d3, x_79_3_12_d4, x_62, x_14, x_12, x_4_2, x_61, x_85, x_4_3, x_79_4_12_d0, x_79_4_12_d1, x_79_4_12_d2, x_79_4_12_d3, x_79_4_12_d4, x_66, x_60, cb_ri, cb_rl, cb_rv, cb_th, cb_ite, ps_s, ps_n, u_215_0, u_215_45, u_215_47, u_215_67, u_215_68, m3, i5, i3, i4, o2, dv, h1, wy, r1, w32_id, Int.reduceEq, Int.reduceLT, Int.reduceLE, reduceIte, Int.reduceAdd, Int.reduceSub, Int.reduceMul, Int.reduceNeg, Int.reduceToNat, Bool.false_eq_true, eq_self, if_pos, if_neg]
        rfl
    · refine ⟨h, ?_, fun _ _ _ _ => rfl⟩
      rw [hb1, decide_eq_false h3]
      simp (disch := omega) only [x_4_1, x_6_0, x_34, x_1, x_38_187, x_65, x_79_3_12_d0, x_79_3_12_d1, x_79_3_12_d2, x_79_3_12_d3, x_79_3_12_d4, x_62, x_14, x_12, x_4_2, x_61, x_85, x_4_3, x_79_4_12_d0, x_79_4_12_d1, x_79_4_12_d2, x_79_4_12_d3, x_79_4_12_d4, x_66, x_60, cb_ri, cb_rl, cb_rv, cb_th, cb_ite, ps_s, ps_n, u_215_0, u_215_45, u_215_47, u_215_67, u_215_68, m3, i5, i3, i4, o2, dv, h1, w32_id, Bool.and_false, Bool.false_and, boI, Int.reduceEq, Int.reduceLT, Int.reduceLE, reduceIte, Int.reduceAdd, Int.reduceSub, Int.reduceMul, Int.reduceNeg, Int.reduceToNat, Bool.false_eq_true, eq_self, if_pos, if_neg]
  · obtain ⟨h', r1, r2⟩ := rchv_m lv n i N b h L hL G hW hl hn hb ⟨h0, h1⟩
    have ea : atG (h 187 0) i (h 206 0 0) i = h 206 0 0 := if_neg (by omega)
    rw [ea] at wy
    refine ⟨h', ?_, r2⟩
    rw [if_neg (by omega), in_215]
    by_cases h4 : dsV (h 187 0) n (h 206 0 0) ≤ rcG (h 187 0) L i 8 0 2 (h 206 0 0) n b
    · rw [decide_eq_true h4]
      simp (disch := omega) only [x_4_1, x_6_0, x_34, x_1, x_38_187, x_65, x_79_3_12_d0, x_79_3_12_d1, x_79_3_12_d2, x_79_3_12_d3, x_79_3_12_d4, x_62, x_14, x_12, x_4_2, x_61, x_85, x_4_3, x_79_4_12_d0, x_79_4_12_d1, x_79_4_12_d2, x_79_4_12_d3, x_79_4_12_d4, x_66, x_60, cb_ri, cb_rl, cb_rv, cb_th, cb_ite, ps_s, ps_n, u_215_0, u_215_45, u_215_47, u_215_67, u_215_68, m3, wy, r1, w32_id, Int.reduceEq, Int.reduceLT, Int.reduceLE, reduceIte, Int.reduceAdd, Int.reduceSub, Int.reduceMul, Int.reduceNeg, Int.reduceToNat, Bool.false_eq_true, eq_self, if_pos, if_neg]
      rfl
    · rw [decide_eq_false h4]
      simp (disch := omega) only [x_4_1, x_6_0, x_34, x_1, x_38_187, x_65, x_79_3_12_d0, x_79_3_12_d1, x_79_3_12_d2, x_79_3_12_d3, x_79_3_12_d4, x_62, x_14, x_12, x_4_2, x_61, x_85, x_4_3, x_79_4_12_d0, x_79_4_12_d1, x_79_4_12_d2, x_79_4_12_d3, x_79_4_12_d4, x_66, x_60, cb_ri, cb_rl, cb_rv, cb_th, cb_ite, ps_s, ps_n, u_215_0, u_215_45, u_215_47, u_215_67, u_215_68, m3, wy, r1, w32_id, Int.reduceEq, Int.reduceLT, Int.reduceLE, reduceIte, Int.reduceAdd, Int.reduceSub, Int.reduceMul, Int.reduceNeg, Int.reduceToNat, Bool.false_eq_true, eq_self, if_pos, if_neg]
      rfl
theorem takes_m (lv n H N : Nat) (h : Hp) (L : List LN) (hL : LM (h 187 0) L) (G : GM (h 187 0) H N) (hn : n < N) :
    ∃ h', cl (lv + 33) 216 [aA 12 0, aI (n : Int)] h = ri (boI (takB (h 187 0) L n (h 187 0 (50 + 4 * n)))) h' ∧ ∀ tt k j, ¬ mbFr tt k → h' tt k j = h tt k j := by
  have hN := G.2.1.2.1
  have gn := G.2.1.2.2.1 n hn
  have hO := nmT_ok (b := h 187 0 (50 + 4 * n)) G hn (by omega)
  have o0 : ∀ h', cl (lv + 32) 175 [aA 12 0, aI (n : Int), aI 0] h' = ri (h' 187 0 (50 + 4 * n)) h' := fun h' => ofNote_c (lv + 31) n 0 h' (by omega) (by omega)
  let h0 : Hp := hset (hset (hset (hset h 200 0 0 6) 200 0 3 0) 200 0 4 3) 201 0 0 0
  have same : ∀ tt k j, ¬ mbFr tt k → h0 tt k j = h tt k j := by
    intro tt k j hf
    unfold mbFr maFr at hf
    show hset _ _ _ _ _ _ _ _ = _
    rw [hs_o (by omega), hs_o (by omega), hs_o (by omega), hs_o (by omega)]
  have s7 : h0 187 0 = h 187 0 := by funext j; exact same _ _ _ (by unfold mbFr maFr; omega)
  obtain ⟨h', a1, a2, a3, a4, a5⟩ := asks_m lv n (h 187 0 (50 + 4 * n)) h0 (nmT (h 187 0) n (h 187 0 (50 + 4 * n))) L (by rw [s7]; exact hL) (by omega) hO (by simp [h0, hset, nmT, fN]) (by rw [s7]; rfl) (by rw [s7]; rfl) (by simp [h0, hset, nmT, fN]) (by simp [h0, hset, nmT, fN]) rfl (by rw [s7]; rfl) (by simp [h0, hset, nmT, fN]) rfl
  have hall : ∀ tt k j, ¬ mbFr tt k → h' tt k j = h tt k j := fun tt k j hf => by rw [a5 tt k j (fun z => hf (Or.inl z)), same tt k j hf]
  have a1' : cl (lv + 32) 212 [aA 12 0, aI (n : Int), aI (h 187 0 (50 + 4 * n))] (hset (hset (hset (hset h 200 0 0 6) 200 0 3 0) 200 0 4 3) 201 0 0 0) = rv h' := a1
  refine ⟨h', ?_, hall⟩
  rw [in_216]
  unfold takB
  rw [hasTk_tk] at a3
  by_cases c : tkL L = 0
  · rw [show decide (tkL L ≠ 0) = false by simp [c]] at a3
    have a3 : h' 203 0 0 = 0 := a3
    simp (disch := omega) only [x_6_0, x_34, x_1, x_39_200, x_37, x_4_1, x_79_3_12_d0, x_79_3_12_d1, x_79_3_12_d2, x_79_3_12_d3, x_79_3_12_d4, x_33, x_68, x_61, x_60, x_85, cb_ri, cb_rl, cb_rv, cb_th, cb_ite, ps_s, ps_n, u_216_0, u_216_52, u_216_56, u_216_57, o0, hs_t, a1', a3, c, decide_true, Bool.true_or, boI, Int.reduceEq, Int.reduceLT, Int.reduceLE, reduceIte, Int.reduceAdd, Int.reduceSub, Int.reduceMul, Int.reduceNeg, Int.reduceToNat, Bool.false_eq_true, eq_self, if_pos, if_neg]
  · rw [show decide (tkL L ≠ 0) = true by simp [c]] at a3
    have a3 : h' 203 0 0 = 1 := a3
    rw [decide_eq_false c, Bool.false_or]
    generalize takeS (nmT (h 187 0) n (h 187 0 (50 + 4 * n))) L = tb at a4
    cases tb with
    | true =>
      have a4 : h' 204 0 0 = 1 := a4
      simp (disch := omega) only [x_6_0, x_34, x_1, x_39_200, x_37, x_4_1, x_79_3_12_d0, x_79_3_12_d1, x_79_3_12_d2, x_79_3_12_d3, x_79_3_12_d4, x_33, x_68, x_61, x_60, x_85, cb_ri, cb_rl, cb_rv, cb_th, cb_ite, ps_s, ps_n, u_216_0, u_216_52, u_216_56, u_216_57, o0, hs_t, a1', a3, a4, boI, Int.reduceEq, Int.reduceLT, Int.reduceLE, reduceIte, Int.reduceAdd, Int.reduceSub, Int.reduceMul, Int.reduceNeg, Int.reduceToNat, Bool.false_eq_true, eq_self, if_pos, if_neg]
    | false =>
      have a4 : h' 204 0 0 = 0 := a4
      simp (disch := omega) only [x_6_0, x_34, x_1, x_39_200, x_37, x_4_1, x_79_3_12_d0, x_79_3_12_d1, x_79_3_12_d2, x_79_3_12_d3, x_79_3_12_d4, x_33, x_68, x_61, x_60, x_85, cb_ri, cb_rl, cb_rv, cb_th, cb_ite, ps_s, ps_n, u_216_0, u_216_52, u_216_56, u_216_57, o0, hs_t, a1', a3, a4, boI, Int.reduceEq, Int.reduceLT, Int.reduceLE, reduceIte, Int.reduceAdd, Int.reduceSub, Int.reduceMul, Int.reduceNeg, Int.reduceToNat, Bool.false_eq_true, eq_self, if_pos, if_neg]
