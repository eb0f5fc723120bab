/-! A NEW LAW. -/
theorem law_q (lv e : Nat) (n : Int) (t : Nat → Int) (q : Hp) (he : e ≤ 400) (q6 : q 196 0 0 = (e : Int)) (q3 : ∀ i, i < 400 → q 193 0 i = t i) : ∃ h2, run lv 210 36 [aA 12 0, aI n, none] [] q = ri n h2 ∧ h2 192 0 0 = 0 ∧ h2 187 0 1 = n ∧ h2 187 0 2 = (e : Int) ∧ (∀ i, i < e → h2 187 0 (346 + i) = t i) ∧ (∀ j, j ≠ 1 → j ≠ 2 → j < 346 → h2 187 0 j = q 187 0 j) ∧ ∀ tt k j, ¬ (k = 0 ∧ (tt = 187 ∨ tt = 192)) → h2 tt k j = q tt k j := by
  have main := loop_p (S := Hp) (F := fun i (p : Hp) => run lv 210 55 [aA 12 0, aI n, aI (i : Int)] [] p)
    (I := fun i p => p 187 0 1 = n ∧ p 187 0 2 = (e : Int) ∧ (∀ j, j < i → p 187 0 (346 + j) = t j) ∧ (∀ j, j ≠ 1 → j ≠ 2 → j < 346 → p 187 0 j = q 187 0 j) ∧ ∀ tt k j, ¬ (k = 0 ∧ tt = 187) → p tt k j = q tt k j)
    (Q := fun r => ∃ h2 : Hp, r = ri n h2 ∧ h2 192 0 0 = 0 ∧ h2 187 0 1 = n ∧ h2 187 0 2 = (e : Int) ∧ (∀ i, i < e → h2 187 0 (346 + i) = t i) ∧ (∀ j, j ≠ 1 → j ≠ 2 → j < 346 → h2 187 0 j = q 187 0 j) ∧ ∀ tt k j, ¬ (k = 0 ∧ (tt = 187 ∨ tt = 192)) → h2 tt k j = q tt k j) (N := e) ?_ ?_ (hset (hset q 187 0 1 n) 187 0 2 (e : Int)) ⟨by rw [hs_i (by omega), hs_eq], hs_eq _ _ _ _ _, fun j hj => by omega, fun j h1 h2 _ => by rw [hs_i h2, hs_i h1], fun tt k j hf => by rw [hs_o (by omega), hs_o (by omega)]⟩
  · obtain ⟨h2, f1, f2⟩ := main
    refine ⟨h2, ?_, f2⟩
    have e6 : hset q 187 0 1 n 196 0 0 = (e : Int) := by rw [hs_t (by omega)]; exact q6
    rw [← f1]
    simp (disch := omega) only [x_6_0, x_79_1_12_d0, x_79_1_12_d1, x_79_1_12_d2, x_79_1_12_d3, x_79_1_12_d4, x_1, x_79_2_12_d0, x_79_2_12_d1, x_79_2_12_d2, x_79_2_12_d3, x_79_2_12_d4, x_7_1_I, x_7_1_A, x_7_1_U, x_33, x_62, x_60, x_61, x_36, x_73, x_82, x_34, x_4_1, x_39_187, x_39_193, x_7_2_I, x_7_2_A, x_7_2_U, x_4_2, x_65, x_11, x_38_187, x_38_193, x_10_2_I, x_10_2_A, x_10_2_U, cb_ri, cb_rl, cb_rv, cb_th, cb_ite, ps_s, ps_n, u_210_0, u_210_23, u_210_24, u_210_36, u_210_85, tn, e6, Int.reduceEq, Int.reduceLT, Int.reduceLE, reduceIte, Int.reduceAdd, Int.reduceSub, Int.reduceMul, Int.reduceNeg, Int.reduceToNat, Bool.false_eq_true, eq_self, if_pos, if_neg]
    rfl
  · rintro i p hi ⟨i1, i2, i3, i4, i5⟩
    have p6 : p 196 0 0 = (e : Int) := by rw [i5 _ _ _ (by omega)]; exact q6
    have p3 : p 193 0 i = t i := by rw [i5 _ _ _ (by omega)]; exact q3 i (by omega)
    have ei : ((346 : Int) + (i : Int)).toNat = 346 + i := by omega
    refine ⟨hset p 187 0 (346 + i) (t i), ?_, by rw [hs_i (by omega)]; exact i1, by rw [hs_i (by omega)]; exact i2, fun j hj => ?_, fun j h1 h2 h3 => by rw [hs_i (by omega)]; exact i4 j h1 h2 h3, fun tt k j hf => by rw [hs_o (by omega)]; exact i5 tt k j hf⟩
    · try simp only
      rw [hd_210_55]
      simp (disch := omega) only [x_6_0, x_79_1_12_d0, x_79_1_12_d1, x_79_1_12_d2, x_79_1_12_d3, x_79_1_12_d4, x_1, x_79_2_12_d0, x_79_2_12_d1, x_79_2_12_d2, x_79_2_12_d3, x_79_2_12_d4, x_7_1_I, x_7_1_A, x_7_1_U, x_33, x_62, x_60, x_61, x_36, x_73, x_82, x_34, x_4_1, x_39_187, x_39_193, x_7_2_I, x_7_2_A, x_7_2_U, x_4_2, x_65, x_11, x_38_187, x_38_193, x_10_2_I, x_10_2_A, x_10_2_U, cb_ri, cb_rl, cb_rv, cb_th, cb_ite, ps_s, ps_n, u_210_0, u_210_23, u_210_24, u_210_36, u_210_85, p6, tn, p3, ei, Int.reduceEq, Int.reduceLT, Int.reduceLE, reduceIte, Int.reduceAdd, Int.reduceSub, Int.reduceMul, Int.reduceNeg, Int.reduceToNat, Bool.false_eq_true, eq_self, if_pos, if_neg, ci, w32_id]
    · by_cases c : j = i
      · rw [c, hs_eq]
      · rw [hs_i (by omega)]; exact i3 j (by omega)
  · rintro p ⟨i1, i2, i3, i4, i5⟩
    have p6 : p 196 0 0 = (e : Int) := by rw [i5 _ _ _ (by omega)]; exact q6
    refine ⟨hset p 192 0 0 0, ?_, hs_eq _ _ _ _ _, by rw [hs_t (by omega)]; exact i1, by rw [hs_t (by omega)]; exact i2, fun j hj => by rw [hs_t (by omega)]; exact i3 j hj, fun j h1 h2 h3 => by rw [hs_t (by omega)]; exact i4 j h1 h2 h3, fun tt k j hf => by rw [hs_o (by omega)]; exact i5 tt k j (by omega)⟩
    try simp only
    rw [hd_210_55]
    simp (disch := omega) only [x_6_0, x_79_1_12_d0, x_79_1_12_d1, x_79_1_12_d2, x_79_1_12_d3, x_79_1_12_d4, x_1, x_79_2_12_d0, x_79_2_12_d1, x_79_2_12_d2, x_79_2_12_d3, x_79_2_12_d4, x_7_1_I, x_7_1_A, x_7_1_U, x_33, x_62, x_60, x_61, x_36, x_73, x_82, x_34, x_4_1, x_39_187, x_39_193, x_7_2_I, x_7_2_A, x_7_2_U, x_4_2, x_65, x_11, x_38_187, x_38_193, x_10_2_I, x_10_2_A, x_10_2_U, cb_ri, cb_rl, cb_rv, cb_th, cb_ite, ps_s, ps_n, u_210_0, u_210_23, u_210_24, u_210_36, u_210_85, p6, Int.reduceEq, Int.reduceLT, Int.reduceLE, reduceIte, Int.reduceAdd, Int.reduceSub, Int.reduceMul, Int.reduceNeg, Int.reduceToNat, Bool.false_eq_true, eq_self, if_pos, if_neg]
def begH (g : Hp) (e : Int) : Hp := hset (hset (hset (hset (hset (hset g 198 0 0 (-1)) 195 0 0 (-1)) 196 0 0 e) 194 0 0 0) 197 0 0 0) 199 0 0 0
theorem begins_m (lv : Nat) (e : Int) (g : Hp) (h4 : g 194 0 0 = e) : cl (lv + 1) 198 [aA 12 0] g = rv (begH g e) := by
  have a : hset (hset g 198 0 0 (-1)) 195 0 0 (-1) 194 0 0 = e := by rw [hs_t (by omega), hs_t (by omega)]; exact h4
  rw [in_198]
  simp (disch := omega) only [x_6_0, x_1, x_36, x_33, x_83, u_198_0, a, Int.reduceEq, Int.reduceLT, Int.reduceLE, reduceIte, Int.reduceAdd, Int.reduceSub, Int.reduceMul, Int.reduceNeg, Int.reduceToNat, Bool.false_eq_true, eq_self, if_pos, if_neg]
  rfl
theorem beg_o {g : Hp} {e : Int} {tt k j : Nat} (hf : ¬ (k = 0 ∧ (194 ≤ tt ∧ tt ≤ 199))) : begH g e tt k j = g tt k j := by
  unfold begH
  rw [hs_o (by omega), hs_o (by omega), hs_o (by omega), hs_o (by omega), hs_o (by omega), hs_o (by omega)]
theorem beg_v (g : Hp) (e : Int) : begH g e 198 0 0 = -1 ∧ begH g e 195 0 0 = -1 ∧ begH g e 196 0 0 = e ∧ begH g e 194 0 0 = 0 ∧ begH g e 197 0 0 = 0 ∧ begH g e 199 0 0 = 0 := by
  unfold begH hset
  simp
theorem mL_self {h : Hp} (z : Zh h) : ∃ A B, h = mL h A B (h 202 0 0) := by
  have key : ∀ x : Int, x = 0 ∨ x = 1 → ∃ b : Bool, x = boI b := fun x hx => by
    rcases hx with rfl | rfl
    · exact ⟨false, rfl⟩
    · exact ⟨true, rfl⟩
  obtain ⟨A, hA⟩ := key _ (z 203 (by omega))
  obtain ⟨B, hB⟩ := key _ (z 204 (by omega))
  refine ⟨A, B, ?_⟩
  funext tt k j
  unfold mL hset
  by_cases c1 : tt = 202 ∧ k = 0 ∧ j = 0
  · obtain ⟨rfl, rfl, rfl⟩ := c1; simp
  · by_cases c2 : tt = 204 ∧ k = 0 ∧ j = 0
    · obtain ⟨rfl, rfl, rfl⟩ := c2; simp [hB]
    · by_cases c3 : tt = 203 ∧ k = 0 ∧ j = 0
      · obtain ⟨rfl, rfl, rfl⟩ := c3; simp [hA]
      · rw [if_neg c1, if_neg c2, if_neg c3]
theorem RD_self {h : Hp} (h7 : h 197 0 0 = 0) : RD h 0 = h := by
  unfold RD RZ
  funext tt k j
  by_cases c : tt = 197 ∧ k = 0 ∧ j = 0
  · obtain ⟨rfl, rfl, rfl⟩ := c; rw [hs_eq, h7]; rfl
  · rw [hs_o c]
/-- what a reading of a law may change -/
def rdFr (tt k : Nat) : Prop := k = 0 ∧ ((194 ≤ tt ∧ tt ≤ 199) ∨ (202 ≤ tt ∧ tt ≤ 204) ∨ tt = 186)
theorem law_m (lv e : Nat) (t : Nat → Int) (g : Hp) (z : Zh g) (he : e ≤ 400) (g4 : g 194 0 0 = (e : Int)) (g3 : ∀ i, i < 400 → g 193 0 i = t i) : match lawOf t e with
    | .inl f => ∃ h2, cl (lv + 32) 210 [aA 12 0] g = ri 0 h2 ∧ h2 186 0 0 = 1 ∧ h2 198 0 0 = (f : Int) ∧ h2 194 0 0 = 0 ∧ ∀ tt k j, ¬ rdFr tt k → h2 tt k j = g tt k j
    | .inr L => ∃ h2, cl (lv + 32) 210 [aA 12 0] g = ri (L.length : Int) h2 ∧ h2 186 0 0 = 0 ∧ h2 198 0 0 = -1 ∧ h2 194 0 0 = 0 ∧ h2 192 0 0 = 0 ∧ h2 187 0 1 = (L.length : Int) ∧ h2 187 0 2 = (e : Int) ∧ (∀ i, i < e → h2 187 0 (346 + i) = t i) ∧ (∀ j, j ≠ 1 → j ≠ 2 → j < 346 → h2 187 0 j = g 187 0 j) ∧ ∀ tt k j, ¬ (rdFr tt k ∨ (k = 0 ∧ (tt = 187 ∨ tt = 192))) → h2 tt k j = g tt k j := by
  have bg := begins_m (lv + 30) (e : Int) g g4
  obtain ⟨v8, v5, v6, v4, v7, v9⟩ := beg_v g (e : Int)
  have zb : Zh (begH g (e : Int)) := fun x hx => by rw [beg_o (by omega)]; exact z x hx
  have T : TX (begH g (e : Int)) t e := ⟨he, v6, Or.inl ⟨v5, fun i hi => by rw [beg_o (by omega)]; exact g3 i hi⟩⟩
  obtain ⟨A, B, hm⟩ := mL_self zb
  let F : Nat → Int := fun i => if i = 7 then begH g (e : Int) 201 0 0 else if i = 8 then (if begH g (e : Int) 200 0 1 < 32 then 1 else 0) else begH g (e : Int) 200 0 i
  have hF : FC (begH g (e : Int)) F := ⟨fun i hi => by show _ = if i = 7 then _ else _; rw [if_neg (by omega), if_neg (by omega)], rfl, rfl⟩
  have hZ : FZ F := by
    have := zb 201 (by omega)
    show 0 ≤ begH g (e : Int) 201 0 0 ∧ begH g (e : Int) 201 0 0 ≤ 1
    omega
  have rx := mread_x lv A B (begH g (e : Int) 202 0 0) T v8 hF hZ v9
  have h0 : RD (mL (begH g (e : Int)) A B (begH g (e : Int) 202 0 0)) 0 = begH g (e : Int) := by rw [← hm]; exact RD_self v7
  rw [h0] at rx
  cases hq : lawOf t e with
  | inl f =>
    rw [hq] at rx
    obtain ⟨v, y, A2, B2, g2, rx⟩ := rx
    have o : ∀ tt k j, ¬ (k = 0 ∧ (tt = 197 ∨ tt = 198 ∨ (202 ≤ tt ∧ tt ≤ 204))) → hset (RZ (mL (begH g (e : Int)) A2 B2 g2) y) 198 0 0 (f : Int) tt k j = begH g (e : Int) tt k j := fun tt k j hf => by
      unfold RZ mL
      rw [hs_o (by omega), hs_o (by omega), hs_o (by omega), hs_o (by omega), hs_o (by omega)]
    have f8 : hset (RZ (mL (begH g (e : Int)) A2 B2 g2) y) 198 0 0 (f : Int) 198 0 0 = (f : Int) := hs_eq _ _ _ _ _
    refine ⟨hset (hset (RZ (mL (begH g (e : Int)) A2 B2 g2) y) 198 0 0 (f : Int)) 186 0 0 1, ?_, hs_eq _ _ _ _ _, by rw [hs_t (by omega)]; exact f8, by rw [hs_t (by omega), o _ _ _ (by omega)]; exact v4, fun tt k j hf => ?_⟩
    · rw [in_210]
      simp (disch := omega) only [x_6_0, x_79_1_12_d0, x_79_1_12_d1, x_79_1_12_d2, x_79_1_12_d3, x_79_1_12_d4, x_1, x_79_2_12_d0, x_79_2_12_d1, x_79_2_12_d2, x_79_2_12_d3, x_79_2_12_d4, x_7_1_I, x_7_1_A, x_7_1_U, x_33, x_62, x_60, x_61, x_36, x_73, x_82, x_34, x_4_1, x_39_187, x_39_193, x_7_2_I, x_7_2_A, x_7_2_U, x_4_2, x_65, x_11, x_38_187, x_38_193, x_10_2_I, x_10_2_A, x_10_2_U, cb_ri, cb_rl, cb_rv, cb_th, cb_ite, ps_s, ps_n, u_210_0, u_210_23, u_210_24, u_210_36, u_210_85, bg, rx, f8, hs_eq, Int.reduceEq, Int.reduceLT, Int.reduceLE, reduceIte, Int.reduceAdd, Int.reduceSub, Int.reduceMul, Int.reduceNeg, Int.reduceToNat, Bool.false_eq_true, eq_self, if_pos, if_neg]
    · unfold rdFr at hf
      rw [hs_o (by omega), o tt k j (by omega), beg_o (by omega)]
  | inr L =>
    rw [hq] at rx
    obtain ⟨A2, B2, g2, rx⟩ := rx
    have o : ∀ tt k j, ¬ (k = 0 ∧ (tt = 197 ∨ (202 ≤ tt ∧ tt ≤ 204))) → RD (mL (begH g (e : Int)) A2 B2 g2) e tt k j = begH g (e : Int) tt k j := fun tt k j hf => by
      unfold RD RZ mL
      rw [hs_o (by omega), hs_o (by omega), hs_o (by omega), hs_o (by omega)]
    have f8 : RD (mL (begH g (e : Int)) A2 B2 g2) e 198 0 0 = -1 := by rw [o _ _ _ (by omega)]; exact v8
    obtain ⟨h2, a1, a2, a3, a4, a5, a6, a7⟩ := law_q (lv + 31) e (L.length : Int) t (hset (RD (mL (begH g (e : Int)) A2 B2 g2) e) 186 0 0 0) he (by rw [hs_t (by omega), o _ _ _ (by omega)]; exact v6) (fun i hi => by rw [hs_t (by omega), o _ _ _ (by omega), beg_o (by omega)]; exact g3 i hi)
    refine ⟨h2, ?_, by rw [a7 _ _ _ (by omega), hs_eq], by rw [a7 _ _ _ (by omega), hs_t (by omega)]; exact f8, by rw [a7 _ _ _ (by omega), hs_t (by omega), o _ _ _ (by omega)]; exact v4, a2, a3, a4, a5, fun j h1 h2 h3 => by rw [a6 j h1 h2 h3, hs_t (by omega), o _ _ _ (by omega), beg_o (by omega)], fun tt k j hf => ?_⟩
    · rw [← a1, in_210]
      simp (disch := omega) only [x_6_0, x_79_1_12_d0, x_79_1_12_d1, x_79_1_12_d2, x_79_1_12_d3, x_79_1_12_d4, x_1, x_79_2_12_d0, x_79_2_12_d1, x_79_2_12_d2, x_79_2_12_d3, x_79_2_12_d4, x_7_1_I, x_7_1_A, x_7_1_U, x_33, x_62, x_60, x_61, x_36, x_73, x_82, x_34, x_4_1, x_39_187, x_39_193, x_7_2_I, x_7_2_A, x_7_2_U, x_4_2, x_65, x_11, x_38_187, x_38_193, x_10_2_I, x_10_2_A, x_10_2_U, cb_ri, cb_rl, cb_rv, cb_th, cb_ite, ps_s, ps_n, u_210_0, u_210_23, u_210_24, u_210_85, bg, rx, f8, hs_eq, Int.reduceEq, Int.reduceLT, Int.reduceLE, reduceIte, Int.reduceAdd, Int.reduceSub, Int.reduceMul, Int.reduceNeg, Int.reduceToNat, Bool.false_eq_true, eq_self, if_pos, if_neg]
    · unfold rdFr at hf
      rw [a7 tt k j (by omega), hs_o (by omega), o tt k j (by omega), beg_o (by omega)]
/-- as INV_of, and the tape is used up -/
theorem INV_use {h h' : Hp} {H N H' N' : Nat} (I : INV h H N) (fr : ∀ tt k j, ¬ (ofFr tt k ∨ (k = 0 ∧ (tt = 149 ∨ tt = 194))) → h' tt k j = h tt k j) (t1 : h' 149 0 0 = 0) (t2 : h' 194 0 0 = 0) (R : RS h' 0 (h' 187 0) H' N') (G : GM (h' 187 0) H' N') (W : LawR h' 0 (h' 187 0)) (P : PastR h') (f : h' 184 0 0 = h' 198 0 0) : INV h' H' N' := by
  obtain ⟨⟨r1, r2, r3⟩, ⟨en, -, -, -, t4⟩, ⟨i1, i2⟩, -, -, ad⟩ := I
  have st : ∀ k, k ≠ 0 → k ≠ 1 → ∀ t i, stTag t → h' t k i = h t k i := fun k h0 h1 t i ht => fr t k i (by unfold stTag at ht; unfold ofFr stFr scr csc rsc stTag; omega)
  have hi : ∀ tt k j, tt = 148 ∨ tt = 185 ∨ tt = 188 ∨ tt = 189 ∨ tt = 193 ∨ tt = 206 → k = 0 → h' tt k j = h tt k j := fun tt k j ht hk => fr tt k j (by unfold ofFr stFr scr csc rsc stTag; omega)
  have m8 : h' 188 0 = h 188 0 := funext (fun j => hi _ _ _ (by omega) rfl)
  have lw : ∀ tt j, (104 ≤ tt ∧ tt ≤ 106) ∨ tt = 109 ∨ tt = 110 ∨ tt = 113 → h' tt 1 j = h tt 1 j := fun tt j ht => fr tt 1 j (by unfold ofFr stFr scr csc rsc stTag; omega)
  refine ⟨⟨R, G, W⟩, ⟨0, by omega, t1, t2, fun j hj => by rw [hi 193 _ _ (by omega) rfl, hi 148 _ _ (by omega) rfl]; exact t4 j hj⟩, ⟨by rw [hi 185 _ _ (by omega) rfl, hi 189 _ _ (by omega) rfl]; exact i1, ?_⟩, P, f, by rw [hi _ _ _ (by omega) rfl]; exact ad⟩
  rw [hi 185 _ _ (by omega) rfl, m8]
  rcases i2 with y | ⟨y1, H2, N2, y2, y3, y4⟩
  · exact Or.inl y
  · exact Or.inr ⟨y1, H2, N2, RS_e (st 2 (by omega) (by omega)) y2, y3, LawR_e lw (fun _ _ => rfl) y4⟩
theorem PastR_e {h h' : Hp} (P : PastR h) (e0 : ∀ tt j, tt = 125 ∨ tt = 126 ∨ tt = 187 ∨ tt = 191 ∨ tt = 192 → h' tt 0 j = h tt 0 j) (st : ∀ k t i, 3 ≤ k → stTag t → h' t k i = h t k i) : PastR h' := by
  obtain ⟨S, nw, p1, p2, p3, p4, p5, p6⟩ := P
  have m7 : h' 187 0 = h 187 0 := funext (fun j => e0 _ _ (by omega))
  have am : ∀ a, actM h' a = actM h a := fun a => funext (fun j => by unfold actM; rw [m7, e0 191 _ (by omega)])
  refine ⟨S, nw, by rw [e0 _ _ (by omega)]; exact p1, by rw [e0 _ _ (by omega)]; exact p2, p3, by rw [e0 _ _ (by omega)]; exact p4, p5, fun a ha => ?_⟩
  obtain ⟨H', N', q1, q2, q3⟩ := p6 a ha
  rw [am, m7]
  exact ⟨H', N', RS_e (fun t i ht => st _ t i (by omega) ht) q1, q2, q3⟩
theorem of_law {tt k : Nat} (y : lawFr tt k) : ofFr tt k ∨ (k = 0 ∧ (tt = 149 ∨ tt = 194)) := by
  unfold lawFr at y
  by_cases c : k = 0 ∧ tt = 149
  · exact Or.inr (by omega)
  · exact Or.inl (Or.inr (Or.inr (scr_c (by unfold csc; omega))))
theorem of_rd {tt k : Nat} (y : rdFr tt k) : ofFr tt k ∨ (k = 0 ∧ (tt = 149 ∨ tt = 194)) := by
  unfold rdFr at y
  by_cases c : tt = 194
  · exact Or.inr (by omega)
  · by_cases c2 : tt = 198
    · exact Or.inl (Or.inr (Or.inl (by omega)))
    · exact Or.inl (Or.inr (Or.inr (scr_m (by unfold rsc; omega))))
theorem lw_n {tt k : Nat} (h : ¬ (k = 2 ∧ 104 ≤ tt ∧ tt ≤ 113) ∧ ¬ (k = 0 ∧ 149 ≤ tt ∧ tt ≤ 155)) : ¬ lawFr tt k := by unfold lawFr; omega
theorem rd_n {tt k : Nat} (h : tt < 186 ∨ (187 ≤ tt ∧ tt ≤ 193)) : ¬ rdFr tt k := by unfold rdFr; omega
theorem ag_law (lc lr H N : Nat) (h : Hp) (I : INV h H N) (z : Zh h) : AGt t0 (fun h => cl (lc + 80) 87 [aA 11 0] h) (fun h => cl (lr + 80) 210 [aA 12 0] h) h := by
  obtain ⟨e, t1, t2, t3, t4⟩ := I.2.1
  have rc := read_c (lc + 51) t2 t1
  cases hq : lawOf (h 148 0) e with
  | inl f =>
    rw [hq] at rc
    obtain ⟨h', c1, c2, c3, c4⟩ := rc
    let h1 : Hp := hset h' 184 0 0 (f : Int)
    have o1 : ∀ tt k j, ¬ (lawFr tt k ∨ (k = 0 ∧ tt = 184)) → h1 tt k j = h tt k j := fun tt k j hf => by
      show hset h' 184 0 0 (f : Int) tt k j = _
      rw [hs_o (fun y => hf (Or.inr ⟨y.2.1, y.1⟩)), c4 tt k j (fun y => hf (Or.inl y))]
    have hC : cl (lc + 80) 87 [aA 11 0] h = th 0 h1 := by
      rw [in_87]
      simp (disch := omega) only [x_6_0, x_35_0, x_79_1_2_d0, x_79_1_2_d1, x_79_1_2_d2, x_79_1_2_d3, x_79_1_2_d4, x_7_1_I, x_7_1_A, x_7_1_U, x_33, x_36, x_4_1, x_69, x_84, x_35_2, x_79_2_1_d0, x_79_2_1_d1, x_79_2_1_d2, x_79_2_1_d3, x_79_2_1_d4, x_79_1_5_d0, x_79_1_5_d1, x_79_1_5_d2, x_79_1_5_d3, x_79_1_5_d4, x_82, cb_ri, cb_rl, cb_rv, cb_th, cb_ite, ps_s, ps_n, u_87_0, u_87_33, c1, c3, Int.reduceEq, Int.reduceLT, Int.reduceLE, reduceIte, Int.reduceAdd, Int.reduceSub, Int.reduceMul, Int.reduceNeg, Int.reduceToNat, Bool.false_eq_true, eq_self, if_pos, if_neg]
      rfl
    have z1 : Zh h1 := Z_th hC z
    have lm := law_m (lr + 48) e (h 148 0) h1 z1 t1 (by rw [o1 _ _ _ (by unfold lawFr; omega)]; exact t3) (fun i hi => by rw [o1 _ _ _ (by unfold lawFr; omega)]; exact (t4 i hi).1)
    rw [hq] at lm
    obtain ⟨h2, m1, m2, m3, m4, m5⟩ := lm
    have tot : ∀ tt k j, ¬ (lawFr tt k ∨ rdFr tt k ∨ (k = 0 ∧ tt = 184)) → h2 tt k j = h tt k j := fun tt k j hf => by
      rw [m5 tt k j (fun y => hf (Or.inr (Or.inl y)))]
      exact o1 tt k j (fun y => hf (y.elim Or.inl (fun y => Or.inr (Or.inr y))))
    have nn : ∀ tt k, ¬ (k = 2 ∧ 104 ≤ tt ∧ tt ≤ 113) ∧ ¬ (k = 0 ∧ 149 ≤ tt ∧ tt ≤ 155) ∧ (tt < 186 ∨ (187 ≤ tt ∧ tt ≤ 193)) ∧ tt ≠ 184 → ¬ (lawFr tt k ∨ rdFr tt k ∨ (k = 0 ∧ tt = 184)) := fun tt k hh y => by
      rcases y with y | y | y
      · exact lw_n ⟨hh.1, hh.2.1⟩ y
      · exact rd_n hh.2.2.1 y
      · omega
    have m7 : h2 187 0 = h 187 0 := funext (fun j => tot _ _ _ (nn _ _ (by omega)))
    refine Or.inr ⟨0, h1, hC, by decide, 0, h2, m1, m2, ⟨H, N, INV_use I (fun tt k j hf => tot tt k j (fun y => hf ?_)) ?_ m4 (by rw [m7]; exact RS_e (fun t i ht => tot _ _ _ (nn _ _ (by unfold stTag at ht; omega))) I.1.1) (by rw [m7]; exact I.1.2.1) (by rw [m7]; exact LawR_e (fun tt j ht => tot _ _ _ (nn _ _ (by omega))) (fun _ _ => rfl) I.1.2.2) (PastR_e I.2.2.2.1 (fun tt j ht => tot _ _ _ (nn _ _ (by omega))) (fun k t i hk ht => tot _ _ _ (nn _ _ (by unfold stTag at ht; omega)))) ?_⟩, fun j => tot _ _ _ (nn _ _ (by omega)), tot _ _ _ (nn _ _ (by omega))⟩
    · rcases y with y | y | y
      · exact of_law y
      · exact of_rd y
      · exact Or.inl (Or.inr (Or.inl (by omega)))
    · rw [m5 _ _ _ (by unfold rdFr; omega)]; show hset h' 184 0 0 (f : Int) 149 0 0 = 0; rw [hs_t (by omega)]; exact c2
    · rw [m3, m5 _ _ _ (by unfold rdFr; omega)]; exact hs_eq _ _ _ _ _
  | inr L =>
    have lx := lawOf_ev t1 hq
    rw [hq] at rc
    obtain ⟨h', c1, c2, c3, c5, c6, c7, c4⟩ := rc
    obtain ⟨hb, d1, d2⟩ := lawCopy_c (lc + 78) 2 0 (hset h' 184 0 0 (-1)) (by omega)
    have kb := cpW d2
    let h1 : Hp := hset hb 126 0 0 0
    have fg : cl (lc + 79) 39 [aA 5 0] hb = rv h1 := by
      show cl ((lc + 78) + 1) _ _ _ = _
      rw [in_39]
      simp (disch := omega) only [x_6_0, x_1, x_36, x_83, u_39_0, Int.reduceEq, Int.reduceLT, Int.reduceLE, reduceIte, Int.reduceAdd, Int.reduceSub, Int.reduceMul, Int.reduceNeg, Int.reduceToNat, Bool.false_eq_true, eq_self, if_pos, if_neg]
      rfl
    have W2 : LawW (hset h' 184 0 0 (-1)) 2 L := LawW_e (fun tt j ht => hs_o (by omega)) ⟨c5.2.1, c5.2.2.1, c5.2.2.2.1, c5.2.2.2.2, c6, c7, lx⟩
    have W1 : LawW h1 0 L := LawW_e (fun tt j ht => hs_o (by omega)) (LawW_cp d2 W2)
    have e13 : h1 113 0 0 = (L.length : Int) := by
      show hset hb 126 0 0 0 113 0 0 = _
      rw [hs_t (by omega), d2.2.1 113 1 0 (by simp [tgW]) (by omega), hs_t (by omega)]
      exact c5.1
    have o1 : ∀ tt k j, ¬ (lawFr tt k ∨ (k = 0 ∧ ((104 ≤ tt ∧ tt ≤ 113) ∨ tt = 184 ∨ tt = 126))) → h1 tt k j = h tt k j := fun tt k j hf => by
      show hset hb 126 0 0 0 tt k j = _
      rw [hs_o (fun y => hf (Or.inr (by omega))), kb tt k j (fun y => hf (Or.inr (by omega))), hs_o (fun y => hf (Or.inr (by omega))), c4 tt k j (fun y => hf (Or.inl y))]
    have hC : cl (lc + 80) 87 [aA 11 0] h = ri (L.length : Int) h1 := by
      rw [in_87]
      simp (disch := omega) only [x_6_0, x_35_0, x_79_1_2_d0, x_79_1_2_d1, x_79_1_2_d2, x_79_1_2_d3, x_79_1_2_d4, x_7_1_I, x_7_1_A, x_7_1_U, x_33, x_36, x_4_1, x_69, x_84, x_35_2, x_79_2_1_d0, x_79_2_1_d1, x_79_2_1_d2, x_79_2_1_d3, x_79_2_1_d4, x_79_1_5_d0, x_79_1_5_d1, x_79_1_5_d2, x_79_1_5_d3, x_79_1_5_d4, x_82, cb_ri, cb_rl, cb_rv, cb_th, cb_ite, ps_s, ps_n, u_87_0, u_87_33, c1, c3, d1, fg, e13, Int.reduceEq, Int.reduceLT, Int.reduceLE, reduceIte, Int.reduceAdd, Int.reduceSub, Int.reduceMul, Int.reduceNeg, Int.reduceToNat, Bool.false_eq_true, eq_self, if_pos, if_neg]
    have z1 : Zh (hset h1 25 0 0 (L.length : Int)) := Zh_o (Z_ri hC z) (by omega)
    have lm := law_m (lr + 48) e (h 148 0) (hset h1 25 0 0 (L.length : Int)) z1 t1 (by rw [hs_t (by omega), o1 _ _ _ (by unfold lawFr; omega)]; exact t3) (fun i hi => by rw [hs_t (by omega), o1 _ _ _ (by unfold lawFr; omega)]; exact (t4 i hi).1)
    rw [hq] at lm
    obtain ⟨h2, m1, m2, m3, m4, m5, m6, m7, m8, m9, m10⟩ := lm
    have tot : ∀ tt k j, ¬ (lawFr tt k ∨ rdFr tt k ∨ (k = 0 ∧ ((104 ≤ tt ∧ tt ≤ 113) ∨ tt = 184 ∨ tt = 126 ∨ tt = 25 ∨ tt = 187 ∨ tt = 192))) → h2 tt k j = h tt k j := fun tt k j hf => by
      have n1 : ¬ lawFr tt k := fun y => hf (Or.inl y)
      have n2 : ¬ rdFr tt k := fun y => hf (Or.inr (Or.inl y))
      have n3 : ¬ (k = 0 ∧ ((104 ≤ tt ∧ tt ≤ 113) ∨ tt = 184 ∨ tt = 126 ∨ tt = 25 ∨ tt = 187 ∨ tt = 192)) := fun y => hf (Or.inr (Or.inr y))
      rw [m10 tt k j (fun y => y.elim n2 (fun y => n3 (by omega))), hs_o (by omega)]
      exact o1 tt k j (fun y => y.elim n1 (fun y => n3 (by omega)))
    have nn : ∀ tt k, ¬ (k = 2 ∧ 104 ≤ tt ∧ tt ≤ 113) ∧ ¬ (k = 0 ∧ 149 ≤ tt ∧ tt ≤ 155) ∧ (tt < 186 ∨ (187 ≤ tt ∧ tt ≤ 193)) ∧ ¬ (k = 0 ∧ ((104 ≤ tt ∧ tt ≤ 113) ∨ tt = 184 ∨ tt = 126 ∨ tt = 25 ∨ tt = 187 ∨ tt = 192)) → ¬ (lawFr tt k ∨ rdFr tt k ∨ (k = 0 ∧ ((104 ≤ tt ∧ tt ≤ 113) ∨ tt = 184 ∨ tt = 126 ∨ tt = 25 ∨ tt = 187 ∨ tt = 192))) := fun tt k hh y => by
      rcases y with y | y | y
      · exact lw_n ⟨hh.1, hh.2.1⟩ y
      · exact rd_n hh.2.2.1 y
      · exact hh.2.2.2 y
    have cc : ∀ tt k j, tt < 186 → tt ≠ 25 → h2 tt k j = h1 tt k j := fun tt k j ht h25 => by rw [m10 tt k j (by unfold rdFr; omega), hs_o (by omega)]
    have mm : ∀ j, j ≠ 1 → j ≠ 2 → j < 346 → h2 187 0 j = h 187 0 j := fun j a b c => by rw [m9 j a b c, hs_t (by omega), o1 _ _ _ (by unfold lawFr; omega)]
    obtain ⟨S, nw, p1, p2, p3, p4, p5, p6⟩ := I.2.2.2.1
    refine Or.inl ⟨(L.length : Int), h1, hC, h2, m1, m2, ?_, ⟨H, N, INV_use I (fun tt k j hf => tot tt k j (fun y => hf ?_)) ?_ m4 ?_ ?_ ?_ (PastR_0 (nw := nw) ?_ m5 ?_ p5) ?_⟩, fun j => tot _ _ _ (nn _ _ (by omega)), tot _ _ _ (nn _ _ (by omega))⟩
    · rw [m10 _ _ _ (by unfold rdFr; omega), hs_eq]
    · rcases y with y | y | y
      · exact of_law y
      · exact of_rd y
      · by_cases c : tt = 25
        · exact Or.inl (Or.inr (Or.inr (Or.inr (Or.inr ⟨c, y.1⟩))))
        · exact Or.inl (Or.inr (Or.inl (by omega)))
    · rw [cc _ _ _ (by omega) (by omega)]
      show hset hb 126 0 0 0 149 0 0 = 0
      rw [hs_t (by omega), kb _ _ _ (by omega), hs_t (by omega)]
      exact c2
    · exact RS_mem (fun i h1 h2 h3 => mm i h2 h3 h1) (RS_e (fun t i ht => tot _ _ _ (nn _ _ (by unfold stTag at ht; omega))) I.1.1)
    · exact GM_mem (fun i h1 h2 h3 => mm i h2 h3 (by omega)) I.1.2.1
    · refine ⟨L, LawW_e (fun tt j ht => cc tt 0 j (by omega) (by omega)) W1, ?_, by rw [cc _ _ _ (by omega) (by omega), e13, m6]⟩
      cases L with
      | nil => exact Or.inl ⟨by rw [m6]; decide, rfl⟩
      | cons x L => exact Or.inr ⟨by rw [m6, List.length_cons]; omega, e, m7, t1, by rw [← hq]; exact lawOf_l (fun i hi => m8 i hi)⟩
    · rw [cc _ _ _ (by omega) (by omega)]; exact hs_eq _ _ _ _ _
    · rw [tot _ _ _ (nn _ _ (by omega))]; exact p4
    · rw [m3, cc _ _ _ (by omega) (by omega)]
      show hset hb 126 0 0 0 184 0 0 = -1
      rw [hs_t (by omega), kb _ _ _ (by omega), hs_eq]
