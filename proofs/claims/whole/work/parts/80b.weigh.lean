/-! THE CLASS: the way of a beat is weighed. -/
theorem sub_le {u a : Nat} (h : ∀ x, u.testBit x = true → a.testBit x = true) : u ≤ a := by
  have e : u &&& a = u := by
    apply Nat.eq_of_testBit_eq
    intro i
    rw [Nat.testBit_and]
    cases c : u.testBit i with
    | false => rfl
    | true => rw [h i c]; rfl
  rw [← e]
  exact Nat.and_le_right
theorem sub_test {u a : Nat} : u ^^^ (u &&& a) = 0 ↔ ∀ x, u.testBit x = true → a.testBit x = true := by
  constructor
  · intro h x hx
    have : (u ^^^ (u &&& a)).testBit x = false := by rw [h]; simp
    rw [Nat.testBit_xor, Nat.testBit_and, hx] at this
    cases c : a.testBit x with
    | true => rfl
    | false => rw [c] at this; cases this
  · intro h
    apply Nat.eq_of_testBit_eq
    intro i
    rw [Nat.testBit_xor, Nat.testBit_and, Nat.zero_testBit]
    cases c : u.testBit i with
    | false => rfl
    | true => rw [h i c]; rfl
theorem or_sub {u a x : Nat} (h : ∀ y, u.testBit y = true → a.testBit y = true) (hx : a.testBit x = true) : ∀ y, (u ||| 2 ^ x).testBit y = true → a.testBit y = true := by
  intro y hy
  rw [tb_or, Bool.or_eq_true] at hy
  rcases hy with q | q
  · exact h y q
  · have : x = y := by simpa using q
    rw [← this]; exact hx
def WRc (q : Hp) (ab : Nat → Nat → Bool) (fr : Nat → Nat → Int) (H : Nat) (cs : List Nat) (k : Nat) : Prop := ∀ u, (∀ x, u.testBit x = true → (ahF ab H (cs.take k)).testBit x = true) → q 163 0 (64 * k + u) = dpv 1000 ab fr H (cs.drop k) u
theorem ahF_up {ab : Nat → Nat → Bool} {H : Nat} {cs : List Nat} {k : Nat} (hk : k < cs.length) : (∀ x, (ahF ab H (cs.take k)).testBit x = true → (ahF ab H (cs.take (k + 1))).testBit x = true) ∧ ∀ x, x < H → ab (cs.getD k 0) x = true → (ahF ab H (cs.take (k + 1))).testBit x = true := by
  rw [take_s cs hk, ahF_a]
  refine ⟨fun x hx => by rw [Nat.testBit_or, hx]; rfl, fun x h1 h2 => by rw [Nat.testBit_or, bsN_bit, h2, decide_eq_true h1]; simp⟩
theorem isOpen_c (lv k x u c : Nat) (q : Hp) (hq : q 160 0 k = (c : Int)) (hk : k < 14) (hc : c < 64) (hu : u < 64) (hx : x < 6) : cl (lv + 1) 80 [aA 10 0, aI (k : Int), aI (x : Int), aI (u : Int)] q = ri (boI (c.testBit x && !u.testBit x)) q := by
  have l1 : c ^^^ (c &&& u) < 2 ^ 6 := Nat.xor_lt_two_pow hc (Nat.lt_of_le_of_lt Nat.and_le_left hc)
  have t : iand (ishr (iand (c : Int) (ixor (u : Int) (-1))) (x : Int)) 1 = if (c.testBit x && !u.testBit x) = true then 1 else 0 := by
    rw [iandn_n (by omega) (by omega), bit_n (by omega) (by omega), Nat.testBit_xor, Nat.testBit_and]
    cases c.testBit x <;> cases u.testBit x <;> rfl
  rw [in_80]
  cases b : (c.testBit x && !u.testBit x) with
  | true =>
    rw [b, if_pos rfl] at t
    simp (disch := omega) only [x_6_0, x_34, x_4_1, x_38_160, x_4_3, x_1, x_19, x_17, x_4_2, x_21, x_68, x_60, x_61, x_85, u_80_0, u_80_21, u_80_22, tn, hq, t, boI, Int.reduceEq, Int.reduceLT, Int.reduceLE, reduceIte, Int.reduceAdd, Int.reduceSub, Int.reduceMul, Int.reduceNeg, Int.reduceToNat, Bool.false_eq_true, eq_self, if_pos, if_neg]
  | false =>
    rw [b, if_neg Bool.false_ne_true] at t
    simp (disch := omega) only [x_6_0, x_34, x_4_1, x_38_160, x_4_3, x_1, x_19, x_17, x_4_2, x_21, x_68, x_60, x_61, x_85, u_80_0, u_80_21, u_80_22, tn, hq, t, boI, Int.reduceEq, Int.reduceLT, Int.reduceLE, reduceIte, Int.reduceAdd, Int.reduceSub, Int.reduceMul, Int.reduceNeg, Int.reduceToNat, Bool.false_eq_true, eq_self, if_pos, if_neg]
theorem worthWith_c (lv k x u : Nat) (f w : Int) (q : Hp) (hf : q 161 0 (6 * k + x) = f) (hw : q 163 0 (64 * (k + 1) + (u ||| 2 ^ x)) = w) (hk : k < 14) (hu : u < 64) (hx : x < 6) (bf : 0 ≤ f ∧ f ≤ 63) (bw : 0 ≤ w ∧ w ≤ 1400000) : cl (lv + 1) 81 [aA 10 0, aI (k : Int), aI (x : Int), aI (u : Int)] q = ri (1000 - f + w) q := by
  have h2 : 2 ^ x < 2 ^ 6 := Nat.pow_lt_pow_right (by omega) (by omega)
  have ob : ior (u : Int) (ishl 1 (x : Int)) = ((u ||| 2 ^ x : Nat) : Int) := by rw [ishl_1 x (by omega), ior_n (by omega) (by omega)]
  have ol : u ||| 2 ^ x < 2 ^ 6 := Nat.or_lt_two_pow hu h2
  have e1 : ((k : Int) * 6 + (x : Int)).toNat = 6 * k + x := by omega
  have e2 : (((k : Int) + 1) * 64 + ((u ||| 2 ^ x : Nat) : Int)).toNat = 64 * (k + 1) + (u ||| 2 ^ x) := by omega
  rw [in_81]
  simp (disch := omega) only [x_1, x_6_0, x_34, x_4_1, x_13, x_4_2, x_11, x_38_161, x_38_163, x_12, x_4_3, x_20, x_18, x_82, u_81_0, e1, hf, ob, e2, hw, w32_id]
/-- what a hand's question needs -/
def WQ (q : Hp) (ab : Nat → Nat → Bool) (fr : Nat → Nat → Int) (H : Nat) (cs : List Nat) : Prop := GWy q ab fr H cs ∧ H ≤ 6 ∧ cs.length ≤ 14 ∧ ∀ n ∈ cs, ∀ x, x < H → 0 ≤ fr n x ∧ fr n x ≤ 63
theorem open_w (lv k x u : Nat) {q : Hp} {ab : Nat → Nat → Bool} {fr : Nat → Nat → Int} {H : Nat} {cs : List Nat} (W : WQ q ab fr H cs) (hk : k < cs.length) (hu : u < 64) (hx : x < 6) : cl (lv + 1) 80 [aA 10 0, aI (k : Int), aI (x : Int), aI (u : Int)] q = ri (boI (decide (x < H) && (!u.testBit x && ab (cs.getD k 0) x))) q := by
  obtain ⟨⟨-, g2, -⟩, hH, hl, -⟩ := W
  have := isOpen_c lv k x u _ q (g2 k hk).2.1 (by omega) (bsN_mono (ab (cs.getD k 0)) (m := 6) hH) hu hx
  rw [bsN_bit] at this
  rw [this]
  congr 2
  cases decide (x < H) <;> cases ab (cs.getD k 0) x <;> cases u.testBit x <;> rfl
theorem worth_w (lv k x u : Nat) {q : Hp} {ab : Nat → Nat → Bool} {fr : Nat → Nat → Int} {H : Nat} {cs : List Nat} (W : WQ q ab fr H cs) (hk : k < cs.length) (hx : x < H) (hs : ∀ y, u.testBit y = true → (ahF ab H (cs.take k)).testBit y = true) (hr : WRc q ab fr H cs (k + 1)) (hc : ab (cs.getD k 0) x = true) : cl (lv + 1) 81 [aA 10 0, aI (k : Int), aI (x : Int), aI (u : Int)] q = ri (1000 - fr (cs.getD k 0) x + dpv 1000 ab fr H (cs.drop (k + 1)) (u ||| 2 ^ x)) q := by
  obtain ⟨⟨-, g2, -⟩, hH, hl, hf⟩ := W
  obtain ⟨a1, a2⟩ := ahF_up (ab := ab) (H := H) hk
  have hu : u < 64 := Nat.lt_of_le_of_lt (sub_le hs) (ahF_lt ab hH _)
  have db := dpv_b (Or.inl rfl : (1000 : Int) = 1000 ∨ (1000 : Int) = 100000) ab fr H (cs.drop (k + 1)) (u ||| 2 ^ x) (by rw [List.length_drop]; omega) (fun n hn => hf n (List.mem_of_mem_drop hn))
  exact worthWith_c lv k x u _ _ q ((g2 k hk).2.2 x hx) (hr _ (or_sub (fun y hy => a1 y (hs y hy)) (a2 x hx hc))) (by omega) hu (by omega) (hf _ (getD_mem hk) x hx) db
theorem mostFrom_c (lv k u : Nat) {q : Hp} {ab : Nat → Nat → Bool} {fr : Nat → Nat → Int} {H : Nat} {cs : List Nat} (W : WQ q ab fr H cs) (hk : k < cs.length) (hs : ∀ y, u.testBit y = true → (ahF ab H (cs.take k)).testBit y = true) (hr : WRc q ab fr H cs (k + 1)) : cl (lv + 2) 79 [aA 10 0, aI (k : Int), aI (u : Int)] q = ri (dpv 1000 ab fr H (cs.drop k) u) q := by
  have W2 := W
  obtain ⟨⟨-, g2, -⟩, hH, hl, hf⟩ := W2
  obtain ⟨a1, a2⟩ := ahF_up (ab := ab) (H := H) hk
  have hu : u < 64 := Nat.lt_of_le_of_lt (sub_le hs) (ahF_lt ab hH _)
  have w0 := hr u (fun y hy => a1 y (hs y hy))
  have e1 : (((k : Int) + 1) * 64 + (u : Int)).toNat = 64 * (k + 1) + u := by omega
  have hd : dpv 1000 ab fr H (cs.drop k) u = mxH (fun x => decide (x < H) && (!u.testBit x && ab (cs.getD k 0) x)) (fun x => 1000 - fr (cs.getD k 0) x + dpv 1000 ab fr H (cs.drop (k + 1)) (u ||| 2 ^ x)) (dpv 1000 ab fr H (cs.drop (k + 1)) u) 6 := by
    rw [drop_c cs hk, mxH_more hH (fun x h1 h2 => by simp; omega)]
    exact mxH_congr rfl H (fun x hx => ⟨by simp [hx], fun _ => rfl⟩)
  rw [hd, in_79]
  simp (disch := omega) only [x_6_0, x_34, x_4_1, x_1, x_11, x_13, x_4_2, x_38_163, x_7_3_I, x_7_3_A, x_7_3_U, x_7_4_I, x_7_4_A, x_7_4_U, x_61, x_4_4, x_65, x_79_4_10_d0, x_79_4_10_d1, x_79_4_10_d2, x_79_4_10_d3, x_79_4_10_d4, x_68, x_4_3, x_80_2_d0, x_80_2_d1, x_80_2_d2, x_80_2_d3, x_80_2_d4, x_10_4_I, x_10_4_A, x_10_4_U, x_60, x_82, cb_ri, cb_rl, cb_rv, cb_th, cb_ite, ps_s, ps_n, u_79_0, u_79_48, u_79_54, e1, w0, w32_id]
  refine loop_up (F := fun i => run (lv + 1) 79 17 [aA 10 0, aI (k : Int), aI (u : Int), aI (mxH (fun x => decide (x < H) && (!u.testBit x && ab (cs.getD k 0) x)) (fun x => 1000 - fr (cs.getD k 0) x + dpv 1000 ab fr H (cs.drop (k + 1)) (u ||| 2 ^ x)) (dpv 1000 ab fr H (cs.drop (k + 1)) u) i), aI (i : Int)] [] q) (N := 6) ?_ ?_ 0 (by omega)
  · intro i hi
    have op := open_w lv k i u W hk hu hi
    show run _ _ _ _ _ _ = run _ _ _ _ _ _
    simp only [mxH]
    rw [hd_79_17]
    by_cases c : (decide (i < H) && (!u.testBit i && ab (cs.getD k 0) i)) = true
    · rw [c] at op
      have op : _ = ri 1 q := op
      rw [if_pos c]
      rw [Bool.and_eq_true, Bool.and_eq_true, decide_eq_true_eq] at c
      have ww := worth_w lv k i u W hk c.1 hs hr c.2.2
      simp (disch := omega) only [x_6_0, x_34, x_4_1, x_1, x_11, x_13, x_4_2, x_38_163, x_7_3_I, x_7_3_A, x_7_3_U, x_7_4_I, x_7_4_A, x_7_4_U, x_61, x_4_4, x_65, x_79_4_10_d0, x_79_4_10_d1, x_79_4_10_d2, x_79_4_10_d3, x_79_4_10_d4, x_68, x_4_3, x_80_2_d0, x_80_2_d1, x_80_2_d2, x_80_2_d3, x_80_2_d4, x_10_4_I, x_10_4_A, x_10_4_U, x_60, x_82, cb_ri, cb_rl, cb_rv, cb_th, cb_ite, ps_s, ps_n, u_79_0, u_79_48, u_79_54, op, ww, max_c, Int.reduceEq, Int.reduceLT, Int.reduceLE, reduceIte, Int.reduceAdd, Int.reduceSub, Int.reduceMul, Int.reduceNeg, Int.reduceToNat, Bool.false_eq_true, eq_self, if_pos, if_neg, ci, w32_id]
    · rw [Bool.eq_false_iff.mpr c] at op
      have op : _ = ri 0 q := op
      rw [if_neg c]
      simp (disch := omega) only [x_6_0, x_34, x_4_1, x_1, x_11, x_13, x_4_2, x_38_163, x_7_3_I, x_7_3_A, x_7_3_U, x_7_4_I, x_7_4_A, x_7_4_U, x_61, x_4_4, x_65, x_79_4_10_d0, x_79_4_10_d1, x_79_4_10_d2, x_79_4_10_d3, x_79_4_10_d4, x_68, x_4_3, x_80_2_d0, x_80_2_d1, x_80_2_d2, x_80_2_d3, x_80_2_d4, x_10_4_I, x_10_4_A, x_10_4_U, x_60, x_82, cb_ri, cb_rl, cb_rv, cb_th, cb_ite, ps_s, ps_n, u_79_0, u_79_48, u_79_54, op, Int.reduceEq, Int.reduceLT, Int.reduceLE, reduceIte, Int.reduceAdd, Int.reduceSub, Int.reduceMul, Int.reduceNeg, Int.reduceToNat, Bool.false_eq_true, eq_self, if_pos, if_neg, ci, w32_id]
  · show run _ _ _ _ _ _ = _
    rw [hd_79_17]
    simp (disch := omega) only [x_6_0, x_34, x_4_1, x_1, x_11, x_13, x_4_2, x_38_163, x_7_3_I, x_7_3_A, x_7_3_U, x_7_4_I, x_7_4_A, x_7_4_U, x_61, x_4_4, x_65, x_79_4_10_d0, x_79_4_10_d1, x_79_4_10_d2, x_79_4_10_d3, x_79_4_10_d4, x_68, x_4_3, x_80_2_d0, x_80_2_d1, x_80_2_d2, x_80_2_d3, x_80_2_d4, x_10_4_I, x_10_4_A, x_10_4_U, x_60, x_82, cb_ri, cb_rl, cb_rv, cb_th, cb_ite, ps_s, ps_n, u_79_0, u_79_48, u_79_54, Int.reduceEq, Int.reduceLT, Int.reduceLE, reduceIte, Int.reduceAdd, Int.reduceSub, Int.reduceMul, Int.reduceNeg, Int.reduceToNat, Bool.false_eq_true, eq_self, if_pos, if_neg]
theorem firstHand_c (lv k u : Nat) {q : Hp} {ab : Nat → Nat → Bool} {fr : Nat → Nat → Int} {H : Nat} {cs : List Nat} (W : WQ q ab fr H cs) (hk : k < cs.length) (hs : ∀ y, u.testBit y = true → (ahF ab H (cs.take k)).testBit y = true) (hr : WRc q ab fr H cs (k + 1)) (hr0 : WRc q ab fr H cs k) : cl (lv + 2) 83 [aA 10 0, aI (k : Int), aI (u : Int)] q = ri (selH ab fr H (cs.getD k 0) (cs.drop (k + 1)) u) q := by
  have W2 := W
  obtain ⟨⟨-, g2, -⟩, hH, hl, hf⟩ := W2
  have hu : u < 64 := Nat.lt_of_le_of_lt (sub_le hs) (ahF_lt ab hH _)
  have w0 := hr0 u hs
  have e1 : ((k : Int) * 64 + (u : Int)).toNat = 64 * k + u := by omega
  have dk := drop_c cs hk
  have sl : ∀ x, x < H → selB ab fr H (cs.getD k 0) (cs.drop (k + 1)) u x = ((!u.testBit x && ab (cs.getD k 0) x) && decide (1000 - fr (cs.getD k 0) x + dpv 1000 ab fr H (cs.drop (k + 1)) (u ||| 2 ^ x) = dpv 1000 ab fr H (cs.drop k) u)) := by
    intro x hx
    rw [dk]
    exact sel_eq (Or.inl rfl) ab fr H _ _ u (by rw [List.length_drop]; omega) (fun n hn => hf n (by rw [← dk] at hn; exact List.mem_of_mem_drop hn)) x hx
  have main := loop_f (F := fun i (_ : Unit) => run (lv + 1) 83 2 [aA 10 0, aI (k : Int), aI (u : Int), aI (i : Int)] [] q) (r := fun i => ri (i : Int) q) (d := ri (-1) q) (P := fun x => decide (x < H) && selB ab fr H (cs.getD k 0) (cs.drop (k + 1)) u x) (N := 6) ?_ ?_ ()
  · have hv : run (lv + 1) 83 2 [aA 10 0, aI (k : Int), aI (u : Int), aI ((0 : Nat) : Int)] [] q = ri (selH ab fr H (cs.getD k 0) (cs.drop (k + 1)) u) q := by
      unfold selH
      rcases main with ⟨i, hi, hp, hj, e⟩ | ⟨hj, e⟩
      · rw [Bool.and_eq_true, decide_eq_true_eq] at hp
        rw [ffst_at hp.1 hp.2 (fun j hj' => by
          have := hj j hj'
          rw [decide_eq_true (show j < H by omega), Bool.true_and] at this
          exact this)]
        exact e
      · rw [ffst_no (fun j hj' => by
          have := hj j (by omega)
          rw [decide_eq_true hj', Bool.true_and] at this
          exact this)]
        exact e
    rw [← hv, in_83]
    simp (disch := omega) only [x_1, x_7_3_I, x_7_3_A, x_7_3_U, x_61, x_4_3, x_65, x_6_0, x_4_1, x_4_2, x_79_4_10_d0, x_79_4_10_d1, x_79_4_10_d2, x_79_4_10_d3, x_79_4_10_d4, x_68, x_34, x_13, x_11, x_38_163, x_63, x_82, x_10_3_I, x_10_3_A, x_10_3_U, x_60, cb_ri, cb_rl, cb_rv, cb_th, cb_ite, ps_s, ps_n, u_83_0, u_83_41, u_83_47]
    rfl
  · intro i _ hi
    refine ⟨(), ?_⟩
    have op := open_w lv k i u W hk hu hi
    show run _ _ _ _ _ _ = if _ then _ else run _ _ _ _ _ _
    rw [hd_83_2]
    by_cases c : (decide (i < H) && (!u.testBit i && ab (cs.getD k 0) i)) = true
    · rw [c] at op
      have op : _ = ri 1 q := op
      have c2 := c
      rw [Bool.and_eq_true, Bool.and_eq_true, decide_eq_true_eq] at c2
      have ww := worth_w lv k i u W hk c2.1 hs hr c2.2.2
      have se := sl i c2.1
      rw [c2.2.1, c2.2.2, Bool.true_and, Bool.true_and] at se
      rw [se, decide_eq_true c2.1, Bool.true_and]
      by_cases d : 1000 - fr (cs.getD k 0) i + dpv 1000 ab fr H (cs.drop (k + 1)) (u ||| 2 ^ i) = dpv 1000 ab fr H (cs.drop k) u
      · simp (disch := omega) only [x_1, x_7_3_I, x_7_3_A, x_7_3_U, x_61, x_4_3, x_65, x_6_0, x_4_1, x_4_2, x_79_4_10_d0, x_79_4_10_d1, x_79_4_10_d2, x_79_4_10_d3, x_79_4_10_d4, x_68, x_34, x_13, x_11, x_38_163, x_63, x_82, x_10_3_I, x_10_3_A, x_10_3_U, x_60, cb_ri, cb_rl, cb_rv, cb_th, cb_ite, ps_s, ps_n, u_83_0, u_83_41, u_83_47, op, ww, e1, w0, d, decide_true, Int.reduceEq, Int.reduceLT, Int.reduceLE, reduceIte, Int.reduceAdd, Int.reduceSub, Int.reduceMul, Int.reduceNeg, Int.reduceToNat, Bool.false_eq_true, eq_self, if_pos, if_neg, ci, w32_id]
      · simp (disch := omega) only [x_1, x_7_3_I, x_7_3_A, x_7_3_U, x_61, x_4_3, x_65, x_6_0, x_4_1, x_4_2, x_79_4_10_d0, x_79_4_10_d1, x_79_4_10_d2, x_79_4_10_d3, x_79_4_10_d4, x_68, x_34, x_13, x_11, x_38_163, x_63, x_82, x_10_3_I, x_10_3_A, x_10_3_U, x_60, cb_ri, cb_rl, cb_rv, cb_th, cb_ite, ps_s, ps_n, u_83_0, u_83_41, u_83_47, op, ww, e1, w0, d, decide_false, Int.reduceEq, Int.reduceLT, Int.reduceLE, reduceIte, Int.reduceAdd, Int.reduceSub, Int.reduceMul, Int.reduceNeg, Int.reduceToNat, Bool.false_eq_true, eq_self, if_pos, if_neg, ci, w32_id]
    · have op : cl (lv + 1) 80 [aA 10 0, aI (k : Int), aI (i : Int), aI (u : Int)] q = ri 0 q := by rw [op, Bool.eq_false_iff.mpr c]; rfl
      rw [if_neg (by
        intro z
        rw [Bool.and_eq_true, decide_eq_true_eq] at z
        rw [sl i z.1, Bool.and_eq_true] at z
        exact c (by rw [decide_eq_true z.1, z.2.1]; rfl))]
      simp (disch := omega) only [x_1, x_7_3_I, x_7_3_A, x_7_3_U, x_61, x_4_3, x_65, x_6_0, x_4_1, x_4_2, x_79_4_10_d0, x_79_4_10_d1, x_79_4_10_d2, x_79_4_10_d3, x_79_4_10_d4, x_68, x_34, x_13, x_11, x_38_163, x_63, x_82, x_10_3_I, x_10_3_A, x_10_3_U, x_60, cb_ri, cb_rl, cb_rv, cb_th, cb_ite, ps_s, ps_n, u_83_0, u_83_41, u_83_47, op, Int.reduceEq, Int.reduceLT, Int.reduceLE, reduceIte, Int.reduceAdd, Int.reduceSub, Int.reduceMul, Int.reduceNeg, Int.reduceToNat, Bool.false_eq_true, eq_self, if_pos, if_neg, ci, w32_id]
  · intro _
    show run _ _ _ _ _ _ = _
    rw [hd_83_2]
    simp (disch := omega) only [x_1, x_7_3_I, x_7_3_A, x_7_3_U, x_61, x_4_3, x_65, x_6_0, x_4_1, x_4_2, x_79_4_10_d0, x_79_4_10_d1, x_79_4_10_d2, x_79_4_10_d3, x_79_4_10_d4, x_68, x_34, x_13, x_11, x_38_163, x_63, x_82, x_10_3_I, x_10_3_A, x_10_3_U, x_60, cb_ri, cb_rl, cb_rv, cb_th, cb_ite, ps_s, ps_n, u_83_0, u_83_41, u_83_47, Int.reduceEq, Int.reduceLT, Int.reduceLE, reduceIte, Int.reduceAdd, Int.reduceSub, Int.reduceMul, Int.reduceNeg, Int.reduceToNat, Bool.false_eq_true, eq_self, if_pos, if_neg]
