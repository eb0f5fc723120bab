/-! THE JDK's METHODS. -/
theorem max_c (lv : Nat) (a b : Int) (h : Hp) : cl (lv + 1) 321 [aI a, aI b] h = ri (max a b) h := by
  rw [in_321]
  simp (disch := omega) only [x_4_0, x_4_1, x_64, x_60, x_61, x_82, u_321_0, u_321_9, u_321_10]
  split <;> congr 1 <;> omega
theorem min_c (lv : Nat) (a b : Int) (h : Hp) : cl (lv + 1) 322 [aI a, aI b] h = ri (min a b) h := by
  rw [in_322]
  simp (disch := omega) only [x_4_0, x_4_1, x_66, x_60, x_61, x_82, u_322_0, u_322_9, u_322_10]
  split <;> congr 1 <;> omega
theorem abs_c (lv : Nat) (a : Int) (h : Hp) (h0 : -2147483648 < a) (h1 : a < 2147483648) : cl (lv + 1) 320 [aI a] h = ri (if a < 0 then -a else a) h := by
  rw [in_320]
  simp (disch := omega) only [x_4_0, x_71, x_16, x_60, x_61, x_82, u_320_0, u_320_9, u_320_10, w32_id]
  split <;> rfl
theorem fm_t : ∀ n : Nat, n < 119 → (if ixor ((n : Int) - 59) 60 < 0 then (if irem ((n : Int) - 59) 60 = 0 then irem ((n : Int) - 59) 60 else w32 (irem ((n : Int) - 59) 60 + 60)) else irem ((n : Int) - 59) 60) = ((n : Int) - 59) % 60 := by decide +kernel
theorem floorMod_c (lv : Nat) (x : Int) (h : Hp) (h0 : -60 < x) (h1 : x < 60) : cl (lv + 1) 319 [aI x, aI 60] h = ri (x % 60) h := by
  rw [in_319]
  simp (disch := omega) only [x_4_0, x_4_1, x_15, x_7_2_I, x_7_2_A, x_7_2_U, x_19, x_71, x_4_2, x_68, x_11, x_82, u_319_0, u_319_18]
  have := fm_t (x + 59).toNat (by omega)
  rw [show (((x + 59).toNat : Nat) : Int) - 59 = x by omega] at this
  rw [← this]
  split
  · split <;> rfl
  · rfl
/-- how many bits -/
def pcN (a : Nat) : Nat :=
  let b := a - ((a >>> 1) &&& 1431655765)
  let c := (b &&& 858993459) + ((b >>> 2) &&& 858993459)
  let d := (c + (c >>> 4)) &&& 252645135
  let e := d + (d >>> 8)
  let f := e + (e >>> 16)
  f &&& 63
def cntN : Nat → Nat → Nat
  | 0, _ => 0
  | n + 1, a => a % 2 + cntN n (a / 2)
theorem pc_t : (List.range 16384).all (fun a => pcN a == cntN 14 a) = true := by decide +kernel
theorem shr_le (a i : Nat) : a >>> i ≤ a := by rw [Nat.shiftRight_eq_div_pow]; exact Nat.div_le_self _ _
theorem bitCount_x (lv : Nat) (a : Nat) (h : Hp) (ha : a < 16384) : cl (lv + 1) 315 [aI (a : Int)] h = ri ((cntN 14 a : Nat) : Int) h := by
  have e := List.all_eq_true.mp pc_t a (List.mem_range.mpr ha)
  simp only [beq_iff_eq] at e
  rw [← e]
  rw [in_315]
  simp (disch := omega) only [x_4_0, x_1, x_22, x_17, x_12, x_7_0, x_11, x_82, u_315_0]
  unfold pcN
  simp only
  generalize hb : a - ((a >>> 1) &&& 1431655765) = b
  have l1 : (a >>> 1) &&& 1431655765 ≤ a := Nat.le_trans Nat.and_le_left (shr_le a 1)
  have e1 : w32 ((a : Int) - iand (iushr (a : Int) 1) 1431655765) = (b : Int) := by
    rw [show (1 : Int) = ((1 : Nat) : Int) from rfl, iushr_n (by omega) (by omega), show (1431655765 : Int) = ((1431655765 : Nat) : Int) from rfl, iand_n (Nat.lt_of_le_of_lt (shr_le a 1) (by omega)) (by omega)]
    exact w32_of (by omega) (by omega) (by omega)
  rw [e1]
  have hbl : b < 16384 := by omega
  generalize hc : (b &&& 858993459) + ((b >>> 2) &&& 858993459) = c
  have l2 : b &&& 858993459 ≤ b := Nat.and_le_left
  have l3 : (b >>> 2) &&& 858993459 ≤ b := Nat.le_trans Nat.and_le_left (shr_le b 2)
  have e2 : w32 (iand (b : Int) 858993459 + iand (iushr (b : Int) 2) 858993459) = (c : Int) := by
    rw [show (2 : Int) = ((2 : Nat) : Int) from rfl, iushr_n (by omega) (by omega), show (858993459 : Int) = ((858993459 : Nat) : Int) from rfl, iand_n (by omega) (by omega), iand_n (Nat.lt_of_le_of_lt (shr_le b 2) (by omega)) (by omega)]
    exact w32_of (by omega) (by omega) (by omega)
  rw [e2]
  have hcl : c < 32768 := by omega
  generalize hd : (c + (c >>> 4)) &&& 252645135 = d
  have l4 := shr_le c 4
  have l5 : d ≤ c + (c >>> 4) := by rw [← hd]; exact Nat.and_le_left
  have e3 : iand (w32 ((c : Int) + iushr (c : Int) 4)) 252645135 = (d : Int) := by
    rw [show (4 : Int) = ((4 : Nat) : Int) from rfl, iushr_n (by omega) (by omega), w32_of (y := ((c + (c >>> 4) : Nat) : Int)) (by omega) (by omega) (by omega), show (252645135 : Int) = ((252645135 : Nat) : Int) from rfl, iand_n (by omega) (by omega), hd]
  rw [e3]
  generalize he : d + (d >>> 8) = e8
  have l6 := shr_le d 8
  have e4 : w32 ((d : Int) + iushr (d : Int) 8) = (e8 : Int) := by
    rw [show (8 : Int) = ((8 : Nat) : Int) from rfl, iushr_n (by omega) (by omega)]
    exact w32_of (by omega) (by omega) (by omega)
  rw [e4]
  have l7 := shr_le e8 16
  have e5 : w32 ((e8 : Int) + iushr (e8 : Int) 16) = ((e8 + (e8 >>> 16) : Nat) : Int) := by
    rw [show (16 : Int) = ((16 : Nat) : Int) from rfl, iushr_n (by omega) (by omega)]
    exact w32_of (by omega) (by omega) (by omega)
  rw [e5, show (63 : Int) = ((63 : Nat) : Int) from rfl, iand_n (by omega) (by omega)]
theorem cnt_shift (P : Nat → Bool) (n : Nat) : cnt P (n + 1) = (if P 0 then 1 else 0) + cnt (fun i => P (i + 1)) n := by
  induction n with
  | zero => simp [cnt]
  | succ n ih =>
    show cnt P (n + 1) + (if P (n + 1) then 1 else 0) = _
    rw [ih]
    show _ = _ + (cnt (fun i => P (i + 1)) n + if P (n + 1) then 1 else 0)
    omega
theorem cntN_cnt (n : Nat) : ∀ a : Nat, cntN n a = cnt (fun i => a.testBit i) n := by
  induction n with
  | zero => intro a; rfl
  | succ n ih =>
    intro a
    show a % 2 + cntN n (a / 2) = _
    rw [cnt_shift, ih]
    have e : (fun i => (a / 2).testBit i) = fun i => a.testBit (i + 1) := by funext i; rw [Nat.testBit_succ]
    rw [e, Nat.testBit_zero]
    congr 1
    by_cases h : a % 2 = 1
    · simp [h]
    · simp [h]; omega
theorem cnt_cut (P : Nat → Bool) {n m : Nat} (h : n ≤ m) : cnt (fun i => decide (i < n) && P i) m = cnt P n := by
  induction m with
  | zero => rw [show n = 0 by omega]; rfl
  | succ m ih =>
    by_cases hn : n = m + 1
    · subst hn
      exact cnt_congr (fun i hi => by simp [hi])
    · show cnt _ m + _ = _
      rw [ih (by omega)]
      simp; omega
/-- how many bits of a set -/
theorem bitCount_c (lv : Nat) (P : Nat → Bool) (n : Nat) (h : Hp) (hn : n ≤ 14) : cl (lv + 1) 315 [aI ((bsN P n : Nat) : Int)] h = ri ((cnt P n : Nat) : Int) h := by
  rw [bitCount_x lv _ h (bsN_mono P hn), cntN_cnt]
  have e : (fun i => (bsN P n).testBit i) = fun i => (decide (i < n) && P i) := by funext i; rw [bsN_bit]
  rw [e, cnt_cut P hn]
theorem strLen_c (lv : Nat) (s : Nat) (h : Hp) : cl (lv + 2) 323 [aA 20 s] h = ri (sLen s) h := by
  rw [in_323]
  simp (disch := omega) only [x_6_0, x_46, x_56, x_79_1_20_d0, x_79_1_20_d1, x_79_1_20_d2, x_79_1_20_d3, x_79_1_20_d4, x_21, x_82, cb_ri, cb_rl, cb_rv, cb_th, cb_ite, ps_s, ps_n, u_323_0, in_325, x_58, x_68, x_6_0, x_57, x_60, x_1, x_61, x_87, u_325_0, u_325_13, u_325_14]
  rw [if_neg (by omega)]
  unfold sLen
  rw [show (0 : Int) = ((0 : Nat) : Int) from rfl]
  by_cases hs : s < 46
  · have : (List.range 46).all (fun k => decide ((sTxt.getD k []).length < 2 ^ 31)) = true := by decide +kernel
    have := List.all_eq_true.mp this s (List.mem_range.mpr hs)
    rw [ishr_n (by omega) (by simpa using this)]
    rfl
  · have e : sTxt.getD s [] = [] := by
      rw [List.getD_eq_getElem?_getD, List.getElem?_eq_none (by show 46 ≤ s; omega)]; rfl
    rw [e]
    have : ishr (([] : List Int).length : Int) ((0 : Nat) : Int) = (([] : List Int).length : Int) := by decide
    rw [this]
theorem chr_t : (List.range 46).all (fun k => (sTxt.getD k []).all (fun c => decide (0 ≤ c ∧ c < 128))) = true := by decide +kernel
theorem chr_b (k i : Nat) (hk : k < 46) : 0 ≤ sChr k i ∧ sChr k i < 128 := by
  unfold sChr
  rw [List.getD_eq_getElem?_getD]
  cases h : (sTxt.getD k [])[i]? with
  | none => exact ⟨by decide, by decide⟩
  | some c =>
    have h1 := List.all_eq_true.mp (List.all_eq_true.mp chr_t k (List.mem_range.mpr hk)) c (List.mem_of_getElem? h)
    simpa using h1
theorem and255 (a : Nat) (h : a < 128) : a &&& 255 = a := by
  rw [show 255 = 2 ^ 8 - 1 from rfl, Nat.and_two_pow_sub_one_eq_mod]; omega
theorem checkIndex_c (lv : Nat) (i n : Int) (h : Hp) (h0 : 0 ≤ i) (h1 : i < n) : cl (lv + 1) 329 [aI i, aI n, none] h = ri i h := by
  rw [in_329]
  simp (disch := omega) only [x_4_0, x_70, x_4_1, x_64, x_61, x_6_2, x_82, u_329_0, u_329_9, u_329_16, Int.reduceEq, Int.reduceLT, Int.reduceLE, reduceIte, Int.reduceAdd, Int.reduceSub, Int.reduceMul, Int.reduceNeg, Int.reduceToNat, Bool.false_eq_true, eq_self, if_pos, if_neg]
theorem strCheck_c (lv : Nat) (i n : Int) (h : Hp) (h0 : 0 ≤ i) (h1 : i < n) : cl (lv + 2) 327 [aI i, aI n] h = rv h := by
  rw [in_327]
  simp (disch := omega) only [x_4_0, x_4_1, x_51, x_80_3_d0, x_80_3_d1, x_80_3_d2, x_80_3_d3, x_80_3_d4, x_49, x_83, cb_ri, cb_rl, cb_rv, cb_th, cb_ite, ps_s, ps_n, u_327_0, checkIndex_c]
theorem isLatin1_c (lv : Nat) (s : Nat) (h : Hp) : cl (lv + 1) 326 [aA 20 s] h = ri 1 h := by
  rw [in_326]
  simp (disch := omega) only [x_58, x_68, x_6_0, x_57, x_69, x_1, x_60, x_61, x_85, u_326_0, u_326_17, u_326_18, Int.reduceEq, Int.reduceLT, Int.reduceLE, reduceIte, Int.reduceAdd, Int.reduceSub, Int.reduceMul, Int.reduceNeg, Int.reduceToNat, Bool.false_eq_true, eq_self, if_pos, if_neg]
theorem latCharAt_c (lv : Nat) (s : Nat) (i : Int) (h : Hp) (hs : s < 46) (h0 : 0 ≤ i) (h1 : i < sLen s) : cl (lv + 3) 328 [aA 21 s, aI i] h = ri (sChr s i.toNat) h := by
  have hb := chr_b s i.toNat hs
  obtain ⟨c, hc⟩ : ∃ c : Nat, sChr s i.toNat = (c : Int) := ⟨(sChr s i.toNat).toNat, by omega⟩
  have e : iand (c : Int) 255 = (c : Int) := by
    rw [show (255 : Int) = ((255 : Nat) : Int) from rfl, iand_n (by omega) (by omega), and255 c (by omega)]
  have e2 : (c : Int) % 65536 = c := by omega
  rw [in_328]
  simp (disch := omega) only [x_4_1, x_6_0, x_56, x_80_2_d0, x_80_2_d1, x_80_2_d2, x_80_2_d3, x_80_2_d4, x_55, x_1, x_17, x_52, x_86, cb_ri, cb_rl, cb_rv, cb_th, cb_ite, ps_s, ps_n, u_328_0, strCheck_c, hc, e, e2]
theorem charAt_c (lv : Nat) (s : Nat) (i : Int) (h : Hp) (hs : s < 46) (h0 : 0 ≤ i) (h1 : i < sLen s) : cl (lv + 4) 324 [aA 20 s, aI i] h = ri (sChr s i.toNat) h := by
  have hb := chr_b s i.toNat hs
  rw [in_324]
  simp (disch := omega) only [x_6_0, x_79_1_20_d0, x_79_1_20_d1, x_79_1_20_d2, x_79_1_20_d3, x_79_1_20_d4, x_68, x_46, x_4_1, x_80_2_d0, x_80_2_d1, x_80_2_d2, x_80_2_d3, x_80_2_d4, x_86, cb_ri, cb_rl, cb_rv, cb_th, cb_ite, ps_s, ps_n, u_324_0, u_324_16, isLatin1_c, latCharAt_c, Int.reduceEq, Int.reduceLT, Int.reduceLE, reduceIte, Int.reduceAdd, Int.reduceSub, Int.reduceMul, Int.reduceNeg, Int.reduceToNat, Bool.false_eq_true, eq_self, if_pos, if_neg]
