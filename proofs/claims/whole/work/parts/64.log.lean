/-! THE LOG. -/
/-- the reference's memory is M -/
def setM (h : Hp) (M : Nat → Int) : Hp := fun t k i => if t = 187 ∧ k = 0 then M i else h t k i
theorem sM_0 (h : Hp) (M : Nat → Int) : setM h M 187 0 = M := by funext i; unfold setM; rw [if_pos ⟨rfl, rfl⟩]
theorem sM_t {h : Hp} {M : Nat → Int} {t : Nat} (ht : ¬ t = 187) : setM h M t = h t := by funext k i; unfold setM; rw [if_neg (fun z => ht z.1)]
theorem sM_s (h : Hp) (M M2 : Nat → Int) : setM (setM h M) M2 = setM h M2 := by
  funext t k i; unfold setM; split <;> rfl
theorem sM_id (h : Hp) : setM h (h 187 0) = h := by
  funext t k i; unfold setM; split
  · rename_i z; rw [z.1, z.2]
  · rfl
def upM (M : Nat → Int) (j : Nat) (v : Int) : Nat → Int := fun i => if i = j then v else M i
theorem hs_M (h : Hp) (j : Nat) (v : Int) : hset h 187 0 j v = setM h (upM (h 187 0) j v) := by
  funext t k i
  unfold hset setM upM
  by_cases h1 : t = 187 ∧ k = 0
  · rw [if_pos h1, h1.1, h1.2]
    by_cases h2 : i = j
    · rw [if_pos ⟨rfl, rfl, h2⟩, if_pos h2]
    · rw [if_neg (fun z => h2 z.2.2), if_neg h2]
  · rw [if_neg h1, if_neg (fun z => h1 ⟨z.1, z.2.1⟩)]
theorem sM_up (h : Hp) (M : Nat → Int) (j : Nat) (v : Int) : hset (setM h M) 187 0 j v = setM h (upM M j v) := by
  rw [hs_M, sM_0, sM_s]
theorem up_eq (M : Nat → Int) (j : Nat) (v : Int) : upM M j v j = v := by unfold upM; rw [if_pos rfl]
theorem up_ne {M : Nat → Int} {j i : Nat} {v : Int} (h : ¬ i = j) : upM M j v i = M i := by unfold upM; rw [if_neg h]
def shM (M : Nat → Int) (j : Nat) : Nat → Int := fun i => if 346 - j ≤ i ∧ i < 346 then M (i - 4) else M i
/-- a row more in the log -/
def logM (M : Nat → Int) (n hd : Int) (kd : Nat) : Nat → Int := fun i =>
  if i = 8 + kd then min 9999 (M i + 1) else if i = 12 then min 60 (M 12 + 1) else if i = 106 then M 6 else if i = 107 then n else if i = 108 then hd else if i = 109 then (kd : Int) else if 110 ≤ i ∧ i < 346 then M (i - 4) else M i
theorem logs_c (lv : Nat) (n hd : Int) (kd : Nat) (h : Hp) (hk : kd < 4) (h12 : 0 ≤ h 187 0 12 ∧ h 187 0 12 ≤ 60) (hc : 0 ≤ h 187 0 (8 + kd) ∧ h 187 0 (8 + kd) ≤ 9999) : cl (lv + 2) 227 [aA 12 0, aI n, aI hd, aI (kd : Int)] h = rv (setM h (logM (h 187 0) n hd kd)) := by
  rw [in_227]
  rw [u_227_0]
  simp (disch := omega) only [x_1, x_7_4_I, x_7_4_A, x_7_4_U, x_61]
  have main := loop_up (F := fun j => run (lv + 1) 227 5 [aA 12 0, aI n, aI hd, aI (kd : Int), aI (239 - (j : Int))] [] (setM h (shM (h 187 0) j))) (N := 236) (r := rv (setM h (logM (h 187 0) n hd kd))) ?_ ?_ 0 (by omega)
  · have e : setM h (shM (h 187 0) 0) = h := by
      have : shM (h 187 0) 0 = h 187 0 := by funext i; unfold shM; rw [if_neg (by omega)]
      rw [this, sM_id]
    rw [e] at main
    exact main
  · intro j hj
    show run _ _ _ _ _ _ = run _ _ _ _ _ _
    rw [hd_227_5]
    simp (disch := omega) only [x_1, x_7_4_I, x_7_4_A, x_7_4_U, x_61, x_4_4, x_64, x_6_0, x_34, x_11, x_12, x_38_187, x_39_187, x_10_4_I, x_10_4_A, x_10_4_U, x_60, x_4_1, x_4_2, x_4_3, x_80_2_d0, x_80_2_d1, x_80_2_d2, x_80_2_d3, x_80_2_d4, x_83, cb_ri, cb_rl, cb_rv, cb_th, cb_ite, ps_s, ps_n, u_227_0, u_227_39, Int.reduceEq, Int.reduceLT, Int.reduceLE, reduceIte, Int.reduceAdd, Int.reduceSub, Int.reduceMul, Int.reduceNeg, Int.reduceToNat, Bool.false_eq_true, eq_self, if_pos, if_neg, w32_id]
    rw [sM_up, sM_0]
    have e1 : (106 + (239 - (j : Int)) - 4).toNat = 341 - j := by omega
    have e2 : (106 + (239 - (j : Int))).toNat = 345 - j := by omega
    rw [e1, e2]
    have e3 : upM (shM (h 187 0) j) (345 - j) (shM (h 187 0) j (341 - j)) = shM (h 187 0) (j + 1) := by
      funext i
      unfold upM shM
      by_cases hi : i = 345 - j
      · rw [if_pos hi, if_neg (by omega), if_pos (by omega), hi]; congr 1; omega
      · rw [if_neg hi]
        by_cases h2 : 346 - j ≤ i ∧ i < 346
        · rw [if_pos h2, if_pos (by omega)]
        · rw [if_neg h2, if_neg (by omega)]
    rw [e3, show 239 - (j : Int) + -1 = 239 - ((j + 1 : Nat) : Int) by omega]
  · show run _ _ _ _ _ _ = _
    rw [hd_227_5]
    have e1 : ((8 : Int) + (kd : Int)).toNat = 8 + kd := by omega
    have lo : ∀ i, i < 110 → shM (h 187 0) 236 i = h 187 0 i := fun i hi => by unfold shM; rw [if_neg (by omega)]
    have w1 := lo 12 (by omega)
    have w2 := lo (8 + kd) (by omega)
    have w3 := lo 6 (by omega)
    simp (disch := omega) only [x_1, x_7_4_I, x_7_4_A, x_7_4_U, x_61, x_4_4, x_64, x_6_0, x_34, x_11, x_12, x_38_187, x_39_187, x_10_4_I, x_10_4_A, x_10_4_U, x_60, x_4_1, x_4_2, x_4_3, x_80_2_d0, x_80_2_d1, x_80_2_d2, x_80_2_d3, x_80_2_d4, x_83, cb_ri, cb_rl, cb_rv, cb_th, cb_ite, ps_s, ps_n, u_227_0, u_227_39, Int.reduceEq, Int.reduceLT, Int.reduceLE, reduceIte, Int.reduceAdd, Int.reduceSub, Int.reduceMul, Int.reduceNeg, Int.reduceToNat, Bool.false_eq_true, eq_self, if_pos, if_neg, sM_up, sM_0, lesser_c, w32_id, e1, up_ne, w1, w2, w3]
    congr 2
    funext i
    unfold logM
    by_cases c1 : i = 8 + kd
    · rw [if_pos c1, c1, up_eq]
    · rw [if_neg c1, up_ne c1]
      by_cases c2 : i = 12
      · rw [if_pos c2, c2, up_eq]
      · rw [if_neg c2, up_ne c2]
        by_cases c3 : i = 109
        · rw [c3, up_eq, if_neg (by omega), if_neg (by omega), if_neg (by omega), if_pos rfl]
        · rw [up_ne c3]
          by_cases c4 : i = 108
          · rw [c4, up_eq, if_neg (by omega), if_neg (by omega), if_pos rfl]
          · rw [up_ne c4]
            by_cases c5 : i = 107
            · rw [c5, up_eq, if_neg (by omega), if_pos rfl]
            · rw [up_ne c5]
              by_cases c6 : i = 106
              · rw [c6, up_eq, if_pos rfl]
              · rw [up_ne c6, if_neg c6, if_neg c5, if_neg c4, if_neg c3]
                unfold shM
                by_cases c7 : 110 ≤ i ∧ i < 346
                · rw [if_pos (by omega)]
                · rw [if_neg (by omega)]
/-! the class's log -/
def enc (p n hd kd : Int) : Int := p * 512 + n * 32 + (hd + 1) * 4 + kd
def rowOk (p n hd kd : Int) : Prop := (0 ≤ p ∧ p ≤ 9999) ∧ (0 ≤ n ∧ n ≤ 13) ∧ (-1 ≤ hd ∧ hd ≤ 5) ∧ (0 ≤ kd ∧ kd ≤ 3)
/-- the log of State k is that of the memory -/
def RL (h : Hp) (k : Nat) (M : Nat → Int) : Prop := ∃ nw S : Nat, h 122 k 0 = (nw : Int) ∧ nw < 60 ∧ h 123 k 0 = (S : Int) ∧ M 12 = (S : Int) ∧ S ≤ 60 ∧ ∀ a, a < S → h 121 k ((nw + 60 - a) % 60) = enc (M (106 + 4 * a)) (M (106 + 4 * a + 1)) (M (106 + 4 * a + 2)) (M (106 + 4 * a + 3)) ∧ rowOk (M (106 + 4 * a)) (M (106 + 4 * a + 1)) (M (106 + 4 * a + 2)) (M (106 + 4 * a + 3))
theorem or_add {a b n : Nat} (hb : b < 2 ^ n) : (a * 2 ^ n) ||| b = a * 2 ^ n + b := by
  rw [Nat.mul_comm, Nat.two_pow_add_eq_or_of_lt hb]
theorem enc_c {p n hd kd : Int} (ho : rowOk p n hd kd) : ior (ior (ior (ishl p 9) (ishl n 5)) (ishl (w32 (hd + 1)) 2)) kd = enc p n hd kd := by
  obtain ⟨⟨p0, p1⟩, ⟨n0, n1⟩, ⟨d0, d1⟩, ⟨k0, k1⟩⟩ := ho
  obtain ⟨P, rfl⟩ : ∃ P : Nat, p = (P : Int) := ⟨p.toNat, by omega⟩
  obtain ⟨N, rfl⟩ : ∃ N : Nat, n = (N : Int) := ⟨n.toNat, by omega⟩
  obtain ⟨D, hD⟩ : ∃ D : Nat, hd + 1 = (D : Int) := ⟨(hd + 1).toNat, by omega⟩
  obtain ⟨K, rfl⟩ : ∃ K : Nat, kd = (K : Int) := ⟨kd.toNat, by omega⟩
  rw [w32_id (by omega) (by omega), hD, show (9 : Int) = ((9 : Nat) : Int) from rfl, show (5 : Int) = ((5 : Nat) : Int) from rfl, show (2 : Int) = ((2 : Nat) : Int) from rfl, ishl_n (by omega) (by omega), ishl_n (by omega) (by omega), ishl_n (by omega) (by omega)]
  have e1 : (P * 2 ^ 9) ||| (N * 2 ^ 5) = P * 2 ^ 9 + N * 2 ^ 5 := or_add (by omega)
  have e2 : (P * 2 ^ 9 + N * 2 ^ 5) ||| (D * 2 ^ 2) = P * 2 ^ 9 + N * 2 ^ 5 + D * 2 ^ 2 := by
    rw [show P * 2 ^ 9 + N * 2 ^ 5 = (P * 2 ^ 4 + N) * 2 ^ 5 by omega]; exact or_add (by omega)
  have e3 : (P * 2 ^ 9 + N * 2 ^ 5 + D * 2 ^ 2) ||| K = P * 2 ^ 9 + N * 2 ^ 5 + D * 2 ^ 2 + K := by
    rw [show P * 2 ^ 9 + N * 2 ^ 5 + D * 2 ^ 2 = (P * 2 ^ 7 + N * 2 ^ 3 + D) * 2 ^ 2 by omega]; exact or_add (by omega)
  rw [ior_n (by omega) (by omega), e1, ior_n (by omega) (by omega), e2, ior_n (by omega) (by omega), e3]
  unfold enc
  omega
theorem decP_c {p n hd kd : Int} (ho : rowOk p n hd kd) : ishr (enc p n hd kd) 9 = p := by
  obtain ⟨⟨p0, p1⟩, ⟨n0, n1⟩, ⟨d0, d1⟩, ⟨k0, k1⟩⟩ := ho
  unfold enc
  obtain ⟨E, hE⟩ : ∃ E : Nat, p * 512 + n * 32 + (hd + 1) * 4 + kd = (E : Int) := ⟨(p * 512 + n * 32 + (hd + 1) * 4 + kd).toNat, by omega⟩
  rw [hE, show (9 : Int) = ((9 : Nat) : Int) from rfl, ishr_n (by omega) (by omega), Nat.shiftRight_eq_div_pow]
  omega
theorem decN_c {p n hd kd : Int} (ho : rowOk p n hd kd) : iand (ishr (enc p n hd kd) 5) 15 = n := by
  obtain ⟨⟨p0, p1⟩, ⟨n0, n1⟩, ⟨d0, d1⟩, ⟨k0, k1⟩⟩ := ho
  unfold enc
  obtain ⟨E, hE⟩ : ∃ E : Nat, p * 512 + n * 32 + (hd + 1) * 4 + kd = (E : Int) := ⟨(p * 512 + n * 32 + (hd + 1) * 4 + kd).toNat, by omega⟩
  rw [hE, show (5 : Int) = ((5 : Nat) : Int) from rfl, ishr_n (by omega) (by omega), show (15 : Int) = ((15 : Nat) : Int) from rfl, iand_n (Nat.lt_of_le_of_lt (shr_le E 5) (by omega)) (by omega), show 15 = 2 ^ 4 - 1 from rfl, Nat.and_two_pow_sub_one_eq_mod, Nat.shiftRight_eq_div_pow]
  omega
theorem decH_c {p n hd kd : Int} (ho : rowOk p n hd kd) : w32 (iand (ishr (enc p n hd kd) 2) 7 - 1) = hd := by
  obtain ⟨⟨p0, p1⟩, ⟨n0, n1⟩, ⟨d0, d1⟩, ⟨k0, k1⟩⟩ := ho
  unfold enc
  obtain ⟨E, hE⟩ : ∃ E : Nat, p * 512 + n * 32 + (hd + 1) * 4 + kd = (E : Int) := ⟨(p * 512 + n * 32 + (hd + 1) * 4 + kd).toNat, by omega⟩
  rw [hE, show (2 : Int) = ((2 : Nat) : Int) from rfl, ishr_n (by omega) (by omega), show (7 : Int) = ((7 : Nat) : Int) from rfl, iand_n (Nat.lt_of_le_of_lt (shr_le E 2) (by omega)) (by omega), show 7 = 2 ^ 3 - 1 from rfl, Nat.and_two_pow_sub_one_eq_mod, Nat.shiftRight_eq_div_pow]
  exact w32_of (by omega) (by omega) (by omega)
theorem decK_c {p n hd kd : Int} (ho : rowOk p n hd kd) : iand (enc p n hd kd) 3 = kd := by
  obtain ⟨⟨p0, p1⟩, ⟨n0, n1⟩, ⟨d0, d1⟩, ⟨k0, k1⟩⟩ := ho
  unfold enc
  obtain ⟨E, hE⟩ : ∃ E : Nat, p * 512 + n * 32 + (hd + 1) * 4 + kd = (E : Int) := ⟨(p * 512 + n * 32 + (hd + 1) * 4 + kd).toNat, by omega⟩
  rw [hE, show (3 : Int) = ((3 : Nat) : Int) from rfl, iand_n (by omega) (by omega), show 3 = 2 ^ 2 - 1 from rfl, Nat.and_two_pow_sub_one_eq_mod]
  omega
theorem rowAgo_c (lv k nw a : Nat) (h : Hp) (h1 : h 122 k 0 = (nw : Int)) (h2 : nw < 60) (ha : a < 60) : cl (lv + 2) 29 [aA 4 k, aI (a : Int)] h = ri (h 121 k ((nw + 60 - a) % 60)) h := by
  rw [in_29]
  have e : (((nw : Int) - (a : Int)) % 60).toNat = (nw + 60 - a) % 60 := by omega
  simp (disch := omega) only [x_6_0, x_34, x_33, x_4_1, x_12, x_1, x_80_2_d0, x_80_2_d1, x_80_2_d2, x_80_2_d3, x_80_2_d4, x_38_121, x_82, cb_ri, cb_rl, cb_rv, cb_th, cb_ite, ps_s, ps_n, u_29_0, h1, w32_id, floorMod_c, e]
theorem pageIn_c (lv : Nat) (p n hd kd : Int) (h : Hp) (ho : rowOk p n hd kd) : cl (lv + 1) 30 [aI (enc p n hd kd)] h = ri p h := by
  rw [in_30]
  simp (disch := omega) only [x_4_0, x_1, x_21, x_82, u_30_0, decP_c ho]
theorem noteIn_c (lv : Nat) (p n hd kd : Int) (h : Hp) (ho : rowOk p n hd kd) : cl (lv + 1) 31 [aI (enc p n hd kd)] h = ri n h := by
  rw [in_31]
  simp (disch := omega) only [x_4_0, x_1, x_21, x_17, x_82, u_31_0, decN_c ho]
theorem handIn_c (lv : Nat) (p n hd kd : Int) (h : Hp) (ho : rowOk p n hd kd) : cl (lv + 1) 32 [aI (enc p n hd kd)] h = ri hd h := by
  rw [in_32]
  simp (disch := omega) only [x_4_0, x_1, x_21, x_17, x_12, x_82, u_32_0, decH_c ho]
theorem kindIn_c (lv : Nat) (p n hd kd : Int) (h : Hp) (ho : rowOk p n hd kd) : cl (lv + 1) 33 [aI (enc p n hd kd)] h = ri kd h := by
  rw [in_33]
  simp (disch := omega) only [x_4_0, x_1, x_17, x_82, u_33_0, decK_c ho]
def hadd (h : Hp) (k nw S : Nat) (v : Int) : Hp := hset (hset (hset h 122 k 0 (((nw + 1) % 60 : Nat) : Int)) 121 k ((nw + 1) % 60) v) 123 k 0 ((min 60 (S + 1) : Nat) : Int)
theorem logAdd_c (lv k nw S : Nat) (p n hd kd : Int) (h : Hp) (h1 : h 122 k 0 = (nw : Int)) (h2 : nw < 60) (h3 : h 123 k 0 = (S : Int)) (h4 : S ≤ 60) (ho : rowOk p n hd kd) : cl (lv + 2) 28 [aA 4 k, aI p, aI n, aI hd, aI kd] h = rv (hadd h k nw S (enc p n hd kd)) := by
  have e1 : irem ((nw : Int) + 1) 60 = (((nw + 1) % 60 : Nat) : Int) := by
    unfold irem
    rw [Int.tmod_eq_emod_of_nonneg (by omega)]
    omega
  have e2 : min (60 : Int) ((S : Int) + 1) = ((min 60 (S + 1) : Nat) : Int) := by omega
  rw [in_28]
  simp (disch := omega) only [x_6_0, x_33, x_1, x_11, x_15, x_36, x_34, x_4_1, x_20, x_4_2, x_18, x_4_3, x_4_4, x_39_121, x_80_2_d0, x_80_2_d1, x_80_2_d2, x_80_2_d3, x_80_2_d4, x_83, cb_ri, cb_rl, cb_rv, cb_th, cb_ite, ps_s, ps_n, u_28_0, h1, w32_id, e1, hs_eq, tn, hs_t, h3, min_c, e2, Int.reduceEq, Int.reduceLT, Int.reduceLE, reduceIte, Int.reduceAdd, Int.reduceSub, Int.reduceMul, Int.reduceNeg, Int.reduceToNat, Bool.false_eq_true, eq_self, if_pos, if_neg]
  have e3 := enc_c ho
  rw [w32_id (by have := ho.2.2.1; omega) (by have := ho.2.2.1; omega)] at e3
  first
    | rw [e3]; rfl
    | (rw [w32_id (by have := ho.2.2.1; omega) (by have := ho.2.2.1; omega), e3]; rfl)
theorem RL_add {h : Hp} {k : Nat} {M : Nat → Int} {n hd : Int} {kd : Nat} (hk : kd < 4) (ho : rowOk (M 6) n hd kd) (R : RL h k M) : ∃ nw S : Nat, h 122 k 0 = (nw : Int) ∧ nw < 60 ∧ h 123 k 0 = (S : Int) ∧ S ≤ 60 ∧ RL (hadd h k nw S (enc (M 6) n hd kd)) k (logM M n hd kd) := by
  obtain ⟨nw, S, r1, r2, r3, r4, r5, r6⟩ := R
  refine ⟨nw, S, r1, r2, r3, r5, (nw + 1) % 60, min 60 (S + 1), ?_, by omega, ?_, ?_, by omega, fun a ha => ?_⟩
  · unfold hadd; rw [hs_t (by omega), hs_t (by omega), hs_eq]
  · unfold hadd; rw [hs_eq]
  · unfold logM; rw [if_neg (by omega), if_pos rfl, r4]; omega
  · have lw : ∀ w, w < 4 → ∀ b, b < 59 → logM M n hd kd (106 + 4 * (b + 1) + w) = M (106 + 4 * b + w) := by
      intro w hw b hb
      unfold logM
      rw [if_neg (by omega), if_neg (by omega), if_neg (by omega), if_neg (by omega), if_neg (by omega), if_neg (by omega), if_pos (by omega)]
      congr 1; omega
    unfold hadd
    rw [hs_t (by omega)]
    cases a with
    | zero =>
      have e : (((nw + 1) % 60 + 60 - 0) % 60) = (nw + 1) % 60 := by omega
      rw [e, hs_eq]
      have l0 : logM M n hd kd (106 + 4 * 0) = M 6 := by unfold logM; rw [if_neg (by omega), if_neg (by omega), if_pos (by omega)]
      have l1 : logM M n hd kd (106 + 4 * 0 + 1) = n := by unfold logM; rw [if_neg (by omega), if_neg (by omega), if_neg (by omega), if_pos (by omega)]
      have l2 : logM M n hd kd (106 + 4 * 0 + 2) = hd := by unfold logM; rw [if_neg (by omega), if_neg (by omega), if_neg (by omega), if_neg (by omega), if_pos (by omega)]
      have l3 : logM M n hd kd (106 + 4 * 0 + 3) = (kd : Int) := by unfold logM; rw [if_neg (by omega), if_neg (by omega), if_neg (by omega), if_neg (by omega), if_neg (by omega), if_pos (by omega)]
      rw [l0, l1, l2, l3]
      exact ⟨rfl, ho⟩
    | succ b =>
      have e : (((nw + 1) % 60 + 60 - (b + 1)) % 60) = (nw + 60 - b) % 60 := by omega
      have hne : ¬ (nw + 60 - b) % 60 = (nw + 1) % 60 := by omega
      rw [e, hs_i hne, hs_t (by omega)]
      have hb : b < S := by omega
      have hw0 := lw 0 (by omega) b (by omega)
      rw [Nat.add_zero, Nat.add_zero] at hw0
      rw [hw0, lw 1 (by omega) b (by omega), lw 2 (by omega) b (by omega), lw 3 (by omega) b (by omega)]
      exact r6 b hb
