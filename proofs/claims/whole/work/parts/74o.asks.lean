/-- the law that the memory tells -/
def LM (M : Nat → Int) (L : List LN) : Prop := (M 1 < 1 ∧ L = []) ∨ (1 ≤ M 1 ∧ ∃ e : Nat, M 2 = (e : Int) ∧ e ≤ 400 ∧ lawOf (fun i => M (346 + i)) e = .inr L)
def maFr (tt k : Nat) : Prop := k = 0 ∧ (tt = 195 ∨ tt = 196 ∨ tt = 197 ∨ tt = 199 ∨ tt = 200 ∨ tt = 202 ∨ tt = 203 ∨ tt = 204)
theorem asks_m (lv n : Nat) (b : Int) (h : Hp) (F : Nat → Int) (L : List LN) (hL : LM (h 187 0) L) (hn : n < 14) (hO : FOk F) (f0 : h 200 0 0 = F 0) (f1 : h 187 0 (50 + 4 * n + 1) = F 1) (f2 : h 187 0 (50 + 4 * n + 2) = F 2) (f3 : h 200 0 3 = F 3) (f4 : h 200 0 4 = F 4) (f5 : b = F 5) (f6 : h 187 0 6 = F 6) (f7 : h 201 0 0 = F 7) (f8 : (if F 1 < 32 then 1 else 0) = F 8) :
    ∃ h', cl (lv + 32) 212 [aA 12 0, aI (n : Int), aI b] h = rv h' ∧ h' 202 0 0 = gainS F L ∧ h' 203 0 0 = boI (hasTk L) ∧ h' 204 0 0 = boI (takeS F L) ∧ ∀ tt k i, ¬ maFr tt k → h' tt k i = h tt k i := by
  rw [in_212]
  rcases hL with ⟨c, hL⟩ | ⟨c, e, m2, he, lw⟩
  · subst hL
    refine ⟨hset (hset (hset h 202 0 0 0) 203 0 0 0) 204 0 0 0, ?_, ?_, ?_, ?_, ?_⟩
    · simp (disch := omega) only [x_6_0, x_1, x_36, x_37, x_34, x_38_187, x_38_200, x_65, x_83, x_4_1, x_79_3_12_d0, x_79_3_12_d1, x_79_3_12_d2, x_79_3_12_d3, x_79_3_12_d4, x_39_187, x_39_200, x_4_2, x_33, x_7_3_I, x_7_3_A, x_7_3_U, x_79_2_12_d0, x_79_2_12_d1, x_79_2_12_d2, x_79_2_12_d3, x_79_2_12_d4, x_7_4_I, x_7_4_A, x_7_4_U, x_4_3, cb_ri, cb_rl, cb_rv, cb_th, cb_ite, ps_s, ps_n, u_212_0, u_212_26, hs_t, Int.reduceEq, Int.reduceLT, Int.reduceLE, reduceIte, Int.reduceAdd, Int.reduceSub, Int.reduceMul, Int.reduceNeg, Int.reduceToNat, Bool.false_eq_true, eq_self, if_pos, if_neg]
    · simp [hset, gainS]
    · simp [hset, hasTk, boI]
    · simp [hset, takeS, boI]
    · intro tt k i hf
      unfold maFr at hf
      rw [hs_o (by omega), hs_o (by omega), hs_o (by omega)]
  · let h1 : Hp := hset (hset (hset (hset (hset (hset (hset (hset h 200 0 1 (F 1)) 200 0 2 (F 2)) 200 0 5 b) 200 0 6 (F 6)) 198 0 0 (-1)) 195 0 0 346) 196 0 0 (e : Int)) 199 0 0 0
    have same : ∀ tt k i, ¬ maFr tt k → tt ≠ 198 → h1 tt k i = h tt k i := by
      intro tt k i hf h8
      unfold maFr at hf
      show hset _ _ _ _ _ _ _ _ = _
      rw [hs_o (by omega), hs_o (by omega), hs_o (by omega), hs_o (by omega), hs_o (by omega), hs_o (by omega), hs_o (by omega), hs_o (by omega)]
    have T : TX h1 (fun i => h 187 0 (346 + i)) e := ⟨he, by simp [h1, hset], Or.inr ⟨by simp [h1, hset], fun i hi => by rw [same _ _ _ (by unfold maFr; omega) (by omega)]⟩⟩
    have hF : FC h1 F := by
      refine ⟨?_, by rw [same _ _ _ (by unfold maFr; omega) (by omega)]; exact f7, f8⟩
      intro i hi
      have hc : i = 0 ∨ i = 1 ∨ i = 2 ∨ i = 3 ∨ i = 4 ∨ i = 5 ∨ i = 6 := by omega
      rcases hc with c | c | c | c | c | c | c <;> subst c <;> simp [h1, hset, *]
    have mr := mread_m lv T (by simp [h1, hset]) hF ⟨(hO.1 7).1, hO.2.1⟩ (by simp [h1, hset])
    rw [lw] at mr
    have mr : _ = ri (L.length : Int) (RD (mG h1 F L) e) := mr
    have e0 : hset (hset (hset (hset (hset (hset (hset (hset (hset (hset (hset (hset h 202 0 0 0) 203 0 0 0) 204 0 0 0) 200 0 1 (F 1)) 200 0 2 (F 2)) 200 0 5 b) 200 0 6 (F 6)) 198 0 0 (-1)) 195 0 0 346) 196 0 0 (e : Int)) 197 0 0 0) 199 0 0 0 = RD (mG h1 F []) 0 := by
      funext tt k i
      show _ = hset (hset (hset (hset h1 203 0 0 0) 204 0 0 0) 202 0 0 0) 197 0 0 0 tt k i
      simp only [h1]
      unfold hset
      by_cases c1 : tt = 202 ∧ k = 0 ∧ i = 0
      · simp [c1]
      by_cases c2 : tt = 203 ∧ k = 0 ∧ i = 0
      · simp [c2]
      by_cases c3 : tt = 204 ∧ k = 0 ∧ i = 0
      · simp [c3]
      by_cases c4 : tt = 197 ∧ k = 0 ∧ i = 0
      · simp [c4]
      simp [c1, c2, c3, c4]
    have hg : ∀ tt k i, ¬ maFr tt k → tt ≠ 198 → RD (mG h1 F L) e tt k i = h tt k i := by
      intro tt k i hf h8
      have hf2 := hf
      unfold maFr at hf2
      rw [← same tt k i hf h8]
      show hset _ _ _ _ _ _ _ _ = _
      rw [hs_o (by omega)]
      show hset _ _ _ _ _ _ _ _ = _
      rw [hs_o (by omega), hs_o (by omega), hs_o (by omega)]
    have q := mL_v h1 (hasTk L) (takeS F L) (gainS F L) e
    refine ⟨hset (RD (mG h1 F L) e) 198 0 0 (h 198 0 0), ?_, ?_, ?_, ?_, ?_⟩
    · have o1 : ∀ h', cl (lv + 31) 175 [aA 12 0, aI (n : Int), aI 1] h' = ri (h' 187 0 (50 + 4 * n + 1)) h' := fun h' => ofNote_c (lv + 30) n 1 h' hn (by omega)
      have o2 : ∀ h', cl (lv + 31) 175 [aA 12 0, aI (n : Int), aI 2] h' = ri (h' 187 0 (50 + 4 * n + 2)) h' := fun h' => ofNote_c (lv + 30) n 2 h' hn (by omega)
      rw [← e0] at mr
      have f1' := f1
      simp (disch := omega) only [x_6_0, x_1, x_36, x_37, x_34, x_38_187, x_38_200, x_65, x_83, x_4_1, x_79_3_12_d0, x_79_3_12_d1, x_79_3_12_d2, x_79_3_12_d3, x_79_3_12_d4, x_39_187, x_39_200, x_4_2, x_33, x_7_3_I, x_7_3_A, x_7_3_U, x_79_2_12_d0, x_79_2_12_d1, x_79_2_12_d2, x_79_2_12_d3, x_79_2_12_d4, x_7_4_I, x_7_4_A, x_7_4_U, x_4_3, cb_ri, cb_rl, cb_rv, cb_th, cb_ite, ps_s, ps_n, u_212_0, u_212_26, hs_t, c, o1, o2, f1, f2, f6, m2, mr, Int.reduceEq, Int.reduceLT, Int.reduceLE, reduceIte, Int.reduceAdd, Int.reduceSub, Int.reduceMul, Int.reduceNeg, Int.reduceToNat, Bool.false_eq_true, eq_self, if_pos, if_neg]
    · rw [hs_o (by omega)]; exact q.2.2
    · rw [hs_o (by omega)]; exact q.1
    · rw [hs_o (by omega)]; exact q.2.1
    · intro tt k i hf
      by_cases c8 : tt = 198 ∧ k = 0 ∧ i = 0
      · rw [c8.1, c8.2.1, c8.2.2, hs_eq]
      · rw [hs_o c8]
        by_cases c9 : tt = 198
        · subst c9
          show hset _ _ _ _ _ _ _ _ = _
          rw [hs_o (by omega)]
          show hset _ _ _ _ _ _ _ _ = _
          rw [hs_o (by omega), hs_o (by omega), hs_o (by omega)]
          show hset _ _ _ _ _ _ _ _ = _
          repeat rw [hs_o (by omega)]
        · exact hg tt k i hf c9
