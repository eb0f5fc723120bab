/-! THE REFERENCE: which hands can have which notes; a chord weighed. -/
theorem x_79_3_12_e5 {E : Nat → List AV → List AV → Hp → Option Rs} {C : Nat → List AV → Hp → Option Rs} {L : List AC} {σ : List AV} {h : Hp} {b : Nat} {v1 v2 : AV} {x1 x2 x4 : Int} {t3 k3 t5 k5 k : Nat} : ex E C ((79, 12, b, 3) :: L) σ [v2, v1, aA 12 k, aI x1, aI x2, aA t3 k3, aI x4, aA t5 k5] h = cbind (C b [aA 12 k, v1, v2] h) (fun v h2 => ex E C L σ (psh v [aI x1, aI x2, aA t3 k3, aI x4, aA t5 k5]) h2) (onTh E σ none) := by simp [ex, ctl, tk, ccall, rcv, aA, aI, wd, isJ]
def hmK (H : Nat) (ad : Int) : Nat := if ad = -1 then H else H + 1
def adOk (ad : Int) : Prop := ad = -1 ∨ (0 ≤ ad ∧ ad ≤ 63)
theorem hmK_i {H i : Nat} {ad : Int} (ha : adOk ad) (hi : i < hmK H ad) : i < H ∨ (i = H ∧ 0 ≤ ad ∧ ad ≤ 63) := by
  unfold hmK at hi
  unfold adOk at ha
  by_cases c : ad = -1
  · rw [if_pos c] at hi; exact Or.inl hi
  · rw [if_neg c] at hi; omega
theorem hmK_le {H : Nat} {ad : Int} (hH : H ≤ 6) : hmK H ad ≤ 7 := by unfold hmK; split <;> omega
theorem handMany_m (lv H : Nat) (h : Hp) (h3 : h 187 0 3 = (H : Int)) (hH : H ≤ 6) : cl (lv + 1) 217 [aA 12 0] h = ri ((hmK H (h 206 0 0) : Nat) : Int) h := by
  rw [in_217]
  unfold hmK
  by_cases c : h 206 0 0 = -1
  · simp (disch := omega) only [x_6_0, x_34, x_1, x_38_187, x_33, x_63, x_60, x_61, x_11, x_82, u_217_0, u_217_18, u_217_19, h3, c, Int.reduceEq, Int.reduceLT, Int.reduceLE, reduceIte, Int.reduceAdd, Int.reduceSub, Int.reduceMul, Int.reduceNeg, Int.reduceToNat, Bool.false_eq_true, eq_self, if_pos, if_neg, w32_id, Int.add_zero]
  · simp (disch := omega) only [x_6_0, x_34, x_1, x_38_187, x_33, x_63, x_60, x_61, x_11, x_82, u_217_0, u_217_18, u_217_19, h3, c, Int.reduceEq, Int.reduceLT, Int.reduceLE, reduceIte, Int.reduceAdd, Int.reduceSub, Int.reduceMul, Int.reduceNeg, Int.reduceToNat, Bool.false_eq_true, eq_self, if_pos, if_neg, w32_id]
    rfl
def cansM (M : Nat → Int) (L : List LN) (H : Nat) (ad : Int) (n i : Nat) : Bool := stB M n && canG M L H ad i n (M (50 + 4 * n))
def loFr (tt k : Nat) : Prop := mbFr tt k ∨ (tt = 205 ∧ k = 0)
theorem boI_01 (b : Bool) : boI b = 0 ∨ boI b = 1 := by cases b <;> simp [boI]
theorem looks_m (lv H N : Nat) (h : Hp) (L : List LN) (hL : LM (h 187 0) L) (G : GM (h 187 0) H N) (hW : ∀ x ∈ L, LnG x) (hl : L.length ≤ 12) (ha : adOk (h 206 0 0)) :
    ∃ h', cl (lv + 36) 218 [aA 12 0] h = rv h' ∧ (∀ n, n < N → ∀ i, i < hmK H (h 206 0 0) → h' 205 0 (14 * i + n) = boI (cansM (h 187 0) L H (h 206 0 0) n i)) ∧ ∀ tt k j, ¬ loFr tt k → h' tt k j = h tt k j := by
  have hH := G.1.2.1
  have hN := G.2.1.2.1
  have hK := hmK_le (ad := h 206 0 0) hH
  have outer := loop_p (S := AV × Hp) (F := fun j (q : AV × Hp) => run (lv + 35) 218 2 [aA 12 0, aI (j : Int), q.1] [] q.2)
    (I := fun j q => (∀ n, n < j → ∀ i, i < hmK H (h 206 0 0) → q.2 205 0 (14 * i + n) = boI (cansM (h 187 0) L H (h 206 0 0) n i)) ∧ ∀ tt k j, ¬ loFr tt k → q.2 tt k j = h tt k j)
    (Q := fun r => ∃ h', r = rv h' ∧ (∀ n, n < N → ∀ i, i < hmK H (h 206 0 0) → h' 205 0 (14 * i + n) = boI (cansM (h 187 0) L H (h 206 0 0) n i)) ∧ ∀ tt k j, ¬ loFr tt k → h' tt k j = h tt k j) (N := N) ?_ ?_ (none, h) ⟨fun n hn => by omega, fun _ _ _ _ => rfl⟩
  · rw [in_218]
    simp (disch := omega) only [x_1, x_7_1_I, x_7_1_A, x_7_1_U, x_61, x_4_1, x_6_0, x_34, x_38_187, x_65, x_7_2_I, x_7_2_A, x_7_2_U, x_4_2, x_79_1_12_d0, x_79_1_12_d1, x_79_1_12_d2, x_79_1_12_d3, x_79_1_12_d4, x_13, x_11, x_79_2_12_d0, x_79_2_12_d1, x_79_2_12_d2, x_79_2_12_d3, x_79_2_12_d4, x_68, x_79_3_12_d0, x_79_3_12_d1, x_79_3_12_d2, x_79_3_12_d3, x_79_3_12_d4, x_79_4_12_d0, x_79_4_12_d1, x_79_4_12_d2, x_79_4_12_d3, x_79_4_12_d4, x_60, x_41_205, x_10_2_I, x_10_2_A, x_10_2_U, x_10_1_I, x_10_1_A, x_10_1_U, x_83, cb_ri, cb_rl, cb_rv, cb_th, cb_ite, ps_s, ps_n, u_218_0, u_218_59, u_218_60, u_218_67, u_218_73]
    exact outer
  · rintro n ⟨v2, q⟩ hn ⟨i1, i2⟩
    simp only at i1 i2 ⊢
    have inner : ∃ h2, run (lv + 35) 218 14 [aA 12 0, aI (n : Int), aI 0] [] q = run (lv + 35) 218 2 [aA 12 0, aI ((n + 1 : Nat) : Int), aI ((hmK H (h 206 0 0) : Nat) : Int)] [] h2 ∧ (∀ n', n' < n + 1 → ∀ i, i < hmK H (h 206 0 0) → h2 205 0 (14 * i + n') = boI (cansM (h 187 0) L H (h 206 0 0) n' i)) ∧ ∀ tt k j, ¬ loFr tt k → h2 tt k j = h tt k j := by
      refine loop_p (S := Hp) (F := fun i (g : Hp) => run (lv + 35) 218 14 [aA 12 0, aI (n : Int), aI (i : Int)] [] g)
        (I := fun i g => (∀ n', n' < n → ∀ i, i < hmK H (h 206 0 0) → g 205 0 (14 * i + n') = boI (cansM (h 187 0) L H (h 206 0 0) n' i)) ∧ (∀ i', i' < i → g 205 0 (14 * i' + n) = boI (cansM (h 187 0) L H (h 206 0 0) n i')) ∧ ∀ tt k j, ¬ loFr tt k → g tt k j = h tt k j)
        (Q := fun r => ∃ h2, r = run (lv + 35) 218 2 [aA 12 0, aI ((n + 1 : Nat) : Int), aI ((hmK H (h 206 0 0) : Nat) : Int)] [] h2 ∧ (∀ n', n' < n + 1 → ∀ i, i < hmK H (h 206 0 0) → h2 205 0 (14 * i + n') = boI (cansM (h 187 0) L H (h 206 0 0) n' i)) ∧ ∀ tt k j, ¬ loFr tt k → h2 tt k j = h tt k j) (N := hmK H (h 206 0 0)) ?_ ?_ q ⟨i1, fun i' hi' => by omega, i2⟩
      · rintro i g hi ⟨k1, k2, k3⟩
        have g7 : g 187 0 = h 187 0 := by funext j; exact k3 _ _ _ (by unfold loFr mbFr maFr; omega)
        have g6 : g 206 0 0 = h 206 0 0 := k3 _ _ _ (by unfold loFr mbFr maFr; omega)
        have m3 : g 187 0 3 = (H : Int) := by rw [g7]; exact G.1.1
        have hm := handMany_m (lv + 34) H g m3 hH
        rw [g6] at hm
        have st := stands_c (lv + 33) n g (by omega)
        rw [g7] at st
        have o0 : cl (lv + 35) 175 [aA 12 0, aI (n : Int), aI 0] g = ri (h 187 0 (50 + 4 * n)) g := by have := ofNote_c (lv + 34) n 0 g (by omega) (by omega); rw [g7] at this; exact this
        have gn := (G.2.1.2.2.1 n hn).1
        obtain ⟨g', e1, e2⟩ := canAt_m (lv + 1) i n H N (h 187 0 (50 + 4 * n)) g L (by rw [g7]; exact hL) (by rw [g7]; exact G) hW hl hn (by omega) (by rw [g6]; exact hmK_i ha hi)
        rw [g7, g6] at e1
        have ei : (14 * (i : Int) + (n : Int)).toNat = 14 * i + n := by omega
        -- what is put
        have put : ∀ (g2 : Hp) (b : Bool), (∀ tt k j, ¬ mbFr tt k → g2 tt k j = g tt k j) → b = cansM (h 187 0) L H (h 206 0 0) n i → (∀ n', n' < n → ∀ i', i' < hmK H (h 206 0 0) → hset g2 205 0 (14 * i + n) (boI b) 205 0 (14 * i' + n') = boI (cansM (h 187 0) L H (h 206 0 0) n' i')) ∧ (∀ i', i' < i + 1 → hset g2 205 0 (14 * i + n) (boI b) 205 0 (14 * i' + n) = boI (cansM (h 187 0) L H (h 206 0 0) n i')) ∧ ∀ tt k j, ¬ loFr tt k → hset g2 205 0 (14 * i + n) (boI b) tt k j = h tt k j := by
          intro g2 b hg hb
          refine ⟨fun n' hn' i' hi' => ?_, fun i' hi' => ?_, fun tt k j hf => ?_⟩
          · rw [hs_i (by omega), hg _ _ _ (by unfold mbFr maFr; omega)]; exact k1 n' hn' i' hi'
          · by_cases e : i' = i
            · subst e; rw [hs_eq, hb]
            · rw [hs_i (by omega), hg _ _ _ (by unfold mbFr maFr; omega)]; exact k2 i' (by omega)
          · unfold loFr at hf
            rw [hs_o (fun z => hf (Or.inr ⟨z.1, z.2.1⟩)), hg _ _ _ (fun z => hf (Or.inl z))]
            exact k3 tt k j hf
        by_cases hs : stB (h 187 0) n = true
        · rw [if_pos hs] at st
          have hb : canG (h 187 0) L H (h 206 0 0) i n (h 187 0 (50 + 4 * n)) = cansM (h 187 0) L H (h 206 0 0) n i := by unfold cansM; rw [hs]; rfl
          refine ⟨hset g' 205 0 (14 * i + n) (boI (canG (h 187 0) L H (h 206 0 0) i n (h 187 0 (50 + 4 * n)))), ?_, put g' _ e2 hb⟩
          try simp only
          rw [hd_218_14]
          generalize canG (h 187 0) L H (h 206 0 0) i n (h 187 0 (50 + 4 * n)) = bb at e1
          cases bb with
          | true =>
            have e1 : _ = ri 1 g' := e1
            simp (disch := omega) only [x_1, x_7_1_I, x_7_1_A, x_7_1_U, x_61, x_4_1, x_6_0, x_34, x_38_187, x_65, x_7_2_I, x_7_2_A, x_7_2_U, x_4_2, x_79_1_12_d0, x_79_1_12_d1, x_79_1_12_d2, x_79_1_12_d3, x_79_1_12_d4, x_13, x_11, x_79_2_12_d0, x_79_2_12_d1, x_79_2_12_d2, x_79_2_12_d3, x_79_2_12_d4, x_68, x_79_3_12_d0, x_79_3_12_d1, x_79_3_12_d2, x_79_3_12_d3, x_79_3_12_d4, x_79_4_12_d0, x_79_4_12_d1, x_79_4_12_d2, x_79_4_12_d3, x_79_4_12_d4, x_60, x_41_205, x_10_2_I, x_10_2_A, x_10_2_U, x_10_1_I, x_10_1_A, x_10_1_U, x_83, cb_ri, cb_rl, cb_rv, cb_th, cb_ite, ps_s, ps_n, u_218_0, u_218_59, u_218_60, u_218_67, u_218_73, x_79_3_12_e5, hm, st, o0, e1, ei, Int.reduceEq, Int.reduceLT, Int.reduceLE, reduceIte, Int.reduceAdd, Int.reduceSub, Int.reduceMul, Int.reduceNeg, Int.reduceToNat, Bool.false_eq_true, eq_self, if_pos, if_neg, ci, w32_id, boI]
          | false =>
            have e1 : _ = ri 0 g' := e1
            simp (disch := omega) only [x_1, x_7_1_I, x_7_1_A, x_7_1_U, x_61, x_4_1, x_6_0, x_34, x_38_187, x_65, x_7_2_I, x_7_2_A, x_7_2_U, x_4_2, x_79_1_12_d0, x_79_1_12_d1, x_79_1_12_d2, x_79_1_12_d3, x_79_1_12_d4, x_13, x_11, x_79_2_12_d0, x_79_2_12_d1, x_79_2_12_d2, x_79_2_12_d3, x_79_2_12_d4, x_68, x_79_3_12_d0, x_79_3_12_d1, x_79_3_12_d2, x_79_3_12_d3, x_79_3_12_d4, x_79_4_12_d0, x_79_4_12_d1, x_79_4_12_d2, x_79_4_12_d3, x_79_4_12_d4, x_60, x_41_205, x_10_2_I, x_10_2_A, x_10_2_U, x_10_1_I, x_10_1_A, x_10_1_U, x_83, cb_ri, cb_rl, cb_rv, cb_th, cb_ite, ps_s, ps_n, u_218_0, u_218_59, u_218_60, u_218_67, u_218_73, x_79_3_12_e5, hm, st, o0, e1, ei, Int.reduceEq, Int.reduceLT, Int.reduceLE, reduceIte, Int.reduceAdd, Int.reduceSub, Int.reduceMul, Int.reduceNeg, Int.reduceToNat, Bool.false_eq_true, eq_self, if_pos, if_neg, ci, w32_id, boI]
        · rw [if_neg hs] at st
          have hb : false = cansM (h 187 0) L H (h 206 0 0) n i := by unfold cansM; rw [Bool.eq_false_iff.mpr hs]; rfl
          refine ⟨hset g 205 0 (14 * i + n) (boI false), ?_, put g false (fun _ _ _ _ => rfl) hb⟩
          try simp only
          rw [hd_218_14]
          simp (disch := omega) only [x_1, x_7_1_I, x_7_1_A, x_7_1_U, x_61, x_4_1, x_6_0, x_34, x_38_187, x_65, x_7_2_I, x_7_2_A, x_7_2_U, x_4_2, x_79_1_12_d0, x_79_1_12_d1, x_79_1_12_d2, x_79_1_12_d3, x_79_1_12_d4, x_13, x_11, x_79_2_12_d0, x_79_2_12_d1, x_79_2_12_d2, x_79_2_12_d3, x_79_2_12_d4, x_68, x_79_3_12_d0, x_79_3_12_d1, x_79_3_12_d2, x_79_3_12_d3, x_79_3_12_d4, x_79_4_12_d0, x_79_4_12_d1, x_79_4_12_d2, x_79_4_12_d3, x_79_4_12_d4, x_60, x_41_205, x_10_2_I, x_10_2_A, x_10_2_U, x_10_1_I, x_10_1_A, x_10_1_U, x_83, cb_ri, cb_rl, cb_rv, cb_th, cb_ite, ps_s, ps_n, u_218_0, u_218_59, u_218_60, u_218_67, u_218_73, hm, st, ei, Int.reduceEq, Int.reduceLT, Int.reduceLE, reduceIte, Int.reduceAdd, Int.reduceSub, Int.reduceMul, Int.reduceNeg, Int.reduceToNat, Bool.false_eq_true, eq_self, if_pos, if_neg, ci, w32_id, boI]
      · rintro g ⟨k1, k2, k3⟩
        have m3 : g 187 0 3 = (H : Int) := by rw [k3 _ _ _ (by unfold loFr mbFr maFr; omega)]; exact G.1.1
        have hm := handMany_m (lv + 34) H g m3 hH
        rw [show g 206 0 0 = h 206 0 0 from k3 _ _ _ (by unfold loFr mbFr maFr; omega)] at hm
        refine ⟨g, ?_, fun n' hn' i hi => ?_, k3⟩
        · try simp only
          rw [hd_218_14]
          simp (disch := omega) only [x_1, x_7_1_I, x_7_1_A, x_7_1_U, x_61, x_4_1, x_6_0, x_34, x_38_187, x_65, x_7_2_I, x_7_2_A, x_7_2_U, x_4_2, x_79_1_12_d0, x_79_1_12_d1, x_79_1_12_d2, x_79_1_12_d3, x_79_1_12_d4, x_13, x_11, x_79_2_12_d0, x_79_2_12_d1, x_79_2_12_d2, x_79_2_12_d3, x_79_2_12_d4, x_68, x_79_3_12_d0, x_79_3_12_d1, x_79_3_12_d2, x_79_3_12_d3, x_79_3_12_d4, x_79_4_12_d0, x_79_4_12_d1, x_79_4_12_d2, x_79_4_12_d3, x_79_4_12_d4, x_60, x_41_205, x_10_2_I, x_10_2_A, x_10_2_U, x_10_1_I, x_10_1_A, x_10_1_U, x_83, cb_ri, cb_rl, cb_rv, cb_th, cb_ite, ps_s, ps_n, u_218_0, u_218_59, u_218_60, u_218_67, u_218_73, hm, Int.reduceEq, Int.reduceLT, Int.reduceLE, reduceIte, Int.reduceAdd, Int.reduceSub, Int.reduceMul, Int.reduceNeg, Int.reduceToNat, Bool.false_eq_true, eq_self, if_pos, if_neg, ci, w32_id]
        · by_cases e : n' = n
          · subst e; exact k2 i hi
          · exact k1 n' (by omega) i hi
    obtain ⟨h2, e1, e2, e3⟩ := inner
    refine ⟨(aI ((hmK H (h 206 0 0) : Nat) : Int), h2), ?_, e2, e3⟩
    have n4 : q 187 0 4 = (N : Int) := by rw [i2 _ _ _ (by unfold loFr mbFr maFr; omega)]; exact G.2.1.1
    try simp only
    rw [← e1, hd_218_2]
    simp (disch := omega) only [x_1, x_7_1_I, x_7_1_A, x_7_1_U, x_61, x_4_1, x_6_0, x_34, x_38_187, x_65, x_7_2_I, x_7_2_A, x_7_2_U, x_4_2, x_79_1_12_d0, x_79_1_12_d1, x_79_1_12_d2, x_79_1_12_d3, x_79_1_12_d4, x_13, x_11, x_79_2_12_d0, x_79_2_12_d1, x_79_2_12_d2, x_79_2_12_d3, x_79_2_12_d4, x_68, x_79_3_12_d0, x_79_3_12_d1, x_79_3_12_d2, x_79_3_12_d3, x_79_3_12_d4, x_79_4_12_d0, x_79_4_12_d1, x_79_4_12_d2, x_79_4_12_d3, x_79_4_12_d4, x_60, x_41_205, x_10_2_I, x_10_2_A, x_10_2_U, x_10_1_I, x_10_1_A, x_10_1_U, x_83, cb_ri, cb_rl, cb_rv, cb_th, cb_ite, ps_s, ps_n, u_218_0, u_218_59, u_218_60, u_218_67, u_218_73, n4, Int.reduceEq, Int.reduceLT, Int.reduceLE, reduceIte, Int.reduceAdd, Int.reduceSub, Int.reduceMul, Int.reduceNeg, Int.reduceToNat, Bool.false_eq_true, eq_self, if_pos, if_neg]
  · rintro ⟨v2, q⟩ ⟨i1, i2⟩
    simp only at i1 i2 ⊢
    have n4 : q 187 0 4 = (N : Int) := by rw [i2 _ _ _ (by unfold loFr mbFr maFr; omega)]; exact G.2.1.1
    refine ⟨q, ?_, i1, i2⟩
    rw [hd_218_2]
    simp (disch := omega) only [x_1, x_7_1_I, x_7_1_A, x_7_1_U, x_61, x_4_1, x_6_0, x_34, x_38_187, x_65, x_7_2_I, x_7_2_A, x_7_2_U, x_4_2, x_79_1_12_d0, x_79_1_12_d1, x_79_1_12_d2, x_79_1_12_d3, x_79_1_12_d4, x_13, x_11, x_79_2_12_d0, x_79_2_12_d1, x_79_2_12_d2, x_79_2_12_d3, x_79_2_12_d4, x_68, x_79_3_12_d0, x_79_3_12_d1, x_79_3_12_d2, x_79_3_12_d3, x_79_3_12_d4, x_79_4_12_d0, x_79_4_12_d1, x_79_4_12_d2, x_79_4_12_d3, x_79_4_12_d4, x_60, x_41_205, x_10_2_I, x_10_2_A, x_10_2_U, x_10_1_I, x_10_1_A, x_10_1_U, x_83, cb_ri, cb_rl, cb_rv, cb_th, cb_ite, ps_s, ps_n, u_218_0, u_218_59, u_218_60, u_218_67, u_218_73, n4, Int.reduceEq, Int.reduceLT, Int.reduceLE, reduceIte, Int.reduceAdd, Int.reduceSub, Int.reduceMul, Int.reduceNeg, Int.reduceToNat, Bool.false_eq_true, eq_self, if_pos, if_neg]
/-- the table of cans that the reference has -/
def CT (h : Hp) (N K : Nat) (can : Nat → Nat → Bool) : Prop := ∀ n, n < N → ∀ i, i < K → h 205 0 (14 * i + n) = boI (can n i)
def farM (M : Nat → Int) (H : Nat) (ad : Int) (n i : Nat) : Int := dsV M n (atG M H ad i)
theorem may_m (lv i n u N K : Nat) (can : Nat → Nat → Bool) (h : Hp) (C : CT h N K can) (hi : i < K) (hK : K ≤ 7) (hn : n < N) (hN : N ≤ 14) (hu : u < 128) : cl (lv + 2) 220 [aA 12 0, aI (i : Int), aI (n : Int), aI (u : Int)] h = ri (boI (!u.testBit i && can n i)) h := by
  have io := isOf_c lv u i h (by omega) (by omega)
  have c := C n hn i hi
  have ei : (14 * (i : Int) + (n : Int)).toNat = 14 * i + n := by omega
  rw [in_220]
  by_cases b1 : u.testBit i = true
  · rw [if_pos b1] at io
    simp (disch := omega) only [x_4_3, x_4_1, x_80_2_d0, x_80_2_d1, x_80_2_d2, x_80_2_d3, x_80_2_d4, x_69, x_6_0, x_34, x_1, x_13, x_4_2, x_11, x_40_205, x_68, x_60, x_61, x_85, cb_ri, cb_rl, cb_rv, cb_th, cb_ite, ps_s, ps_n, u_220_0, u_220_26, u_220_27, io, b1, Bool.not_true, Bool.false_and, boI, Int.reduceEq, Int.reduceLT, Int.reduceLE, reduceIte, Int.reduceAdd, Int.reduceSub, Int.reduceMul, Int.reduceNeg, Int.reduceToNat, Bool.false_eq_true, eq_self, if_pos, if_neg]
  · rw [if_neg b1] at io
    rw [Bool.not_eq_true] at b1
    cases b2 : can n i with
    | true =>
      rw [b2] at c
      have c : h 205 0 (14 * i + n) = 1 := c
      simp (disch := omega) only [x_4_3, x_4_1, x_80_2_d0, x_80_2_d1, x_80_2_d2, x_80_2_d3, x_80_2_d4, x_69, x_6_0, x_34, x_1, x_13, x_4_2, x_11, x_40_205, x_68, x_60, x_61, x_85, cb_ri, cb_rl, cb_rv, cb_th, cb_ite, ps_s, ps_n, u_220_0, u_220_26, u_220_27, io, b1, ei, c, w32_id, Bool.not_false, Bool.true_and, boI, Int.reduceEq, Int.reduceLT, Int.reduceLE, reduceIte, Int.reduceAdd, Int.reduceSub, Int.reduceMul, Int.reduceNeg, Int.reduceToNat, Bool.false_eq_true, eq_self, if_pos, if_neg]
    | false =>
      rw [b2] at c
      have c : h 205 0 (14 * i + n) = 0 := c
      simp (disch := omega) only [x_4_3, x_4_1, x_80_2_d0, x_80_2_d1, x_80_2_d2, x_80_2_d3, x_80_2_d4, x_69, x_6_0, x_34, x_1, x_13, x_4_2, x_11, x_40_205, x_68, x_60, x_61, x_85, cb_ri, cb_rl, cb_rv, cb_th, cb_ite, ps_s, ps_n, u_220_0, u_220_26, u_220_27, io, b1, ei, c, w32_id, Bool.and_false, boI, Int.reduceEq, Int.reduceLT, Int.reduceLE, reduceIte, Int.reduceAdd, Int.reduceSub, Int.reduceMul, Int.reduceNeg, Int.reduceToNat, Bool.false_eq_true, eq_self, if_pos, if_neg]
theorem dsV_b {M : Nat → Int} {n : Nat} {a : Int} (h1 : 0 ≤ M (50 + 4 * n + 1) ∧ M (50 + 4 * n + 1) ≤ 63) (h2 : 0 ≤ a ∧ a ≤ 63) : 0 ≤ dsV M n a ∧ dsV M n a ≤ 63 := by unfold dsV; split <;> omega
theorem farM_b {M : Nat → Int} {H N n i : Nat} {ad : Int} (G : GM M H N) (hn : n < N) (ha : adOk ad) (hi : i < hmK H ad) : 0 ≤ farM M H ad n i ∧ farM M H ad n i ≤ 63 := by
  unfold farM
  refine dsV_b (G.2.1.2.2.1 n hn).2.1 ?_
  unfold atG
  rcases hmK_i ha hi with c | ⟨c, d⟩
  · rw [if_pos c]; exact (G.1.2.2 i c).2.1
  · rw [if_neg (by omega)]; exact d
theorem brings_m (lv k i n u H N : Nat) (x : Int) (h : Hp) (G : GM (h 187 0) H N) (ha : adOk (h 206 0 0)) (hi : i < hmK H (h 206 0 0)) (hk : k < 14) (hn : n < N) (hc : h 208 0 k = (n : Int)) (hu : u < 128) (hx : h 207 0 (128 * (k + 1) + (u ||| 2 ^ i)) = x) (hb : -10000000 ≤ x ∧ x ≤ 10000000) : cl (lv + 3) 221 [aA 12 0, aI (k : Int), aI (i : Int), aI (u : Int)] h = ri (100000 - farM (h 187 0) H (h 206 0 0) n i + x) h := by
  have wy := way_m lv i n H N h G hn (hmK_i ha hi)
  have fb := farM_b G hn ha hi
  have hK := hmK_le (ad := h 206 0 0) G.1.2.1
  obtain ⟨ob, ob2⟩ := or_bit hu (show i < 7 by omega)
  have wy : _ = ri (farM (h 187 0) H (h 206 0 0) n i) h := wy
  have ei : (128 * ((k : Int) + 1) + ((u ||| 2 ^ i : Nat) : Int)).toNat = 128 * (k + 1) + (u ||| 2 ^ i) := by omega
  rw [in_221]
  simp (disch := omega) only [x_1, x_6_0, x_4_2, x_34, x_4_1, x_38_207, x_38_208, x_79_3_12_d0, x_79_3_12_d1, x_79_3_12_d2, x_79_3_12_d3, x_79_3_12_d4, x_12, x_11, x_13, x_4_3, x_20, x_18, x_82, cb_ri, cb_rl, cb_rv, cb_th, cb_ite, ps_s, ps_n, u_221_0, tn, hc, wy, ob, ei, hx, w32_id]
