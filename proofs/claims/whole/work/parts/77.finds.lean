/-! THE CLASS: a note seeks a hand. -/
def alB (cn : Nat → Nat) (aw y x : Nat) : Bool := (cn y).testBit x && !aw.testBit x
theorem tst_c (a b c j : Nat) (ha : a < 128) (hb : b < 128) (hc : c < 128) (hj : j < 7) : iand (ishr (iand (iand (a : Int) (ixor (b : Int) (-1))) (ixor (c : Int) (-1))) (j : Int)) 1 = if ((a.testBit j && !b.testBit j) && !c.testBit j) = true then 1 else 0 := by
  have l1 : a ^^^ (a &&& b) < 2 ^ 7 := Nat.xor_lt_two_pow ha (Nat.lt_of_le_of_lt Nat.and_le_left ha)
  have l2 : (a ^^^ (a &&& b)) ^^^ ((a ^^^ (a &&& b)) &&& c) < 2 ^ 7 := Nat.xor_lt_two_pow l1 (Nat.lt_of_le_of_lt Nat.and_le_left l1)
  rw [iandn_n (by omega) (by omega), iandn_n (by omega) (by omega), bit_n (by omega) (by omega), Nat.testBit_xor, Nat.testBit_and, Nat.testBit_xor, Nat.testBit_and]
  cases a.testBit j <;> cases b.testBit j <;> cases c.testBit j <;> rfl
theorem or_bit {s j : Nat} (hs : s < 128) (hj : j < 7) : ior (s : Int) (ishl 1 (j : Int)) = ((s ||| 2 ^ j : Nat) : Int) ∧ s ||| 2 ^ j < 128 := by
  have h2 : 2 ^ j < 2 ^ 7 := Nat.pow_lt_pow_right (by omega) (by omega)
  exact ⟨by rw [ishl_1 j (by omega), ior_n (by omega) (by omega)], Nat.or_lt_two_pow (n := 7) hs h2⟩
theorem cnt_upd {P R : Nat → Bool} {n j : Nat} (hj : j < n) (h : ∀ x, x < n → x ≠ j → R x = P x) : cnt R n + (if P j = true then 1 else 0) = cnt P n + (if R j = true then 1 else 0) := by
  induction n with
  | zero => omega
  | succ n ih =>
    show cnt R n + (if R n = true then 1 else 0) + _ = cnt P n + (if P n = true then 1 else 0) + _
    by_cases e : j = n
    · subst e
      have := cnt_congr (P := R) (Q := P) (n := j) (fun i hi => h i (by omega) (by omega))
      omega
    · have := ih (by omega) (fun x h1 h2 => h x (by omega) h2)
      rw [h n (by omega) (by omega)]
      omega
def FI (N b aw : Nat) (cn : Nat → Nat) (e : Nat) : Prop := ∀ (D lv y sn : Nat) (h : Hp), D + e = 7 → y < N → (∀ n, n < N → h 117 0 n = (cn n : Int) ∧ cn n < 128) → h 119 0 0 = (aw : Int) → h 120 0 0 = (sn : Int) → sn < 128 → D ≤ cnt (fun x => sn.testBit x) 7 → (∀ x, x < 7 → h 118 0 (7 * b + x) = -1 ∨ ∃ y' : Nat, h 118 0 (7 * b + x) = (y' : Int) ∧ y' < N) →
  ∃ (res : Int) (h' : Hp) (sn' : Nat), cl (lv + e + 1) 26 [aA 3 0, aI (y : Int), aI ((7 * b : Nat) : Int), aI (D : Int)] h = ri res h' ∧ h' 120 0 0 = (sn' : Int) ∧ sn' < 128 ∧ (∀ tt k i, ¬ (k = 0 ∧ (tt = 120 ∨ (tt = 118 ∧ 7 * b ≤ i ∧ i < 7 * b + 7))) → h' tt k i = h tt k i) ∧ ((res = 0 ∧ Fsp (alB cn aw) y (fun x => h 118 0 (7 * b + x)) (fun x => h' 118 0 (7 * b + x)) sn sn') ∨ (res = 1 ∧ Ssp (alB cn aw) N y (fun x => h 118 0 (7 * b + x)) (fun x => h' 118 0 (7 * b + x)) sn))
theorem FI_s {N b aw : Nat} {cn : Nat → Nat} (hN : N ≤ 14) (hb : b < 12) (haw : aw < 128) (e : Nat) (ih : ∀ e', e = e' + 1 → FI N b aw cn e') : FI N b aw cn e := by
  intro D lv y sn h hD hy hc h9 h20 hsn hcd hhd
  have key : ∀ (d j snj : Nat) (g : Hp) (v5 : AV), j + d = 7 → (∀ tt k i, ¬ (k = 0 ∧ tt = 120) → g tt k i = h tt k i) → g 120 0 0 = (snj : Int) → snj < 128 → (∀ x, sn.testBit x = true → snj.testBit x = true) → (∀ x, x < j → alB cn aw y x = true → snj.testBit x = true) → (∀ x, x < 7 → snj.testBit x = true → sn.testBit x = false → ∃ y' : Nat, h 118 0 (7 * b + x) = (y' : Int) ∧ ∀ x', x' < 7 → alB cn aw y' x' = true → snj.testBit x' = true) →
      ∃ (res : Int) (h' : Hp) (sn' : Nat), run (lv + e) 26 37 [aA 3 0, aI (y : Int), aI ((7 * b : Nat) : Int), aI (D : Int), aI (j : Int), v5] [] g = ri res h' ∧ h' 120 0 0 = (sn' : Int) ∧ sn' < 128 ∧ (∀ tt k i, ¬ (k = 0 ∧ (tt = 120 ∨ (tt = 118 ∧ 7 * b ≤ i ∧ i < 7 * b + 7))) → h' tt k i = h tt k i) ∧ ((res = 0 ∧ Fsp (alB cn aw) y (fun x => h 118 0 (7 * b + x)) (fun x => h' 118 0 (7 * b + x)) sn sn') ∨ (res = 1 ∧ Ssp (alB cn aw) N y (fun x => h 118 0 (7 * b + x)) (fun x => h' 118 0 (7 * b + x)) sn)) := by
    intro d
    induction d with
    | zero =>
      intro j snj g v5 hj hg h20' hsn' hs1 hs2 hs3
      have hj : j = 7 := by omega
      subst hj
      refine ⟨0, g, snj, ?_, h20', hsn', fun tt k i hf => hg tt k i (fun z => hf ⟨z.1, Or.inl z.2⟩), Or.inl ⟨rfl, fun x hx => hg _ _ _ (by omega), hs1, hs2, hs3⟩⟩
      rw [hd_26_37]
      simp (disch := omega) only [x_4_3, x_1, x_66, x_4_1, x_70, x_65, x_4_2, x_6_0, x_34, x_45_117, x_45_118, x_12, x_67, x_61, x_85, x_7_4_I, x_7_4_A, x_7_4_U, x_4_4, x_38_117, x_38_118, x_33, x_19, x_17, x_21, x_68, x_47_I, x_47_A, x_20, x_18, x_36, x_11, x_7_5_I, x_7_5_A, x_7_5_U, x_4_5, x_62, x_79_4_3_d0, x_79_4_3_d1, x_79_4_3_d2, x_79_4_3_d3, x_79_4_3_d4, x_39_117, x_39_118, x_10_4_I, x_10_4_A, x_10_4_U, x_60, cb_ri, cb_rl, cb_rv, cb_th, cb_ite, ps_s, ps_n, u_26_0, u_26_32, u_26_34, u_26_115, u_26_127, u_26_133, Int.reduceEq, Int.reduceLT, Int.reduceLE, reduceIte, Int.reduceAdd, Int.reduceSub, Int.reduceMul, Int.reduceNeg, Int.reduceToNat, Bool.false_eq_true, eq_self, if_pos, if_neg]
    | succ d ihd =>
      intro j snj g v5 hj hg h20' hsn' hs1 hs2 hs3
      obtain ⟨c1, c2⟩ := hc y hy
      have g17 : g 117 0 y = (cn y : Int) := by rw [hg _ _ _ (by omega)]; exact c1
      have g19 : g 119 0 0 = (aw : Int) := by rw [hg _ _ _ (by omega)]; exact h9
      have g18 : g 118 0 (7 * b + j) = h 118 0 (7 * b + j) := hg _ _ _ (by omega)
      have tt := tst_c (cn y) aw snj j c2 haw hsn' (by omega)
      obtain ⟨ob, ob2⟩ := or_bit hsn' (show j < 7 by omega)
      have ei : (((7 * b : Nat) : Int) + (j : Int)).toNat = 7 * b + j := by omega
      by_cases t : ((cn y).testBit j && !aw.testBit j && !snj.testBit j) = true
      · rw [if_pos t] at tt
        have t1 : alB cn aw y j = true := by unfold alB; exact (Bool.and_eq_true _ _ ▸ t).1
        have t2 : snj.testBit j = false := by have := (Bool.and_eq_true _ _ ▸ t).2; simpa using this
        have t3 : sn.testBit j = false := by
          cases hq : sn.testBit j with
          | false => rfl
          | true => rw [hs1 j hq] at t2; cases t2
        rcases hhd j (by omega) with hf | ⟨y', hf, hy'⟩
        · -- a free hand
          refine ⟨1, hset (hset g 120 0 0 ((snj ||| 2 ^ j : Nat) : Int)) 118 0 (7 * b + j) (y : Int), snj ||| 2 ^ j, ?_, ?_, ob2, ?_, Or.inr ⟨rfl, ?_⟩⟩
          · rw [hd_26_37]
            simp (disch := omega) only [x_4_3, x_1, x_66, x_4_1, x_70, x_65, x_4_2, x_6_0, x_34, x_45_117, x_45_118, x_12, x_67, x_61, x_85, x_7_4_I, x_7_4_A, x_7_4_U, x_4_4, x_38_117, x_38_118, x_33, x_19, x_17, x_21, x_68, x_47_I, x_47_A, x_20, x_18, x_36, x_11, x_7_5_I, x_7_5_A, x_7_5_U, x_4_5, x_62, x_79_4_3_d0, x_79_4_3_d1, x_79_4_3_d2, x_79_4_3_d3, x_79_4_3_d4, x_39_117, x_39_118, x_10_4_I, x_10_4_A, x_10_4_U, x_60, cb_ri, cb_rl, cb_rv, cb_th, cb_ite, ps_s, ps_n, u_26_0, u_26_32, u_26_34, u_26_115, u_26_127, u_26_133, tn, g17, g19, h20', tt, ob, ei, hs_t, g18, hf, w32_id, Int.reduceEq, Int.reduceLT, Int.reduceLE, reduceIte, Int.reduceAdd, Int.reduceSub, Int.reduceMul, Int.reduceNeg, Int.reduceToNat, Bool.false_eq_true, eq_self, if_pos, if_neg]
          · rw [hs_t (by omega), hs_eq]
          · intro tt k i hf2
            rw [hs_o (by omega), hs_o (by omega)]
            exact hg tt k i (by omega)
          · have hv : ∀ x, x < 7 → (hset (hset g 120 0 0 ((snj ||| 2 ^ j : Nat) : Int)) 118 0 (7 * b + j) (y : Int)) 118 0 (7 * b + x) = if x = j then (y : Int) else h 118 0 (7 * b + x) := by
              intro x hx
              by_cases ex : x = j
              · rw [ex, hs_eq, if_pos rfl]
              · rw [hs_i (by omega), hs_t (by omega), if_neg ex]; exact hg _ _ _ (by omega)
            refine ⟨fun x hx hne => ?_, fun y' => ?_, fun C hC => ?_⟩
            · simp only [hv x hx] at hne ⊢
              by_cases ex : x = j
              · subst ex; rw [if_pos rfl]; exact ⟨t3, y, rfl, hy, t1⟩
              · rw [if_neg ex] at hne; exact absurd rfl hne
            · have cu := cnt_upd (P := fun x => decide (h 118 0 (7 * b + x) = (y' : Int))) (R := fun x => decide ((hset (hset g 120 0 0 ((snj ||| 2 ^ j : Nat) : Int)) 118 0 (7 * b + j) (y : Int)) 118 0 (7 * b + x) = (y' : Int))) (n := 7) (j := j) (by omega) (fun x hx hne => by simp only [hv x hx, if_neg hne])
              rw [if_neg (by rw [hf]; simp)] at cu
              simp only [hv j (by omega), if_true] at cu
              simp only [hcn]
              by_cases ey : y' = y
              · subst ey; simp at cu; rw [if_pos rfl]; omega
              · rw [if_neg ey]; rw [if_neg (by simp; omega)] at cu; omega
            · have cj : C j = false := by
                cases hq : C j with
                | false => rfl
                | true => obtain ⟨z, z1, -⟩ := hC j (by omega) hq; simp only at z1; omega
              refine ⟨fun x hx hcx => ?_, j, by omega, t1, cj⟩
              simp only [hv x hx]
              rw [if_neg (fun ex => by rw [ex, cj] at hcx; cases hcx)]
        · -- a hand that another note has
          have he : ∃ e', e = e' + 1 := by
            cases e with
            | succ e' => exact ⟨e', rfl⟩
            | zero =>
              exfalso
              have c7 : cnt (fun x => sn.testBit x) 7 ≤ 6 := by
                have s := cnt_mono (P := fun x => sn.testBit x) (Q := fun x => decide (x ≠ j)) (n := 7) (fun x hx hp => by
                  simp only [decide_eq_true_eq]
                  intro ex; rw [ex, t3] at hp; cases hp)
                have u := cnt_del (Y := fun _ => true) (b := 7) (y := j) (by omega) rfl
                have v : cnt (fun _ => true) 7 = 7 := rfl
                simp only [Bool.true_and] at u
                omega
              omega
          obtain ⟨e', rfl⟩ := he
          have cD : D + 1 ≤ cnt (fun x => (snj ||| 2 ^ j).testBit x) 7 := by
            have s := cnt_mono (P := fun x => sn.testBit x) (Q := fun x => (snj ||| 2 ^ j).testBit x && decide (x ≠ j)) (n := 7) (fun x hx hp => by
              rw [tb_or, hs1 x hp, Bool.true_or, Bool.true_and, decide_eq_true_eq]
              intro ex; rw [ex, t3] at hp; cases hp)
            have u := cnt_del (Y := fun x => (snj ||| 2 ^ j).testBit x) (b := 7) (y := j) (by omega) (by rw [tb_or]; simp)
            omega
          obtain ⟨res, h2, sn2, r1, r2, r3, r4, r5⟩ := ih e' rfl (D + 1) lv y' (snj ||| 2 ^ j) (hset g 120 0 0 ((snj ||| 2 ^ j : Nat) : Int)) (by omega) hy' (fun n hn => ⟨by rw [hs_t (by omega), hg _ _ _ (by omega)]; exact (hc n hn).1, (hc n hn).2⟩) (by rw [hs_t (by omega)]; exact g19) (hs_eq _ _ _ _ _) ob2 cD (fun x hx => by rw [hs_t (by omega), hg _ _ _ (by omega)]; exact hhd x hx)
          have hg1 : (fun x => hset g 120 0 0 ((snj ||| 2 ^ j : Nat) : Int) 118 0 (7 * b + x)) = fun x => h 118 0 (7 * b + x) := by funext x; rw [hs_t (by omega)]; exact hg _ _ _ (by omega)
          rw [hg1] at r5
          have h2o : ∀ tt k i, ¬ (k = 0 ∧ (tt = 120 ∨ (tt = 118 ∧ 7 * b ≤ i ∧ i < 7 * b + 7))) → h2 tt k i = h tt k i := by
            intro tt k i hf2
            rw [r4 tt k i hf2, hs_o (by omega)]
            exact hg tt k i (by omega)
          have r1' : cl (lv + (e' + 1)) 26 [aA 3 0, aI (y' : Int), aI ((7 * b : Nat) : Int), aI ((D : Int) + 1)] (hset g 120 0 0 ((snj ||| 2 ^ j : Nat) : Int)) = ri res h2 := r1
          have r1c : cl (lv + (e' + 1)) 26 [aA 3 0, aI (y' : Int), aI ((7 * b : Nat) : Int), aI ((D + 1 : Nat) : Int)] (hset g 120 0 0 ((snj ||| 2 ^ j : Nat) : Int)) = ri res h2 := r1
          rcases r5 with ⟨rfl, f1, f2, f3, f4⟩ | ⟨rfl, s1, s2, s3⟩
          · obtain ⟨res, h', sn', q⟩ := ihd (j + 1) sn2 h2 (aI (y' : Int)) (by omega) (fun tt k i hf2 => by
                by_cases hq : k = 0 ∧ (tt = 120 ∨ (tt = 118 ∧ 7 * b ≤ i ∧ i < 7 * b + 7))
                · obtain ⟨rfl, hq | ⟨rfl, q1, q2⟩⟩ := hq
                  · exact absurd ⟨rfl, hq⟩ hf2
                  · have := f1 (i - 7 * b) (by omega)
                    simp only at this
                    rw [show 7 * b + (i - 7 * b) = i by omega] at this
                    exact this
                · exact h2o tt k i hq) r2 r3 (fun x hx => f2 x (by rw [tb_or, hs1 x hx]; rfl)) (fun x hx ha => f2 x (by
                  rw [tb_or]
                  by_cases ex : x = j
                  · simp [ex]
                  · rw [hs2 x (by omega) ha]; rfl)) (fun x hx h3 h4 => by
                  by_cases ex : x = j
                  · subst ex
                    exact ⟨y', hf, f3⟩
                  · by_cases hq : snj.testBit x = true
                    · obtain ⟨z, z1, z2⟩ := hs3 x hx hq h4
                      exact ⟨z, z1, fun x' k1 k2 => f2 x' (by rw [tb_or, z2 x' k1 k2]; rfl)⟩
                    · exact f4 x hx h3 (by rw [tb_or, Bool.or_eq_false_iff]; exact ⟨by simpa using hq, by simp; omega⟩))
            refine ⟨res, h', sn', ?_, q.2⟩
            rw [← q.1, hd_26_37]
            simp (disch := omega) only [x_4_3, x_1, x_66, x_4_1, x_70, x_65, x_4_2, x_6_0, x_34, x_45_117, x_45_118, x_12, x_67, x_61, x_85, x_7_4_I, x_7_4_A, x_7_4_U, x_4_4, x_38_117, x_38_118, x_33, x_19, x_17, x_21, x_68, x_47_I, x_47_A, x_20, x_18, x_36, x_11, x_7_5_I, x_7_5_A, x_7_5_U, x_4_5, x_62, x_79_4_3_d0, x_79_4_3_d1, x_79_4_3_d2, x_79_4_3_d3, x_79_4_3_d4, x_39_117, x_39_118, x_10_4_I, x_10_4_A, x_10_4_U, x_60, cb_ri, cb_rl, cb_rv, cb_th, cb_ite, ps_s, ps_n, u_26_0, u_26_32, u_26_34, u_26_115, u_26_127, u_26_133, tn, g17, g19, h20', tt, ob, ei, hs_t, g18, hf, w32_id, r1c, ci, Int.reduceEq, Int.reduceLT, Int.reduceLE, reduceIte, Int.reduceAdd, Int.reduceSub, Int.reduceMul, Int.reduceNeg, Int.reduceToNat, Bool.false_eq_true, eq_self, if_pos, if_neg]
          · refine ⟨1, hset h2 118 0 (7 * b + j) (y : Int), sn2, ?_, ?_, r3, ?_, Or.inr ⟨rfl, ?_⟩⟩
            · rw [hd_26_37]
              simp (disch := omega) only [x_4_3, x_1, x_66, x_4_1, x_70, x_65, x_4_2, x_6_0, x_34, x_45_117, x_45_118, x_12, x_67, x_61, x_85, x_7_4_I, x_7_4_A, x_7_4_U, x_4_4, x_38_117, x_38_118, x_33, x_19, x_17, x_21, x_68, x_47_I, x_47_A, x_20, x_18, x_36, x_11, x_7_5_I, x_7_5_A, x_7_5_U, x_4_5, x_62, x_79_4_3_d0, x_79_4_3_d1, x_79_4_3_d2, x_79_4_3_d3, x_79_4_3_d4, x_39_117, x_39_118, x_10_4_I, x_10_4_A, x_10_4_U, x_60, cb_ri, cb_rl, cb_rv, cb_th, cb_ite, ps_s, ps_n, u_26_0, u_26_32, u_26_34, u_26_115, u_26_127, u_26_133, tn, g17, g19, h20', tt, ob, ei, hs_t, g18, hf, w32_id, r1', Int.reduceEq, Int.reduceLT, Int.reduceLE, reduceIte, Int.reduceAdd, Int.reduceSub, Int.reduceMul, Int.reduceNeg, Int.reduceToNat, Bool.false_eq_true, eq_self, if_pos, if_neg]
            · rw [hs_t (by omega)]; exact r2
            · intro tt k i hf2
              rw [hs_o (by omega)]
              exact h2o tt k i hf2
            · have hv : ∀ x, x < 7 → (hset h2 118 0 (7 * b + j) (y : Int)) 118 0 (7 * b + x) = if x = j then (y : Int) else h2 118 0 (7 * b + x) := by
                intro x hx
                by_cases ex : x = j
                · rw [ex, hs_eq, if_pos rfl]
                · rw [hs_i (by omega), if_neg ex]
              have hj2 : h2 118 0 (7 * b + j) = (y' : Int) := by
                by_cases hq : h2 118 0 (7 * b + j) = h 118 0 (7 * b + j)
                · rw [hq]; exact hf
                · have := (s1 j (by omega) hq).1
                  rw [tb_or] at this
                  simp at this
              refine ⟨fun x hx hne => ?_, fun z => ?_, fun C hC => ?_⟩
              · simp only [hv x hx] at hne ⊢
                by_cases ex : x = j
                · subst ex; rw [if_pos rfl]; exact ⟨t3, y, rfl, hy, t1⟩
                · rw [if_neg ex] at hne ⊢
                  obtain ⟨q1, q2⟩ := s1 x hx hne
                  refine ⟨?_, q2⟩
                  cases hq : sn.testBit x with
                  | false => rfl
                  | true => rw [tb_or, hs1 x hq] at q1; cases q1
              · have cu := cnt_upd (P := fun x => decide (h2 118 0 (7 * b + x) = (z : Int))) (R := fun x => decide ((hset h2 118 0 (7 * b + j) (y : Int)) 118 0 (7 * b + x) = (z : Int))) (n := 7) (j := j) (by omega) (fun x hx hne => by simp only [hv x hx, if_neg hne])
                simp only [hv j (by omega), if_true, hj2, decide_eq_true_eq] at cu
                have s2 := s2 z
                simp only [hcn] at s2 ⊢
                by_cases ey : z = y
                · subst ey
                  rw [if_pos rfl] at cu ⊢
                  by_cases ez : z = y'
                  · subst ez; rw [if_pos rfl] at cu s2; omega
                  · rw [if_neg (by omega)] at cu; rw [if_neg ez] at s2; omega
                · rw [if_neg ey]
                  rw [if_neg (show ¬ (y : Int) = (z : Int) by omega)] at cu
                  by_cases ez : z = y'
                  · subst ez; rw [if_pos rfl] at cu s2; omega
                  · rw [if_neg (by omega)] at cu; rw [if_neg ez] at s2; omega
              · obtain ⟨k1, x0, x1, x2, x3⟩ := s3 C hC
                have cj : C j = false := by
                  cases hq : C j with
                  | false => rfl
                  | true =>
                    obtain ⟨z, z1, z2⟩ := hC j (by omega) hq
                    simp only at z1
                    have : z = y' := by omega
                    subst this
                    rw [z2 x0 x1 x2] at x3
                    cases x3
                refine ⟨fun x hx hcx => ?_, j, by omega, t1, cj⟩
                simp only [hv x hx]
                rw [if_neg (fun ex => by rw [ex, cj] at hcx; cases hcx)]
                exact k1 x hx hcx
      · rw [if_neg t] at tt
        obtain ⟨res, h', sn', q⟩ := ihd (j + 1) snj g v5 (by omega) hg h20' hsn' hs1 (fun x hx ha => by
          by_cases ex : x = j
          · subst ex
            cases hq : snj.testBit x with
            | true => rfl
            | false => unfold alB at ha; rw [ha, hq] at t; exact absurd rfl t
          · exact hs2 x (by omega) ha) hs3
        refine ⟨res, h', sn', ?_, q.2⟩
        rw [← q.1, hd_26_37]
        simp (disch := omega) only [x_4_3, x_1, x_66, x_4_1, x_70, x_65, x_4_2, x_6_0, x_34, x_45_117, x_45_118, x_12, x_67, x_61, x_85, x_7_4_I, x_7_4_A, x_7_4_U, x_4_4, x_38_117, x_38_118, x_33, x_19, x_17, x_21, x_68, x_47_I, x_47_A, x_20, x_18, x_36, x_11, x_7_5_I, x_7_5_A, x_7_5_U, x_4_5, x_62, x_79_4_3_d0, x_79_4_3_d1, x_79_4_3_d2, x_79_4_3_d3, x_79_4_3_d4, x_39_117, x_39_118, x_10_4_I, x_10_4_A, x_10_4_U, x_60, cb_ri, cb_rl, cb_rv, cb_th, cb_ite, ps_s, ps_n, u_26_0, u_26_32, u_26_34, u_26_115, u_26_127, u_26_133, tn, g17, g19, h20', tt, w32_id, ci, Int.reduceEq, Int.reduceLT, Int.reduceLE, reduceIte, Int.reduceAdd, Int.reduceSub, Int.reduceMul, Int.reduceNeg, Int.reduceToNat, Bool.false_eq_true, eq_self, if_pos, if_neg]
  obtain ⟨res, h', sn', q⟩ := key 7 0 sn h none (by omega) (fun _ _ _ _ => rfl) h20 hsn (fun _ z => z) (fun x hx => by omega) (fun x _ h1 h2 => by rw [h1] at h2; cases h2)
  refine ⟨res, h', sn', ?_, q.2⟩
  rw [← q.1, in_26]
  simp (disch := omega) only [x_4_3, x_1, x_66, x_4_1, x_70, x_65, x_4_2, x_6_0, x_34, x_45_117, x_45_118, x_12, x_67, x_61, x_85, x_7_4_I, x_7_4_A, x_7_4_U, x_4_4, x_38_117, x_38_118, x_33, x_19, x_17, x_21, x_68, x_47_I, x_47_A, x_20, x_18, x_36, x_11, x_7_5_I, x_7_5_A, x_7_5_U, x_4_5, x_62, x_79_4_3_d0, x_79_4_3_d1, x_79_4_3_d2, x_79_4_3_d3, x_79_4_3_d4, x_39_117, x_39_118, x_10_4_I, x_10_4_A, x_10_4_U, x_60, cb_ri, cb_rl, cb_rv, cb_th, cb_ite, ps_s, ps_n, u_26_0, u_26_32, u_26_34, u_26_115, u_26_127, u_26_133, w32_id, Int.reduceEq, Int.reduceLT, Int.reduceLE, reduceIte, Int.reduceAdd, Int.reduceSub, Int.reduceMul, Int.reduceNeg, Int.reduceToNat, Bool.false_eq_true, eq_self, if_pos, if_neg]
  rfl
theorem finds_c {N b aw : Nat} {cn : Nat → Nat} (hN : N ≤ 14) (hb : b < 12) (haw : aw < 128) : ∀ e, FI N b aw cn e := by
  intro e
  induction e with
  | zero => exact FI_s hN hb haw 0 (fun e' he => by omega)
  | succ e ih => exact FI_s hN hb haw (e + 1) (fun e' he => (show e = e' by omega) ▸ ih)
