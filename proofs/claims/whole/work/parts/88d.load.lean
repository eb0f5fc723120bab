/-! WHAT PLAYERS HAVE TO DO; hands that could be traded. -/
def ldB (M : Nat → Int) (w : WS) (p : Int) (x : Nat) : Bool := decide (M (14 + 6 * x) = p) && !decide (w.2.2.1 x = -1)
def ldV (M : Nat → Int) (L : List LN) (H N : Nat) (p : Int) : Nat := sumN (fun b => cnt (ldB M (wayW M L H N (b : Int)) p) H) 12
theorem ldV_b (M : Nat → Int) (L : List LN) {H : Nat} (N : Nat) (p : Int) (hH : H ≤ 6) : ldV M L H N p ≤ 72 := sumN_b (f := fun b => cnt (ldB M (wayW M L H N (b : Int)) p) H) (K := 6) (fun i => Nat.le_trans (cnt_le _ _) hH) 12
theorem loadOf_c (lv s H N : Nat) (p : Int) (M : Nat → Int) (h : Hp) (L : List LN) (R : RS h s M H N) (G : GM M H N) (W : LawW h 0 L) : ∃ h', cl (lv + 6) 162 [aA 11 0, aA 7 s, aI p] h = ri ((ldV M L H N p : Nat) : Int) h' ∧ ∀ tt k j, ¬ fwFr tt k → h' tt k j = h tt k j := by
  have hH := G.1.2.1
  have sb := sumN_b (f := fun b => cnt (ldB M (wayW M L H N (b : Int)) p) H) (K := 6) (fun i => Nat.le_trans (cnt_le _ _) hH)
  have outer := loop_p (S := AV × Hp) (F := fun b (q : AV × Hp) => run (lv + 5) 162 5 [aA 11 0, aA 7 s, aI p, aI ((sumN (fun b => cnt (ldB M (wayW M L H N (b : Int)) p) H) b : Nat) : Int), aI (b : Int), q.1] [] q.2)
    (I := fun b q => ∀ tt k j, ¬ fwFr tt k → q.2 tt k j = h tt k j)
    (Q := fun r => ∃ h', r = ri ((ldV M L H N p : Nat) : Int) h' ∧ ∀ tt k j, ¬ fwFr tt k → h' tt k j = h tt k j) (N := 12) ?_ ?_ (none, h) (fun _ _ _ _ => rfl)
  · rw [in_162]
    simp (disch := omega) only [x_1, x_7_3_I, x_7_3_A, x_7_3_U, x_7_4_I, x_7_4_A, x_7_4_U, x_61, x_4_4, x_65, x_6_0, x_35_0, x_6_1, x_79_3_10_d0, x_79_3_10_d1, x_79_3_10_d2, x_79_3_10_d3, x_79_3_10_d4, x_7_5_I, x_7_5_A, x_7_5_U, x_4_5, x_33, x_34, x_38_129, x_38_166, x_4_2, x_63, x_62, x_10_3_I, x_10_3_A, x_10_3_U, x_10_5_I, x_10_5_A, x_10_5_U, x_60, x_10_4_I, x_10_4_A, x_10_4_U, x_4_3, x_82, cb_ri, cb_rl, cb_rv, cb_th, cb_ite, ps_s, ps_n, u_162_0, u_162_62, u_162_68, u_162_74]
    exact outer
  · rintro b ⟨v5, q⟩ hb hq
    simp only at hq ⊢
    have Rq : RS q s M H N := RS_e (fun t i ht => hq t s i (by unfold stTag at ht; unfold fwFr lwFr; omega)) R
    have Wq : LawW q 0 L := LawW_e (fun tt j ht => hq tt 0 j (by unfold fwFr lwFr; omega)) W
    obtain ⟨q1, a1, a2, a3⟩ := find_c lv s H N (b : Int) M q L Rq G Wq
    have R1 : RS q1 s M H N := RS_e (fun t i ht => a3 t s i (by unfold stTag at ht; unfold fwFr lwFr; omega)) Rq
    have q39 := R1.1.1
    have s1 := sb b
    refine ⟨(aI (H : Int), q1), ?_, fun tt k j hf => (a3 tt k j hf).trans (hq tt k j hf)⟩
    show run _ _ _ _ _ _ = run _ _ _ [_, _, _, aI ((sumN (fun b => cnt (ldB M (wayW M L H N (b : Int)) p) H) b + cnt (ldB M (wayW M L H N (b : Int)) p) H : Nat) : Int), _, _] _ _
    generalize sumN (fun b => cnt (ldB M (wayW M L H N (b : Int)) p) H) b = sm at s1 ⊢
    rw [hd_162_5]
    simp (disch := omega) only [x_1, x_7_3_I, x_7_3_A, x_7_3_U, x_7_4_I, x_7_4_A, x_7_4_U, x_61, x_4_4, x_65, x_6_0, x_35_0, x_6_1, x_79_3_10_d0, x_79_3_10_d1, x_79_3_10_d2, x_79_3_10_d3, x_79_3_10_d4, x_7_5_I, x_7_5_A, x_7_5_U, x_4_5, x_33, x_34, x_38_129, x_38_166, x_4_2, x_63, x_62, x_10_3_I, x_10_3_A, x_10_3_U, x_10_5_I, x_10_5_A, x_10_5_U, x_60, x_10_4_I, x_10_4_A, x_10_4_U, x_4_3, x_82, cb_ri, cb_rl, cb_rv, cb_th, cb_ite, ps_s, ps_n, u_162_0, u_162_62, u_162_68, u_162_74, a1, Int.reduceEq, Int.reduceLT, Int.reduceLE, reduceIte, Int.reduceAdd, Int.reduceSub, Int.reduceMul, Int.reduceNeg, Int.reduceToNat, Bool.false_eq_true, eq_self, if_pos, if_neg]
    refine loop_up (F := fun x => run (lv + 5) 162 25 [aA 11 0, aA 7 s, aI p, aI ((sm + cnt (ldB M (wayW M L H N (b : Int)) p) x : Nat) : Int), aI (b : Int), aI (x : Int)] [] q1) (N := H) ?_ ?_ 0 (by omega)
    · intro x hx
      have y := a2.2.1 x (by omega)
      have p0 := (R1.1.2.2.2 x hx).1
      have c1 := cnt_le (ldB M (wayW M L H N (b : Int)) p) x
      show run _ _ _ _ _ _ = run _ _ _ [_, _, _, aI ((sm + (cnt (ldB M (wayW M L H N (b : Int)) p) x + if ldB M (wayW M L H N (b : Int)) p x = true then 1 else 0) : Nat) : Int), _, _] _ _
      rw [hd_162_25]
      by_cases d1 : M (14 + 6 * x) = p
      · by_cases d2 : (wayW M L H N (b : Int)).2.2.1 x = -1
        · have pb : ldB M (wayW M L H N (b : Int)) p x = false := by simp [ldB, d2]
          rw [d2] at y
          rw [if_neg (by rw [pb]; exact Bool.false_ne_true)]
          simp (disch := omega) only [x_1, x_7_3_I, x_7_3_A, x_7_3_U, x_7_4_I, x_7_4_A, x_7_4_U, x_61, x_4_4, x_65, x_6_0, x_35_0, x_6_1, x_79_3_10_d0, x_79_3_10_d1, x_79_3_10_d2, x_79_3_10_d3, x_79_3_10_d4, x_7_5_I, x_7_5_A, x_7_5_U, x_4_5, x_33, x_34, x_38_129, x_38_166, x_4_2, x_63, x_62, x_10_3_I, x_10_3_A, x_10_3_U, x_10_5_I, x_10_5_A, x_10_5_U, x_60, x_10_4_I, x_10_4_A, x_10_4_U, x_4_3, x_82, cb_ri, cb_rl, cb_rv, cb_th, cb_ite, ps_s, ps_n, u_162_0, u_162_62, u_162_68, u_162_74, q39, tn, p0, d1, y, Nat.add_zero, Int.reduceEq, Int.reduceLT, Int.reduceLE, reduceIte, Int.reduceAdd, Int.reduceSub, Int.reduceMul, Int.reduceNeg, Int.reduceToNat, Bool.false_eq_true, eq_self, if_pos, if_neg, ci, w32_id]
        · have pb : ldB M (wayW M L H N (b : Int)) p x = true := by simp [ldB, d1, d2]
          rw [if_pos pb, ← Nat.add_assoc]
          simp (disch := omega) only [x_1, x_7_3_I, x_7_3_A, x_7_3_U, x_7_4_I, x_7_4_A, x_7_4_U, x_61, x_4_4, x_65, x_6_0, x_35_0, x_6_1, x_79_3_10_d0, x_79_3_10_d1, x_79_3_10_d2, x_79_3_10_d3, x_79_3_10_d4, x_7_5_I, x_7_5_A, x_7_5_U, x_4_5, x_33, x_34, x_38_129, x_38_166, x_4_2, x_63, x_62, x_10_3_I, x_10_3_A, x_10_3_U, x_10_5_I, x_10_5_A, x_10_5_U, x_60, x_10_4_I, x_10_4_A, x_10_4_U, x_4_3, x_82, cb_ri, cb_rl, cb_rv, cb_th, cb_ite, ps_s, ps_n, u_162_0, u_162_62, u_162_68, u_162_74, q39, tn, p0, d1, y, d2, Int.reduceEq, Int.reduceLT, Int.reduceLE, reduceIte, Int.reduceAdd, Int.reduceSub, Int.reduceMul, Int.reduceNeg, Int.reduceToNat, Bool.false_eq_true, eq_self, if_pos, if_neg, ci, w32_id]
      · have pb : ldB M (wayW M L H N (b : Int)) p x = false := by simp [ldB, d1]
        rw [if_neg (by rw [pb]; exact Bool.false_ne_true)]
        simp (disch := omega) only [x_1, x_7_3_I, x_7_3_A, x_7_3_U, x_7_4_I, x_7_4_A, x_7_4_U, x_61, x_4_4, x_65, x_6_0, x_35_0, x_6_1, x_79_3_10_d0, x_79_3_10_d1, x_79_3_10_d2, x_79_3_10_d3, x_79_3_10_d4, x_7_5_I, x_7_5_A, x_7_5_U, x_4_5, x_33, x_34, x_38_129, x_38_166, x_4_2, x_63, x_62, x_10_3_I, x_10_3_A, x_10_3_U, x_10_5_I, x_10_5_A, x_10_5_U, x_60, x_10_4_I, x_10_4_A, x_10_4_U, x_4_3, x_82, cb_ri, cb_rl, cb_rv, cb_th, cb_ite, ps_s, ps_n, u_162_0, u_162_62, u_162_68, u_162_74, q39, tn, p0, d1, Nat.add_zero, Int.reduceEq, Int.reduceLT, Int.reduceLE, reduceIte, Int.reduceAdd, Int.reduceSub, Int.reduceMul, Int.reduceNeg, Int.reduceToNat, Bool.false_eq_true, eq_self, if_pos, if_neg, ci, w32_id]
    · show run _ _ _ _ _ _ = _
      rw [hd_162_25]
      simp (disch := omega) only [x_1, x_7_3_I, x_7_3_A, x_7_3_U, x_7_4_I, x_7_4_A, x_7_4_U, x_61, x_4_4, x_65, x_6_0, x_35_0, x_6_1, x_79_3_10_d0, x_79_3_10_d1, x_79_3_10_d2, x_79_3_10_d3, x_79_3_10_d4, x_7_5_I, x_7_5_A, x_7_5_U, x_4_5, x_33, x_34, x_38_129, x_38_166, x_4_2, x_63, x_62, x_10_3_I, x_10_3_A, x_10_3_U, x_10_5_I, x_10_5_A, x_10_5_U, x_60, x_10_4_I, x_10_4_A, x_10_4_U, x_4_3, x_82, cb_ri, cb_rl, cb_rv, cb_th, cb_ite, ps_s, ps_n, u_162_0, u_162_62, u_162_68, u_162_74, q39, Int.reduceEq, Int.reduceLT, Int.reduceLE, reduceIte, Int.reduceAdd, Int.reduceSub, Int.reduceMul, Int.reduceNeg, Int.reduceToNat, Bool.false_eq_true, eq_self, if_pos, if_neg, ci, w32_id]
  · rintro ⟨v5, q⟩ hq
    simp only at hq ⊢
    refine ⟨q, ?_, hq⟩
    rw [hd_162_5]
    simp (disch := omega) only [x_1, x_7_3_I, x_7_3_A, x_7_3_U, x_7_4_I, x_7_4_A, x_7_4_U, x_61, x_4_4, x_65, x_6_0, x_35_0, x_6_1, x_79_3_10_d0, x_79_3_10_d1, x_79_3_10_d2, x_79_3_10_d3, x_79_3_10_d4, x_7_5_I, x_7_5_A, x_7_5_U, x_4_5, x_33, x_34, x_38_129, x_38_166, x_4_2, x_63, x_62, x_10_3_I, x_10_3_A, x_10_3_U, x_10_5_I, x_10_5_A, x_10_5_U, x_60, x_10_4_I, x_10_4_A, x_10_4_U, x_4_3, x_82, cb_ri, cb_rl, cb_rv, cb_th, cb_ite, ps_s, ps_n, u_162_0, u_162_62, u_162_68, u_162_74, Int.reduceEq, Int.reduceLT, Int.reduceLE, reduceIte, Int.reduceAdd, Int.reduceSub, Int.reduceMul, Int.reduceNeg, Int.reduceToNat, Bool.false_eq_true, eq_self, if_pos, if_neg]
    rfl
theorem loadOf_m (lv H N : Nat) (p : Int) (h : Hp) (L : List LN) (hL : LM (h 187 0) L) (G : GM (h 187 0) H N) (hW : ∀ x ∈ L, LnG x) (hl : L.length ≤ 12) (ha : h 206 0 0 = -1) : ∃ h', cl (lv + 37) 280 [aA 12 0, aI p] h = ri ((ldV (h 187 0) L H N p : Nat) : Int) h' ∧ ∀ tt k j, ¬ wiFr tt k → h' tt k j = h tt k j := by
  have hH := G.1.2.1
  have hN := G.2.1.2.1
  obtain ⟨h1, l1, l2, l3⟩ := looksA_m lv H N h L hL G hW hl ha
  have sb := sumN_b (f := fun b => cnt (ldB (h 187 0) (wayW (h 187 0) L H N (b : Int)) p) H) (K := 6) (fun i => Nat.le_trans (cnt_le _ _) hH)
  have outer := loop_p (S := AV × Hp) (F := fun b (q : AV × Hp) => run (lv + 36) 280 8 [aA 12 0, aI p, aI ((sumN (fun b => cnt (ldB (h 187 0) (wayW (h 187 0) L H N (b : Int)) p) H) b : Nat) : Int), aI (b : Int), q.1] [] q.2)
    (I := fun b q => ∀ tt k j, ¬ woFr tt k → q.2 tt k j = h1 tt k j)
    (Q := fun r => ∃ h', r = ri ((ldV (h 187 0) L H N p : Nat) : Int) h' ∧ ∀ tt k j, ¬ woFr tt k → h' tt k j = h1 tt k j) (N := 12) ?_ ?_ (none, h1) (fun _ _ _ _ => rfl)
  · obtain ⟨h', e1, e2⟩ := outer
    refine ⟨h', ?_, fun tt k j hf => by rw [e2 tt k j (fun z => hf (Or.inr z)), l3 tt k j (fun z => hf (Or.inl z))]⟩
    rw [← e1, in_280]
    simp (disch := omega) only [x_1, x_7_2_I, x_7_2_A, x_7_2_U, x_6_0, x_79_1_12_d0, x_79_1_12_d1, x_79_1_12_d2, x_79_1_12_d3, x_79_1_12_d4, x_7_3_I, x_7_3_A, x_7_3_U, x_61, x_4_3, x_65, x_79_2_12_d0, x_79_2_12_d1, x_79_2_12_d2, x_79_2_12_d3, x_79_2_12_d4, x_7_4_I, x_7_4_A, x_7_4_U, x_4_4, x_34, x_38_187, x_38_211, x_4_2, x_79_3_12_d0, x_79_3_12_d1, x_79_3_12_d2, x_79_3_12_d3, x_79_3_12_d4, x_4_1, x_63, x_62, x_60, x_11, x_10_4_I, x_10_4_A, x_10_4_U, x_10_3_I, x_10_3_A, x_10_3_U, x_82, cb_ri, cb_rl, cb_rv, cb_th, cb_ite, ps_s, ps_n, u_280_0, u_280_64, u_280_65, u_280_73, u_280_79, l1]
    rfl
  · rintro b ⟨v4, q⟩ hb hq
    simp only at hq ⊢
    have q7 : q 187 0 = h 187 0 := by funext j; rw [hq _ _ _ (by unfold woFr crFr; omega), l3 _ _ _ (by unfold loFr mbFr maFr; omega)]
    have q6 : q 206 0 0 = -1 := by rw [hq _ _ _ (by unfold woFr crFr; omega), l3 _ _ _ (by unfold loFr mbFr maFr; omega)]; exact ha
    have no := notesOf_c (lv + 33) N (b : Int) q (by rw [q7]; exact G.2.1.1) hN
    rw [q7] at no
    obtain ⟨q1, a1, a2, a3⟩ := wayOf_m (lv + 30) (bsN (atB (h 187 0) (b : Int)) N) H N q (abM (h 187 0) L) (by rw [q7]; exact G) q6 (fun n hn i hi => by rw [hq _ _ _ (by unfold woFr crFr; omega)]; exact l2 n hn i hi) (bsN_mono _ hN)
    rw [q7, chL_bs] at a2
    have a2 : WyM q1 (wayW (h 187 0) L H N (b : Int)) := a2
    have k7 : q1 187 0 = h 187 0 := by rw [← q7]; funext j; exact a3 _ _ _ (by unfold woFr crFr; omega)
    have q3 : q1 187 0 3 = (H : Int) := by rw [k7]; exact G.1.1
    have s1 := sb b
    refine ⟨(aI (H : Int), q1), ?_, fun tt k j hf => (a3 tt k j hf).trans (hq tt k j hf)⟩
    show run _ _ _ _ _ _ = run _ _ _ [_, _, aI ((sumN (fun b => cnt (ldB (h 187 0) (wayW (h 187 0) L H N (b : Int)) p) H) b + cnt (ldB (h 187 0) (wayW (h 187 0) L H N (b : Int)) p) H : Nat) : Int), _, _] _ _
    generalize sumN (fun b => cnt (ldB (h 187 0) (wayW (h 187 0) L H N (b : Int)) p) H) b = sm at s1 ⊢
    rw [hd_280_8]
    simp (disch := omega) only [x_1, x_7_2_I, x_7_2_A, x_7_2_U, x_6_0, x_79_1_12_d0, x_79_1_12_d1, x_79_1_12_d2, x_79_1_12_d3, x_79_1_12_d4, x_7_3_I, x_7_3_A, x_7_3_U, x_61, x_4_3, x_65, x_79_2_12_d0, x_79_2_12_d1, x_79_2_12_d2, x_79_2_12_d3, x_79_2_12_d4, x_7_4_I, x_7_4_A, x_7_4_U, x_4_4, x_34, x_38_187, x_38_211, x_4_2, x_79_3_12_d0, x_79_3_12_d1, x_79_3_12_d2, x_79_3_12_d3, x_79_3_12_d4, x_4_1, x_63, x_62, x_60, x_11, x_10_4_I, x_10_4_A, x_10_4_U, x_10_3_I, x_10_3_A, x_10_3_U, x_82, cb_ri, cb_rl, cb_rv, cb_th, cb_ite, ps_s, ps_n, u_280_0, u_280_64, u_280_65, u_280_73, u_280_79, no, a1, Int.reduceEq, Int.reduceLT, Int.reduceLE, reduceIte, Int.reduceAdd, Int.reduceSub, Int.reduceMul, Int.reduceNeg, Int.reduceToNat, Bool.false_eq_true, eq_self, if_pos, if_neg]
    refine loop_up (F := fun x => run (lv + 36) 280 26 [aA 12 0, aI p, aI ((sm + cnt (ldB (h 187 0) (wayW (h 187 0) L H N (b : Int)) p) x : Nat) : Int), aI (b : Int), aI (x : Int)] [] q1) (N := H) ?_ ?_ 0 (by omega)
    · intro x hx
      have y := a2.2 x (by omega)
      have p0 : cl (lv + 36) 173 [aA 12 0, aI (x : Int), aI 0] q1 = ri (h 187 0 (14 + 6 * x)) q1 := by have := its_c (lv + 35) x 0 q1 (by omega) (by omega); rw [k7] at this; exact this
      have c1 := cnt_le (ldB (h 187 0) (wayW (h 187 0) L H N (b : Int)) p) x
      show run _ _ _ _ _ _ = run _ _ _ [_, _, aI ((sm + (cnt (ldB (h 187 0) (wayW (h 187 0) L H N (b : Int)) p) x + if ldB (h 187 0) (wayW (h 187 0) L H N (b : Int)) p x = true then 1 else 0) : Nat) : Int), _, _] _ _
      rw [hd_280_26]
      by_cases d1 : h 187 0 (14 + 6 * x) = p
      · by_cases d2 : (wayW (h 187 0) L H N (b : Int)).2.2.1 x = -1
        · have pb : ldB (h 187 0) (wayW (h 187 0) L H N (b : Int)) p x = false := by simp [ldB, d2]
          rw [d2] at y
          rw [if_neg (by rw [pb]; exact Bool.false_ne_true)]
          simp (disch := omega) only [x_1, x_7_2_I, x_7_2_A, x_7_2_U, x_6_0, x_79_1_12_d0, x_79_1_12_d1, x_79_1_12_d2, x_79_1_12_d3, x_79_1_12_d4, x_7_3_I, x_7_3_A, x_7_3_U, x_61, x_4_3, x_65, x_79_2_12_d0, x_79_2_12_d1, x_79_2_12_d2, x_79_2_12_d3, x_79_2_12_d4, x_7_4_I, x_7_4_A, x_7_4_U, x_4_4, x_34, x_38_187, x_38_211, x_4_2, x_79_3_12_d0, x_79_3_12_d1, x_79_3_12_d2, x_79_3_12_d3, x_79_3_12_d4, x_4_1, x_63, x_62, x_60, x_11, x_10_4_I, x_10_4_A, x_10_4_U, x_10_3_I, x_10_3_A, x_10_3_U, x_82, cb_ri, cb_rl, cb_rv, cb_th, cb_ite, ps_s, ps_n, u_280_0, u_280_64, u_280_65, u_280_73, u_280_79, q3, tn, p0, d1, y, Nat.add_zero, Int.reduceEq, Int.reduceLT, Int.reduceLE, reduceIte, Int.reduceAdd, Int.reduceSub, Int.reduceMul, Int.reduceNeg, Int.reduceToNat, Bool.false_eq_true, eq_self, if_pos, if_neg, ci, w32_id, Int.add_zero]
        · have pb : ldB (h 187 0) (wayW (h 187 0) L H N (b : Int)) p x = true := by simp [ldB, d1, d2]
          rw [if_pos pb, ← Nat.add_assoc]
          simp (disch := omega) only [x_1, x_7_2_I, x_7_2_A, x_7_2_U, x_6_0, x_79_1_12_d0, x_79_1_12_d1, x_79_1_12_d2, x_79_1_12_d3, x_79_1_12_d4, x_7_3_I, x_7_3_A, x_7_3_U, x_61, x_4_3, x_65, x_79_2_12_d0, x_79_2_12_d1, x_79_2_12_d2, x_79_2_12_d3, x_79_2_12_d4, x_7_4_I, x_7_4_A, x_7_4_U, x_4_4, x_34, x_38_187, x_38_211, x_4_2, x_79_3_12_d0, x_79_3_12_d1, x_79_3_12_d2, x_79_3_12_d3, x_79_3_12_d4, x_4_1, x_63, x_62, x_60, x_11, x_10_4_I, x_10_4_A, x_10_4_U, x_10_3_I, x_10_3_A, x_10_3_U, x_82, cb_ri, cb_rl, cb_rv, cb_th, cb_ite, ps_s, ps_n, u_280_0, u_280_64, u_280_65, u_280_73, u_280_79, q3, tn, p0, d1, y, d2, Int.reduceEq, Int.reduceLT, Int.reduceLE, reduceIte, Int.reduceAdd, Int.reduceSub, Int.reduceMul, Int.reduceNeg, Int.reduceToNat, Bool.false_eq_true, eq_self, if_pos, if_neg, ci, w32_id]
      · have pb : ldB (h 187 0) (wayW (h 187 0) L H N (b : Int)) p x = false := by simp [ldB, d1]
        rw [if_neg (by rw [pb]; exact Bool.false_ne_true)]
        simp (disch := omega) only [x_1, x_7_2_I, x_7_2_A, x_7_2_U, x_6_0, x_79_1_12_d0, x_79_1_12_d1, x_79_1_12_d2, x_79_1_12_d3, x_79_1_12_d4, x_7_3_I, x_7_3_A, x_7_3_U, x_61, x_4_3, x_65, x_79_2_12_d0, x_79_2_12_d1, x_79_2_12_d2, x_79_2_12_d3, x_79_2_12_d4, x_7_4_I, x_7_4_A, x_7_4_U, x_4_4, x_34, x_38_187, x_38_211, x_4_2, x_79_3_12_d0, x_79_3_12_d1, x_79_3_12_d2, x_79_3_12_d3, x_79_3_12_d4, x_4_1, x_63, x_62, x_60, x_11, x_10_4_I, x_10_4_A, x_10_4_U, x_10_3_I, x_10_3_A, x_10_3_U, x_82, cb_ri, cb_rl, cb_rv, cb_th, cb_ite, ps_s, ps_n, u_280_0, u_280_64, u_280_65, u_280_73, u_280_79, q3, tn, p0, d1, Nat.add_zero, Int.reduceEq, Int.reduceLT, Int.reduceLE, reduceIte, Int.reduceAdd, Int.reduceSub, Int.reduceMul, Int.reduceNeg, Int.reduceToNat, Bool.false_eq_true, eq_self, if_pos, if_neg, ci, w32_id, Int.add_zero]
    · show run _ _ _ _ _ _ = _
      rw [hd_280_26]
      simp (disch := omega) only [x_1, x_7_2_I, x_7_2_A, x_7_2_U, x_6_0, x_79_1_12_d0, x_79_1_12_d1, x_79_1_12_d2, x_79_1_12_d3, x_79_1_12_d4, x_7_3_I, x_7_3_A, x_7_3_U, x_61, x_4_3, x_65, x_79_2_12_d0, x_79_2_12_d1, x_79_2_12_d2, x_79_2_12_d3, x_79_2_12_d4, x_7_4_I, x_7_4_A, x_7_4_U, x_4_4, x_34, x_38_187, x_38_211, x_4_2, x_79_3_12_d0, x_79_3_12_d1, x_79_3_12_d2, x_79_3_12_d3, x_79_3_12_d4, x_4_1, x_63, x_62, x_60, x_11, x_10_4_I, x_10_4_A, x_10_4_U, x_10_3_I, x_10_3_A, x_10_3_U, x_82, cb_ri, cb_rl, cb_rv, cb_th, cb_ite, ps_s, ps_n, u_280_0, u_280_64, u_280_65, u_280_73, u_280_79, q3, Int.reduceEq, Int.reduceLT, Int.reduceLE, reduceIte, Int.reduceAdd, Int.reduceSub, Int.reduceMul, Int.reduceNeg, Int.reduceToNat, Bool.false_eq_true, eq_self, if_pos, if_neg, ci, w32_id]
  · rintro ⟨v4, q⟩ hq
    simp only at hq ⊢
    refine ⟨q, ?_, hq⟩
    rw [hd_280_8]
    simp (disch := omega) only [x_1, x_7_2_I, x_7_2_A, x_7_2_U, x_6_0, x_79_1_12_d0, x_79_1_12_d1, x_79_1_12_d2, x_79_1_12_d3, x_79_1_12_d4, x_7_3_I, x_7_3_A, x_7_3_U, x_61, x_4_3, x_65, x_79_2_12_d0, x_79_2_12_d1, x_79_2_12_d2, x_79_2_12_d3, x_79_2_12_d4, x_7_4_I, x_7_4_A, x_7_4_U, x_4_4, x_34, x_38_187, x_38_211, x_4_2, x_79_3_12_d0, x_79_3_12_d1, x_79_3_12_d2, x_79_3_12_d3, x_79_3_12_d4, x_4_1, x_63, x_62, x_60, x_11, x_10_4_I, x_10_4_A, x_10_4_U, x_10_3_I, x_10_3_A, x_10_3_U, x_82, cb_ri, cb_rl, cb_rv, cb_th, cb_ite, ps_s, ps_n, u_280_0, u_280_64, u_280_65, u_280_73, u_280_79, Int.reduceEq, Int.reduceLT, Int.reduceLE, reduceIte, Int.reduceAdd, Int.reduceSub, Int.reduceMul, Int.reduceNeg, Int.reduceToNat, Bool.false_eq_true, eq_self, if_pos, if_neg]
    rfl
theorem ag_load (lc lr H N : Nat) (p : Int) (h : Hp) (I : INV h H N) : AGt t2 (fun h => cl (lc + 80) 125 [aA 11 0, aI p] h) (fun h => cl (lr + 80) 283 [aA 12 0, aI p] h) h := by
  have cp := checkPlayer_c (lc + 78) p h
  obtain ⟨L, W, hL, hW, hl⟩ := INV_law I
  by_cases c : 0 ≤ p ∧ p < 3
  · rw [if_pos c] at cp
    refine AGt_q I (v := ((ldV (h 187 0) L H N p : Nat) : Int)) ?_ (fun g s J => ?_)
    · obtain ⟨h1, a1, a2⟩ := loadOf_c (lc + 73) 0 H N p (h 187 0) h L I.1.1 I.1.2.1 W
      refine ⟨h1, ?_, csc_fw a2⟩
      show cl (lc + 80) _ _ _ = _
      rw [in_125]
      simp (disch := omega) only [x_4_1, x_80_1_d0, x_80_1_d1, x_80_1_d2, x_80_1_d3, x_80_1_d4, x_6_0, x_35_0, x_79_3_11_d0, x_79_3_11_d1, x_79_3_11_d2, x_79_3_11_d3, x_79_3_11_d4, x_82, cb_ri, cb_rl, cb_rv, cb_th, cb_ite, ps_s, ps_n, u_125_0, cp, a1]
    · have g7 : hset g 186 0 0 0 187 0 = h 187 0 := by rw [h186_m, Sm_187 s scr_187]
      obtain ⟨h2, a1, a2⟩ := loadOf_m (lr + 42) H N p (hset g 186 0 0 0) L (by rw [g7]; exact hL) (by rw [g7]; exact I.1.2.1) hW hl (INV_186 0 J).2.2.2.2.2
      rw [g7] at a1
      have ip := isPlayer_c (lr + 77) p g
      rw [if_pos c] at ip
      refine ⟨h2, ?_, by rw [a2 _ _ _ (by unfold wiFr loFr mbFr maFr woFr crFr; omega), hs_eq], Sm_t (rsc_186 g 0) (rsc_wi a2)⟩
      show cl (lr + 80) _ _ _ = _
      rw [in_283]
      simp (disch := omega) only [x_6_0, x_4_1, x_80_1_d0, x_80_1_d1, x_80_1_d2, x_80_1_d3, x_80_1_d4, x_69, x_1, x_60, x_61, x_36, x_33, x_73, x_79_2_12_d0, x_79_2_12_d1, x_79_2_12_d2, x_79_2_12_d3, x_79_2_12_d4, x_82, cb_ri, cb_rl, cb_rv, cb_th, cb_ite, ps_s, ps_n, u_283_0, u_283_12, u_283_13, u_283_27, u_283_32, ip, hs_eq, a1, Int.reduceEq, Int.reduceLT, Int.reduceLE, reduceIte, Int.reduceAdd, Int.reduceSub, Int.reduceMul, Int.reduceNeg, Int.reduceToNat, Bool.false_eq_true, eq_self, if_pos, if_neg]
  · rw [if_neg c] at cp
    refine AGt_e I 2 (by decide) ⟨h, ?_, Sm_r _ _⟩ (fun g s J => ⟨0, hset g 186 0 0 1, ?_, hs_eq _ _ _ _ _, rsc_186 g 1⟩)
    · show cl (lc + 80) _ _ _ = _
      rw [in_125]
      simp (disch := omega) only [x_4_1, x_80_1_d0, x_80_1_d1, x_80_1_d2, x_80_1_d3, x_80_1_d4, x_6_0, x_35_0, x_79_3_11_d0, x_79_3_11_d1, x_79_3_11_d2, x_79_3_11_d3, x_79_3_11_d4, x_82, cb_ri, cb_rl, cb_rv, cb_th, cb_ite, ps_s, ps_n, u_125_0, cp]
    · show cl (lr + 80) _ _ _ = _
      have ip := isPlayer_c (lr + 77) p g
      rw [if_neg c] at ip
      rw [in_283]
      simp (disch := omega) only [x_6_0, x_4_1, x_80_1_d0, x_80_1_d1, x_80_1_d2, x_80_1_d3, x_80_1_d4, x_69, x_1, x_60, x_61, x_36, x_33, x_73, x_79_2_12_d0, x_79_2_12_d1, x_79_2_12_d2, x_79_2_12_d3, x_79_2_12_d4, x_82, cb_ri, cb_rl, cb_rv, cb_th, cb_ite, ps_s, ps_n, u_283_0, u_283_12, u_283_13, u_283_27, u_283_32, ip, hs_eq, Int.reduceEq, Int.reduceLT, Int.reduceLE, reduceIte, Int.reduceAdd, Int.reduceSub, Int.reduceMul, Int.reduceNeg, Int.reduceToNat, Bool.false_eq_true, eq_self, if_pos, if_neg]
/-! trades -/
def gpV (M : Nat → Int) (L : List LN) (H N : Nat) (p o : Int) : Int := if (ldV M L H N p : Int) - (ldV M L H N o : Nat) < 0 then -((ldV M L H N p : Int) - (ldV M L H N o : Nat)) else (ldV M L H N p : Int) - (ldV M L H N o : Nat)
def swM (M : Nat → Int) (x y : Nat) (p o : Int) : Nat → Int := upM (upM M (14 + 6 * x) o) (14 + 6 * y) p
def trC (M : Nat → Int) (L : List LN) (H N : Nat) (p o : Int) (x y : Nat) (a : Int × Int) : Int × Int := if (M (14 + 6 * x) = p ∧ M (14 + 6 * y) = o) ∧ gpV (swM M x y p o) L H N p o < a.1 then (gpV (swM M x y p o) L H N p o, 6 * (x : Int) + (y : Int)) else a
def trR (M : Nat → Int) (L : List LN) (H N : Nat) (p o : Int) (x : Nat) (a : Int × Int) (n : Nat) : Int × Int := itr (fun y a => trC M L H N p o x y a) a n
def trF (M : Nat → Int) (L : List LN) (H N : Nat) (p o : Int) (n : Nat) : Int × Int := itr (fun x a => trR M L H N p o x a H) (gpV M L H N p o, -1) n
theorem GM_pl {M : Nat → Int} {H N x : Nat} {v : Int} (hx : x < H) (hv : 0 ≤ v ∧ v ≤ 2) (G : GM M H N) : GM (upM M (14 + 6 * x) v) H N := by
  obtain ⟨⟨a1, a2, a3⟩, ⟨b1, b2, b3, b4⟩, gx⟩ := G
  have u50 : ∀ j, 50 ≤ j → upM M (14 + 6 * x) v j = M j := fun j hj => up_ne (by omega)
  refine ⟨⟨by rw [up_ne (by omega)]; exact a1, a2, fun i hi => ?_⟩, ⟨by rw [up_ne (by omega)]; exact b1, b2, fun n hn => ?_, fun n n' hn hn' hne s1 s2 q => ?_⟩, GX_o (by omega) gx⟩
  · obtain ⟨q0, q1, q2, q3, q4, q5⟩ := a3 i hi
    refine ⟨?_, by rw [up_ne (by omega)]; exact q1, by rw [up_ne (by omega)]; exact q2, by rw [up_ne (by omega)]; exact q3, by rw [up_ne (by omega)]; exact q4, by rw [up_ne (by omega)]; exact q5⟩
    by_cases e : i = x
    · rw [e, up_eq]; exact hv
    · rw [up_ne (by omega)]; exact q0
  · rw [u50 _ (by omega), u50 _ (by omega), u50 _ (by omega), u50 _ (by omega)]; exact b3 n hn
  · unfold stB at s1 s2
    rw [u50 _ (by omega)] at s1 s2
    rw [u50 _ (by omega), u50 _ (by omega)] at q
    rw [u50 _ (by omega), u50 _ (by omega)]
    exact b4 n n' hn hn' hne s1 s2 q
theorem sw_back {M : Nat → Int} {x y : Nat} {p o : Int} (hx : M (14 + 6 * x) = p) (hy : M (14 + 6 * y) = o) (hne : x ≠ y) : upM (upM (swM M x y p o) (14 + 6 * x) p) (14 + 6 * y) o = M := by
  funext j
  unfold swM upM
  by_cases e1 : j = 14 + 6 * y
  · rw [if_pos e1, e1, hy]
  · rw [if_neg e1, if_neg e1]
    by_cases e2 : j = 14 + 6 * x
    · rw [if_pos e2, e2, hx]
    · rw [if_neg e2, if_neg e2]
theorem gp_b (M : Nat → Int) (L : List LN) {H : Nat} (N : Nat) (p o : Int) (hH : H ≤ 6) : 0 ≤ gpV M L H N p o ∧ gpV M L H N p o ≤ 72 := by
  have a := ldV_b M L N p hH
  have b := ldV_b M L N o hH
  unfold gpV
  split <;> omega
theorem loadGap_c (lv H N : Nat) (p o : Int) (M : Nat → Int) (h : Hp) (L : List LN) (R : RS h 1 M H N) (G : GM M H N) (W : LawW h 0 L) : ∃ h', cl (lv + 7) 161 [aA 11 0, aI p, aI o] h = ri (gpV M L H N p o) h' ∧ ∀ tt k j, ¬ fwFr tt k → h' tt k j = h tt k j := by
  have hH := G.1.2.1
  obtain ⟨h1, a1, a2⟩ := loadOf_c lv 1 H N p M h L R G W
  obtain ⟨h2, b1, b2⟩ := loadOf_c lv 1 H N o M h1 L (RS_e (fun t i ht => a2 t 1 i (by unfold stTag at ht; unfold fwFr lwFr; omega)) R) G (LawW_e (fun tt j ht => a2 tt 0 j (by unfold fwFr lwFr; omega)) W)
  have l1 := ldV_b M L N p hH
  have l2 := ldV_b M L N o hH
  have ab := abs_c (lv + 5) ((ldV M L H N p : Int) - (ldV M L H N o : Nat)) h2 (by omega) (by omega)
  refine ⟨h2, ?_, fun tt k j hf => by rw [b2 tt k j hf, a2 tt k j hf]⟩
  rw [in_161]
  simp (disch := omega) only [x_6_0, x_35_1, x_4_1, x_79_3_11_d0, x_79_3_11_d1, x_79_3_11_d2, x_79_3_11_d3, x_79_3_11_d4, x_4_2, x_12, x_80_1_d0, x_80_1_d1, x_80_1_d2, x_80_1_d3, x_80_1_d4, x_82, cb_ri, cb_rl, cb_rv, cb_th, cb_ite, ps_s, ps_n, u_161_0, a1, b1, w32_id, ab]
  rfl
theorem unlike_m (lv H N : Nat) (p o : Int) (h : Hp) (L : List LN) (hL : LM (h 187 0) L) (G : GM (h 187 0) H N) (hW : ∀ x ∈ L, LnG x) (hl : L.length ≤ 12) (ha : h 206 0 0 = -1) : ∃ h', cl (lv + 38) 281 [aA 12 0, aI p, aI o] h = ri (gpV (h 187 0) L H N p o) h' ∧ ∀ tt k j, ¬ wiFr tt k → h' tt k j = h tt k j := by
  have hH := G.1.2.1
  obtain ⟨h1, a1, a2⟩ := loadOf_m lv H N p h L hL G hW hl ha
  have k7 : h1 187 0 = h 187 0 := by funext j; exact a2 _ _ _ (by unfold wiFr loFr mbFr maFr woFr crFr; omega)
  obtain ⟨h2, b1, b2⟩ := loadOf_m lv H N o h1 L (by rw [k7]; exact hL) (by rw [k7]; exact G) hW hl (by rw [a2 _ _ _ (by unfold wiFr loFr mbFr maFr woFr crFr; omega)]; exact ha)
  rw [k7] at b1
  have l1 := ldV_b (h 187 0) L N p hH
  have l2 := ldV_b (h 187 0) L N o hH
  refine ⟨h2, ?_, fun tt k j hf => by rw [b2 tt k j hf, a2 tt k j hf]⟩
  unfold gpV
  rw [in_281]
  by_cases c : ((ldV (h 187 0) L H N p : Int) - (ldV (h 187 0) L H N o : Nat)) < 0
  · rw [if_pos c]
    simp (disch := omega) only [x_6_0, x_4_1, x_79_2_12_d0, x_79_2_12_d1, x_79_2_12_d2, x_79_2_12_d3, x_79_2_12_d4, x_4_2, x_12, x_7_3_I, x_7_3_A, x_7_3_U, x_4_3, x_71, x_16, x_60, x_61, x_82, cb_ri, cb_rl, cb_rv, cb_th, cb_ite, ps_s, ps_n, u_281_0, u_281_21, u_281_22, a1, b1, w32_id, c, Int.reduceEq, Int.reduceLT, Int.reduceLE, reduceIte, Int.reduceAdd, Int.reduceSub, Int.reduceMul, Int.reduceNeg, Int.reduceToNat, Bool.false_eq_true, eq_self, if_pos, if_neg]
  · rw [if_neg c]
    simp (disch := omega) only [x_6_0, x_4_1, x_79_2_12_d0, x_79_2_12_d1, x_79_2_12_d2, x_79_2_12_d3, x_79_2_12_d4, x_4_2, x_12, x_7_3_I, x_7_3_A, x_7_3_U, x_4_3, x_71, x_16, x_60, x_61, x_82, cb_ri, cb_rl, cb_rv, cb_th, cb_ite, ps_s, ps_n, u_281_0, u_281_21, u_281_22, a1, b1, w32_id, c, Int.reduceEq, Int.reduceLT, Int.reduceLE, reduceIte, Int.reduceAdd, Int.reduceSub, Int.reduceMul, Int.reduceNeg, Int.reduceToNat, Bool.false_eq_true, eq_self, if_pos, if_neg]
