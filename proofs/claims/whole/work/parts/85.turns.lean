/-! THE REFERENCE PLAYS A BEAT. -/
theorem x_79_3_12_f5 {E : Nat → List AV → List AV → Hp → Option Rs} {C : Nat → List AV → Hp → Option Rs} {L : List AC} {σ : List AV} {h : Hp} {b : Nat} {v1 v2 : AV} {x1 x2 x3 x4 : Int} {t5 k5 k : Nat} : ex E C ((79, 12, b, 3) :: L) σ [v2, v1, aA 12 k, aI x1, aI x2, aI x3, aI x4, aA t5 k5] h = cbind (C b [aA 12 k, v1, v2] h) (fun v h2 => ex E C L σ (psh v [aI x1, aI x2, aI x3, aI x4, aA t5 k5]) h2) (onTh E σ none) := by simp [ex, ctl, tk, ccall, rcv, aA, aI, wd, isJ]
theorem hs_187 (q : Hp) (j : Nat) (v : Int) : hset q 187 0 j v 187 0 = upM (q 187 0) j v := by rw [hs_M, sM_0]
theorem draw_m (lv : Nat) (h : Hp) : cl (lv + 1) 226 [aA 12 0, aI 100] h = ri (slV (h 187 0 13)) (hset h 187 0 13 (nxS (h 187 0 13))) := by
  have e1 : w32 (w32 (1103515245 * h 187 0 13) + 12345) = nxS (h 187 0 13) := rfl
  have e2 : irem (iand (iushr (nxS (h 187 0 13)) 16) 32767) 100 = slV (h 187 0 13) := rfl
  rw [in_226]
  simp (disch := omega) only [x_6_0, x_34, x_1, x_38_187, x_13, x_11, x_39_187, x_22, x_17, x_4_1, x_15, x_82, u_226_0, e1, hs_eq, e2, Int.reduceEq, Int.reduceLT, Int.reduceLE, reduceIte, Int.reduceAdd, Int.reduceSub, Int.reduceMul, Int.reduceNeg, Int.reduceToNat, Bool.false_eq_true, eq_self, if_pos, if_neg]
theorem thirdOf_m (lv H N : Nat) (h : Hp) (L : List LN) (P ho0 : Nat → Bool) (hL : LM (h 187 0) L) (G : GM (h 187 0) H N) (Y : ∀ n, n < N → (h 210 0 n = -1 ↔ ho0 n = true)) :
    ∃ h', cl (lv + 34) 229 [aA 12 0, aI ((bsN P N : Nat) : Int)] h = ri ((bsN (fun n => (P n && ho0 n) && takB (h 187 0) L n (h 187 0 (50 + 4 * n))) N : Nat) : Int) h' ∧ ∀ tt k j, ¬ mbFr tt k → h' tt k j = h tt k j := by
  have hN := G.2.1.2.1
  have main := loop_p (S := Hp) (F := fun n (q : Hp) => run (lv + 33) 229 4 [aA 12 0, aI ((bsN P N : Nat) : Int), aI ((bsN (fun n => (P n && ho0 n) && takB (h 187 0) L n (h 187 0 (50 + 4 * n))) n : Nat) : Int), aI (n : Int)] [] q)
    (I := fun n q => ∀ tt k j, ¬ mbFr tt k → q tt k j = h tt k j)
    (Q := fun r => ∃ h', r = ri ((bsN (fun n => (P n && ho0 n) && takB (h 187 0) L n (h 187 0 (50 + 4 * n))) N : Nat) : Int) h' ∧ ∀ tt k j, ¬ mbFr tt k → h' tt k j = h tt k j) (N := N) ?_ ?_ h (fun _ _ _ _ => rfl)
  · rw [in_229]
    simp (disch := omega) only [x_1, x_7_2_I, x_7_2_A, x_7_2_U, x_7_3_I, x_7_3_A, x_7_3_U, x_61, x_4_3, x_6_0, x_34, x_38_187, x_38_210, x_65, x_4_2, x_4_1, x_80_2_d0, x_80_2_d1, x_80_2_d2, x_80_2_d3, x_80_2_d4, x_68, x_63, x_79_2_12_d0, x_79_2_12_d1, x_79_2_12_d2, x_79_2_12_d3, x_79_2_12_d4, x_20, x_60, x_18, x_10_3_I, x_10_3_A, x_10_3_U, x_82, cb_ri, cb_rl, cb_rv, cb_th, cb_ite, ps_s, ps_n, u_229_0, u_229_47, u_229_48, u_229_56]
    exact main
  · intro n q hn hq
    have g7 : q 187 0 = h 187 0 := by funext j; exact hq _ _ _ (by unfold mbFr maFr; omega)
    have n4 : q 187 0 4 = (N : Int) := by rw [g7]; exact G.2.1.1
    have io := isOf_c (lv + 32) (bsN P N) n q (Nat.lt_of_lt_of_le (bsN_mono P hN) (by omega)) (by omega)
    rw [bsN_bit, show (decide (n < N) && P n) = P n by simp [hn]] at io
    have y := Y n hn
    rw [← hq 210 0 n (by unfold mbFr maFr; omega)] at y
    obtain ⟨q1, t1, t2⟩ := takes_m lv n H N q L (by rw [g7]; exact hL) (by rw [g7]; exact G) hn
    rw [g7] at t1
    have zo : ior ((bsN (fun n => (P n && ho0 n) && takB (h 187 0) L n (h 187 0 (50 + 4 * n))) n : Nat) : Int) 0 = ((bsN (fun n => (P n && ho0 n) && takB (h 187 0) L n (h 187 0 (50 + 4 * n))) n : Nat) : Int) := by
      rw [show (0 : Int) = ((0 : Nat) : Int) from rfl, ior_n (bsN_mono _ (by omega)) (by omega), Nat.or_zero]
    have so := bs_or (fun n => (P n && ho0 n) && takB (h 187 0) L n (h 187 0 (50 + 4 * n))) (show n < 31 by omega)
    by_cases c1 : P n = true
    · rw [if_pos c1] at io
      by_cases c2 : q 210 0 n = -1
      · have c2' := y.mp c2
        cases c3 : takB (h 187 0) L n (h 187 0 (50 + 4 * n)) with
        | true =>
          rw [c3] at t1
          have t1 : _ = ri 1 q1 := t1
          refine ⟨q1, ?_, fun tt k j hf => by rw [t2 tt k j hf]; exact hq tt k j hf⟩
          try simp only
          rw [bs_s _ (by simp [c1, c2', c3]), hd_229_4]
          simp (disch := omega) only [x_1, x_7_2_I, x_7_2_A, x_7_2_U, x_7_3_I, x_7_3_A, x_7_3_U, x_61, x_4_3, x_6_0, x_34, x_38_187, x_38_210, x_65, x_4_2, x_4_1, x_80_2_d0, x_80_2_d1, x_80_2_d2, x_80_2_d3, x_80_2_d4, x_68, x_63, x_79_2_12_d0, x_79_2_12_d1, x_79_2_12_d2, x_79_2_12_d3, x_79_2_12_d4, x_20, x_60, x_18, x_10_3_I, x_10_3_A, x_10_3_U, x_82, cb_ri, cb_rl, cb_rv, cb_th, cb_ite, ps_s, ps_n, u_229_0, u_229_47, u_229_48, u_229_56, n4, io, tn, c2, t1, so, Int.reduceEq, Int.reduceLT, Int.reduceLE, reduceIte, Int.reduceAdd, Int.reduceSub, Int.reduceMul, Int.reduceNeg, Int.reduceToNat, Bool.false_eq_true, eq_self, if_pos, if_neg, ci, w32_id]
        | false =>
          rw [c3] at t1
          have t1 : _ = ri 0 q1 := t1
          refine ⟨q1, ?_, fun tt k j hf => by rw [t2 tt k j hf]; exact hq tt k j hf⟩
          try simp only
          rw [bs_f _ (by simp [c3]), hd_229_4]
          simp (disch := omega) only [x_1, x_7_2_I, x_7_2_A, x_7_2_U, x_7_3_I, x_7_3_A, x_7_3_U, x_61, x_4_3, x_6_0, x_34, x_38_187, x_38_210, x_65, x_4_2, x_4_1, x_80_2_d0, x_80_2_d1, x_80_2_d2, x_80_2_d3, x_80_2_d4, x_68, x_63, x_79_2_12_d0, x_79_2_12_d1, x_79_2_12_d2, x_79_2_12_d3, x_79_2_12_d4, x_20, x_60, x_18, x_10_3_I, x_10_3_A, x_10_3_U, x_82, cb_ri, cb_rl, cb_rv, cb_th, cb_ite, ps_s, ps_n, u_229_0, u_229_47, u_229_48, u_229_56, n4, io, tn, c2, t1, zo, Int.reduceEq, Int.reduceLT, Int.reduceLE, reduceIte, Int.reduceAdd, Int.reduceSub, Int.reduceMul, Int.reduceNeg, Int.reduceToNat, Bool.false_eq_true, eq_self, if_pos, if_neg, ci, w32_id]
      · have c2' : ho0 n = false := by
          cases z : ho0 n with
          | false => rfl
          | true => exact absurd (y.mpr z) c2
        refine ⟨q, ?_, hq⟩
        try simp only
        rw [bs_f _ (by simp [c2']), hd_229_4]
        simp (disch := omega) only [x_1, x_7_2_I, x_7_2_A, x_7_2_U, x_7_3_I, x_7_3_A, x_7_3_U, x_61, x_4_3, x_6_0, x_34, x_38_187, x_38_210, x_65, x_4_2, x_4_1, x_80_2_d0, x_80_2_d1, x_80_2_d2, x_80_2_d3, x_80_2_d4, x_68, x_63, x_79_2_12_d0, x_79_2_12_d1, x_79_2_12_d2, x_79_2_12_d3, x_79_2_12_d4, x_20, x_60, x_18, x_10_3_I, x_10_3_A, x_10_3_U, x_82, cb_ri, cb_rl, cb_rv, cb_th, cb_ite, ps_s, ps_n, u_229_0, u_229_47, u_229_48, u_229_56, n4, io, tn, c2, zo, Int.reduceEq, Int.reduceLT, Int.reduceLE, reduceIte, Int.reduceAdd, Int.reduceSub, Int.reduceMul, Int.reduceNeg, Int.reduceToNat, Bool.false_eq_true, eq_self, if_pos, if_neg, ci, w32_id]
    · rw [if_neg c1] at io
      refine ⟨q, ?_, hq⟩
      try simp only
      rw [bs_f _ (by simp [c1]), hd_229_4]
      simp (disch := omega) only [x_1, x_7_2_I, x_7_2_A, x_7_2_U, x_7_3_I, x_7_3_A, x_7_3_U, x_61, x_4_3, x_6_0, x_34, x_38_187, x_38_210, x_65, x_4_2, x_4_1, x_80_2_d0, x_80_2_d1, x_80_2_d2, x_80_2_d3, x_80_2_d4, x_68, x_63, x_79_2_12_d0, x_79_2_12_d1, x_79_2_12_d2, x_79_2_12_d3, x_79_2_12_d4, x_20, x_60, x_18, x_10_3_I, x_10_3_A, x_10_3_U, x_82, cb_ri, cb_rl, cb_rv, cb_th, cb_ite, ps_s, ps_n, u_229_0, u_229_47, u_229_48, u_229_56, n4, io, zo, Int.reduceEq, Int.reduceLT, Int.reduceLE, reduceIte, Int.reduceAdd, Int.reduceSub, Int.reduceMul, Int.reduceNeg, Int.reduceToNat, Bool.false_eq_true, eq_self, if_pos, if_neg, ci, w32_id]
  · intro q hq
    have n4 : q 187 0 4 = (N : Int) := by rw [hq _ _ _ (by unfold mbFr maFr; omega)]; exact G.2.1.1
    refine ⟨q, ?_, hq⟩
    try simp only
    rw [hd_229_4]
    simp (disch := omega) only [x_1, x_7_2_I, x_7_2_A, x_7_2_U, x_7_3_I, x_7_3_A, x_7_3_U, x_61, x_4_3, x_6_0, x_34, x_38_187, x_38_210, x_65, x_4_2, x_4_1, x_80_2_d0, x_80_2_d1, x_80_2_d2, x_80_2_d3, x_80_2_d4, x_68, x_63, x_79_2_12_d0, x_79_2_12_d1, x_79_2_12_d2, x_79_2_12_d3, x_79_2_12_d4, x_20, x_60, x_18, x_10_3_I, x_10_3_A, x_10_3_U, x_82, cb_ri, cb_rl, cb_rv, cb_th, cb_ite, ps_s, ps_n, u_229_0, u_229_47, u_229_48, u_229_56, n4, Int.reduceEq, Int.reduceLT, Int.reduceLE, reduceIte, Int.reduceAdd, Int.reduceSub, Int.reduceMul, Int.reduceNeg, Int.reduceToNat, Bool.false_eq_true, eq_self, if_pos, if_neg]
/-- the log's length is in its bounds -/
def GL (m : Nat → Int) : Prop := 0 ≤ m 12 ∧ m 12 ≤ 60
theorem GL_log {m : Nat → Int} {n hd : Int} {kd : Nat} (hk : kd < 4) (g : GL m) : GL (logM m n hd kd) := by
  unfold GL at g ⊢
  unfold logM
  rw [if_neg (by omega), if_pos rfl]
  omega
theorem GL_up {m : Nat → Int} {j : Nat} {v : Int} (hj : j ≠ 12) (g : GL m) : GL (upM m j v) := by unfold GL; rw [up_ne (fun e => hj e.symm)]; exact g
theorem GL_hl {m : Nat → Int} {n x : Nat} {dr : Bool} (g : GL m) : GL (hlM n x dr m) := by
  have hk : kdH dr m < 4 := by unfold kdH; split <;> omega
  unfold hlM
  refine GL_up (by omega) (GL_up (by omega) (GL_log hk ?_))
  split
  · exact GL_up (by omega) g
  · exact g
theorem GL_itr {f : Nat → (Nat → Int) → (Nat → Int)} {m : Nat → Int} (hf : ∀ i m, GL m → GL (f i m)) (g : GL m) : ∀ i, GL (itr f m i) := by
  intro i
  induction i with
  | zero => exact g
  | succ i ih => exact hf i _ ih
theorem GL_p1 {w : WS} {dr : Bool} : ∀ i m, GL m → GL (p1M w dr i m) := by
  intro i m g; unfold p1M; split; exact g; exact GL_hl g
theorem GL_p2 {w : WS} : ∀ i m, GL m → GL (p2M w i m) := by
  intro i m g; unfold p2M; split; exact GL_up (by omega) g; exact g
theorem GL_p3 {P T : Nat → Bool} : ∀ i m, GL m → GL (p3M P T i m) := by
  intro i m g; unfold p3M lvM; split; exact GL_log (by split <;> omega) g; exact g
theorem GL_pb {m : Nat → Int} (g : GL m) : GL (pbM m) := by
  unfold pbM; split; exact GL_up (by omega) (GL_up (by omega) g); exact GL_up (by omega) g
theorem GL_pl {M : Nat → Int} {L : List LN} {H N : Nat} {dr : Bool} (g : GL M) : GL (plM M L H N dr) := GL_pb (GL_itr GL_p3 (GL_itr GL_p2 (GL_itr GL_p1 g N) H) N)
def tuFr (tt k : Nat) : Prop := wiFr tt k ∨ (tt = 187 ∧ k = 0)
theorem turns_m (lv H N : Nat) (dr : Bool) (h : Hp) (L : List LN) (hL : LM (h 187 0) L) (G : GM (h 187 0) H N) (g12 : GL (h 187 0)) (hW : ∀ x ∈ L, LnG x) (hl : L.length ≤ 12) (ha : h 206 0 0 = -1) :
    ∃ h', cl (lv + 38) 228 [aA 12 0, aI (boI dr)] h = ri ((cnt (lfP (h 187 0) L H N (h 187 0 5)) N : Nat) : Int) h' ∧ h' 187 0 = plM (h 187 0) L H N dr ∧ ∀ tt k j, ¬ tuFr tt k → h' tt k j = h tt k j := by
  have hH := G.1.2.1
  have hN := G.2.1.2.1
  obtain ⟨h1, a1, a2, a3, a4⟩ := wayIn_m lv H N (h 187 0 5) h L hL G hW hl ha
  have q7 : h1 187 0 = h 187 0 := by funext j; exact a4 _ _ _ (by unfold wiFr loFr mbFr maFr woFr crFr; omega)
  have no := notesOf_c (lv + 34) N (h 187 0 5) h G.2.1.1 hN
  have tyw : ∀ n, n < N → (h1 210 0 n = -1 ↔ decide ((wayW (h 187 0) L H N (h 187 0 5)).2.1 n = -1) = true) := fun n hn => by rw [a2.1 n (by omega), decide_eq_true_eq]
  obtain ⟨h2, b1, b2⟩ := thirdOf_m (lv + 3) H N h1 L (atB (h 187 0) (h 187 0 5)) (fun n => decide ((wayW (h 187 0) L H N (h 187 0 5)).2.1 n = -1)) (by rw [q7]; exact hL) (by rw [q7]; exact G) tyw
  rw [q7] at b1
  have r7 : h2 187 0 = h 187 0 := by funext j; rw [b2 _ _ _ (by unfold mbFr maFr; omega), q7]
  have Y : WyM h2 (wayW (h 187 0) L H N (h 187 0 5)) := ⟨fun n hn => by rw [b2 _ _ _ (by unfold mbFr maFr; omega)]; exact a2.1 n hn, fun i hi => by rw [b2 _ _ _ (by unfold mbFr maFr; omega)]; exact a2.2 i hi⟩
  have fr2 : ∀ tt k j, ¬ tuFr tt k → h2 tt k j = h tt k j := fun tt k j hf => by
    rw [b2 tt k j (fun z => hf (Or.inl (Or.inl (Or.inl z)))), a4 tt k j (fun z => hf (Or.inl z))]
  have hwi := way_inv (h 187 0) L H N (h 187 0 5)
  have lf0 : ∀ n, n < N → lfP (h 187 0) L H N (h 187 0 5) n = (atB (h 187 0) (h 187 0 5) n && decide ((wayW (h 187 0) L H N (h 187 0 5)).2.1 n = -1)) := fun n _ => rfl
  generalize hw : wayW (h 187 0) L H N (h 187 0 5) = w at Y hwi lf0 b1
  generalize hP : lfP (h 187 0) L H N (h 187 0 5) = lf at lf0
  -- the notes that are left over
  have L3 : ∀ (q : Hp) (m : Nat → Int), q 187 0 = m → GM m H N → GL m → (∀ tt k j, ¬ (tt = 187 ∧ k = 0) → q tt k j = h2 tt k j) → ∃ h', run (lv + 37) 228 207 [aA 12 0, aI (boI dr), aI ((bsN (atB (h 187 0) (h 187 0 5)) N : Nat) : Int), aI ((bsN (fun n => (atB (h 187 0) (h 187 0 5) n && decide (w.2.1 n = -1)) && takB (h 187 0) L n (h 187 0 (50 + 4 * n))) N : Nat) : Int), aI 0, aI 0] [] q = ri ((cnt lf N : Nat) : Int) h' ∧ h' 187 0 = pbM (itr (p3M lf (fun n => takB (h 187 0) L n (h 187 0 (50 + 4 * n)))) m N) ∧ ∀ tt k j, ¬ (tt = 187 ∧ k = 0) → h' tt k j = h2 tt k j := by
    intro q m hq Gm glm hf0
    refine loop_p (S := Hp) (F := fun n (q : Hp) => run (lv + 37) 228 207 [aA 12 0, aI (boI dr), aI ((bsN (atB (h 187 0) (h 187 0 5)) N : Nat) : Int), aI ((bsN (fun n => (atB (h 187 0) (h 187 0 5) n && decide (w.2.1 n = -1)) && takB (h 187 0) L n (h 187 0 (50 + 4 * n))) N : Nat) : Int), aI ((cnt lf n : Nat) : Int), aI (n : Int)] [] q)
      (I := fun n q => q 187 0 = itr (p3M lf (fun n => takB (h 187 0) L n (h 187 0 (50 + 4 * n)))) m n ∧ ∀ tt k j, ¬ (tt = 187 ∧ k = 0) → q tt k j = h2 tt k j)
      (Q := fun r => ∃ h', r = ri ((cnt lf N : Nat) : Int) h' ∧ h' 187 0 = pbM (itr (p3M lf (fun n => takB (h 187 0) L n (h 187 0 (50 + 4 * n)))) m N) ∧ ∀ tt k j, ¬ (tt = 187 ∧ k = 0) → h' tt k j = h2 tt k j) (N := N) ?_ ?_ q ⟨hq, hf0⟩
    · rintro n q hn ⟨i1, i2⟩
      obtain ⟨Gn, -⟩ := itr_ok (f := p3M lf (fun n => takB (h 187 0) L n (h 187 0 (50 + 4 * n)))) (K := N) p3_ok Gm n (by omega)
      have gl := GL_itr (f := p3M lf (fun n => takB (h 187 0) L n (h 187 0 (50 + 4 * n)))) GL_p3 glm n
      show ∃ s' : Hp, _ ∧ s' 187 0 = p3M lf (fun n => takB (h 187 0) L n (h 187 0 (50 + 4 * n))) n (itr (p3M lf (fun n => takB (h 187 0) L n (h 187 0 (50 + 4 * n)))) m n) ∧ _
      generalize itr (p3M lf (fun n => takB (h 187 0) L n (h 187 0 (50 + 4 * n)))) m n = m' at i1 Gn gl
      have n4 : q 187 0 4 = (N : Int) := by rw [i1]; exact Gn.2.1.1
      have io := isOf_c (lv + 36) (bsN (atB (h 187 0) (h 187 0 5)) N) n q (Nat.lt_of_lt_of_le (bsN_mono _ hN) (by omega)) (by omega)
      rw [bsN_bit, show (decide (n < N) && atB (h 187 0) (h 187 0 5) n) = atB (h 187 0) (h 187 0 5) n by simp [hn]] at io
      have it := isOf_c (lv + 36) (bsN (fun n => (atB (h 187 0) (h 187 0 5) n && decide (w.2.1 n = -1)) && takB (h 187 0) L n (h 187 0 (50 + 4 * n))) N) n q (Nat.lt_of_lt_of_le (bsN_mono _ hN) (by omega)) (by omega)
      rw [bsN_bit] at it
      have y : q 210 0 n = w.2.1 n := by rw [i2 _ _ _ (by omega)]; exact Y.1 n (by omega)
      have lfn := lf0 n hn
      have cln := cnt_le lf n
      simp only [cnt]
      by_cases c1 : atB (h 187 0) (h 187 0 5) n = true
      · rw [if_pos c1] at io
        by_cases c2 : w.2.1 n = -1
        · rw [c1, decide_eq_true c2] at lfn
          have lfn : lf n = true := lfn
          rw [c2] at y
          have c3 := G.2.1.2.2.1 n hn
          simp only [show (decide (n < N) && ((atB (h 187 0) (h 187 0 5) n && decide (w.2.1 n = -1)) && takB (h 187 0) L n (h 187 0 (50 + 4 * n)))) = takB (h 187 0) L n (h 187 0 (50 + 4 * n)) by simp [hn, c1, c2]] at it
          unfold p3M lvM
          rw [if_pos lfn, if_pos lfn]
          cases c4 : takB (h 187 0) L n (h 187 0 (50 + 4 * n)) with
          | true =>
            rw [c4, if_pos rfl] at it
            have lg := logs_c (lv + 35) (n : Int) (-1) 2 q (by omega) (by rw [i1]; exact gl) (by rw [i1]; exact Gn.2.2.2.2.2.2 2 (by omega))
            rw [i1] at lg
            have lg : cl (lv + 37) 227 [aA 12 0, aI (n : Int), aI (-1), aI 2] q = rv (setM q (logM m' (n : Int) (-1) 2)) := lg
            refine ⟨setM q (logM m' (n : Int) (-1) 2), ?_, by rw [sM_0]; simp only [c4, if_true], fun tt k j hf => by unfold setM; rw [if_neg hf]; exact i2 tt k j hf⟩
            try simp only
            rw [hd_228_207]
            simp (disch := omega) only [x_6_0, x_34, x_1, x_38_187, x_38_210, x_38_211, x_79_2_12_d0, x_79_2_12_d1, x_79_2_12_d2, x_79_2_12_d3, x_79_2_12_d4, x_7_2_I, x_7_2_A, x_7_2_U, x_4_2, x_7_3_I, x_7_3_A, x_7_3_U, x_7_4_I, x_7_4_A, x_7_4_U, x_61, x_4_4, x_65, x_7_5_I, x_7_5_A, x_7_5_U, x_80_2_d0, x_80_2_d1, x_80_2_d2, x_80_2_d3, x_80_2_d4, x_68, x_4_5, x_63, x_60, x_4_1, x_79_4_12_d0, x_79_4_12_d1, x_79_4_12_d2, x_79_4_12_d3, x_79_4_12_d4, x_79_3_12_d0, x_79_3_12_d1, x_79_3_12_d2, x_79_3_12_d3, x_79_3_12_d4, x_11, x_10_4_I, x_10_4_A, x_10_4_U, x_12, x_62, x_4_3, x_10_5_I, x_10_5_A, x_10_5_U, x_48, x_39_187, x_39_210, x_39_211, x_82, cb_ri, cb_rl, cb_rv, cb_th, cb_ite, ps_s, ps_n, u_228_0, u_228_68, u_228_97, u_228_98, u_228_144, u_228_150, u_228_195, u_228_201, u_228_241, u_228_258, u_228_259, u_228_265, u_228_271, u_228_321, n4, io, it, tn, y, lg, Int.reduceEq, Int.reduceLT, Int.reduceLE, reduceIte, Int.reduceAdd, Int.reduceSub, Int.reduceMul, Int.reduceNeg, Int.reduceToNat, Bool.false_eq_true, eq_self, if_pos, if_neg, ci, w32_id]
          | false =>
            rw [c4, if_neg Bool.false_ne_true] at it
            have lg := logs_c (lv + 35) (n : Int) (-1) 3 q (by omega) (by rw [i1]; exact gl) (by rw [i1]; exact Gn.2.2.2.2.2.2 3 (by omega))
            rw [i1] at lg
            have lg : cl (lv + 37) 227 [aA 12 0, aI (n : Int), aI (-1), aI 3] q = rv (setM q (logM m' (n : Int) (-1) 3)) := lg
            refine ⟨setM q (logM m' (n : Int) (-1) 3), ?_, by rw [sM_0]; simp only [c4]; rfl, fun tt k j hf => by unfold setM; rw [if_neg hf]; exact i2 tt k j hf⟩
            try simp only
            rw [hd_228_207]
            simp (disch := omega) only [x_6_0, x_34, x_1, x_38_187, x_38_210, x_38_211, x_79_2_12_d0, x_79_2_12_d1, x_79_2_12_d2, x_79_2_12_d3, x_79_2_12_d4, x_7_2_I, x_7_2_A, x_7_2_U, x_4_2, x_7_3_I, x_7_3_A, x_7_3_U, x_7_4_I, x_7_4_A, x_7_4_U, x_61, x_4_4, x_65, x_7_5_I, x_7_5_A, x_7_5_U, x_80_2_d0, x_80_2_d1, x_80_2_d2, x_80_2_d3, x_80_2_d4, x_68, x_4_5, x_63, x_60, x_4_1, x_79_4_12_d0, x_79_4_12_d1, x_79_4_12_d2, x_79_4_12_d3, x_79_4_12_d4, x_79_3_12_d0, x_79_3_12_d1, x_79_3_12_d2, x_79_3_12_d3, x_79_3_12_d4, x_11, x_10_4_I, x_10_4_A, x_10_4_U, x_12, x_62, x_4_3, x_10_5_I, x_10_5_A, x_10_5_U, x_48, x_39_187, x_39_210, x_39_211, x_82, cb_ri, cb_rl, cb_rv, cb_th, cb_ite, ps_s, ps_n, u_228_0, u_228_68, u_228_97, u_228_98, u_228_144, u_228_150, u_228_195, u_228_201, u_228_241, u_228_258, u_228_259, u_228_265, u_228_271, u_228_321, n4, io, it, tn, y, lg, Int.reduceEq, Int.reduceLT, Int.reduceLE, reduceIte, Int.reduceAdd, Int.reduceSub, Int.reduceMul, Int.reduceNeg, Int.reduceToNat, Bool.false_eq_true, eq_self, if_pos, if_neg, ci, w32_id]
        · rw [decide_eq_false c2, Bool.and_false] at lfn
          unfold p3M
          rw [if_neg (by rw [lfn]; exact Bool.false_ne_true), if_neg (by rw [lfn]; exact Bool.false_ne_true)]
          refine ⟨q, ?_, i1, i2⟩
          try simp only
          rw [hd_228_207]
          simp (disch := omega) only [x_6_0, x_34, x_1, x_38_187, x_38_210, x_38_211, x_79_2_12_d0, x_79_2_12_d1, x_79_2_12_d2, x_79_2_12_d3, x_79_2_12_d4, x_7_2_I, x_7_2_A, x_7_2_U, x_4_2, x_7_3_I, x_7_3_A, x_7_3_U, x_7_4_I, x_7_4_A, x_7_4_U, x_61, x_4_4, x_65, x_7_5_I, x_7_5_A, x_7_5_U, x_80_2_d0, x_80_2_d1, x_80_2_d2, x_80_2_d3, x_80_2_d4, x_68, x_4_5, x_63, x_60, x_4_1, x_79_4_12_d0, x_79_4_12_d1, x_79_4_12_d2, x_79_4_12_d3, x_79_4_12_d4, x_79_3_12_d0, x_79_3_12_d1, x_79_3_12_d2, x_79_3_12_d3, x_79_3_12_d4, x_11, x_10_4_I, x_10_4_A, x_10_4_U, x_12, x_62, x_4_3, x_10_5_I, x_10_5_A, x_10_5_U, x_48, x_39_187, x_39_210, x_39_211, x_82, cb_ri, cb_rl, cb_rv, cb_th, cb_ite, ps_s, ps_n, u_228_0, u_228_68, u_228_97, u_228_98, u_228_144, u_228_150, u_228_195, u_228_201, u_228_241, u_228_258, u_228_259, u_228_265, u_228_271, u_228_321, n4, io, tn, y, c2, Int.reduceEq, Int.reduceLT, Int.reduceLE, reduceIte, Int.reduceAdd, Int.reduceSub, Int.reduceMul, Int.reduceNeg, Int.reduceToNat, Bool.false_eq_true, eq_self, if_pos, if_neg, ci, w32_id, Nat.add_zero]
      · rw [if_neg c1] at io
        rw [Bool.eq_false_iff.mpr c1, Bool.false_and] at lfn
        unfold p3M
        rw [if_neg (by rw [lfn]; exact Bool.false_ne_true), if_neg (by rw [lfn]; exact Bool.false_ne_true)]
        refine ⟨q, ?_, i1, i2⟩
        try simp only
        rw [hd_228_207]
        simp (disch := omega) only [x_6_0, x_34, x_1, x_38_187, x_38_210, x_38_211, x_79_2_12_d0, x_79_2_12_d1, x_79_2_12_d2, x_79_2_12_d3, x_79_2_12_d4, x_7_2_I, x_7_2_A, x_7_2_U, x_4_2, x_7_3_I, x_7_3_A, x_7_3_U, x_7_4_I, x_7_4_A, x_7_4_U, x_61, x_4_4, x_65, x_7_5_I, x_7_5_A, x_7_5_U, x_80_2_d0, x_80_2_d1, x_80_2_d2, x_80_2_d3, x_80_2_d4, x_68, x_4_5, x_63, x_60, x_4_1, x_79_4_12_d0, x_79_4_12_d1, x_79_4_12_d2, x_79_4_12_d3, x_79_4_12_d4, x_79_3_12_d0, x_79_3_12_d1, x_79_3_12_d2, x_79_3_12_d3, x_79_3_12_d4, x_11, x_10_4_I, x_10_4_A, x_10_4_U, x_12, x_62, x_4_3, x_10_5_I, x_10_5_A, x_10_5_U, x_48, x_39_187, x_39_210, x_39_211, x_82, cb_ri, cb_rl, cb_rv, cb_th, cb_ite, ps_s, ps_n, u_228_0, u_228_68, u_228_97, u_228_98, u_228_144, u_228_150, u_228_195, u_228_201, u_228_241, u_228_258, u_228_259, u_228_265, u_228_271, u_228_321, n4, io, Int.reduceEq, Int.reduceLT, Int.reduceLE, reduceIte, Int.reduceAdd, Int.reduceSub, Int.reduceMul, Int.reduceNeg, Int.reduceToNat, Bool.false_eq_true, eq_self, if_pos, if_neg, ci, w32_id, Nat.add_zero]
    · rintro q ⟨i1, i2⟩
      obtain ⟨Gn, -⟩ := itr_ok (f := p3M lf (fun n => takB (h 187 0) L n (h 187 0 (50 + 4 * n)))) (K := N) p3_ok Gm N (Nat.le_refl _)
      generalize itr (p3M lf (fun n => takB (h 187 0) L n (h 187 0 (50 + 4 * n)))) m N = m' at i1 Gn
      have n4 : q 187 0 4 = (N : Int) := by rw [i1]; exact Gn.2.1.1
      have g5 := Gn.2.2.2.1
      have g6 := Gn.2.2.2.2.1
      have q5 : q 187 0 5 = m' 5 := by rw [i1]
      have q6 : q 187 0 6 = m' 6 := by rw [i1]
      unfold pbM
      by_cases c : m' 5 + 1 = 12
      · rw [if_pos c]
        refine ⟨hset (hset (hset q 187 0 5 (m' 5 + 1)) 187 0 5 0) 187 0 6 (min 9999 (m' 6 + 1)), ?_, by rw [hs_187, hs_187, hs_187, i1, up_up], fun tt k j hf => by rw [hs_o (by omega), hs_o (by omega), hs_o (by omega)]; exact i2 tt k j hf⟩
        try simp only
        rw [hd_228_207]
        simp (disch := omega) only [x_6_0, x_34, x_1, x_38_187, x_38_210, x_38_211, x_79_2_12_d0, x_79_2_12_d1, x_79_2_12_d2, x_79_2_12_d3, x_79_2_12_d4, x_7_2_I, x_7_2_A, x_7_2_U, x_4_2, x_7_3_I, x_7_3_A, x_7_3_U, x_7_4_I, x_7_4_A, x_7_4_U, x_61, x_4_4, x_65, x_7_5_I, x_7_5_A, x_7_5_U, x_80_2_d0, x_80_2_d1, x_80_2_d2, x_80_2_d3, x_80_2_d4, x_68, x_4_5, x_63, x_60, x_4_1, x_79_4_12_d0, x_79_4_12_d1, x_79_4_12_d2, x_79_4_12_d3, x_79_4_12_d4, x_79_3_12_d0, x_79_3_12_d1, x_79_3_12_d2, x_79_3_12_d3, x_79_3_12_d4, x_11, x_10_4_I, x_10_4_A, x_10_4_U, x_12, x_62, x_4_3, x_10_5_I, x_10_5_A, x_10_5_U, x_48, x_39_187, x_39_210, x_39_211, x_82, cb_ri, cb_rl, cb_rv, cb_th, cb_ite, ps_s, ps_n, u_228_0, u_228_68, u_228_97, u_228_98, u_228_144, u_228_150, u_228_195, u_228_201, u_228_241, u_228_258, u_228_259, u_228_265, u_228_271, u_228_321, n4, q5, hs_eq, hs_i, q6, lesser_c, Int.reduceEq, Int.reduceLT, Int.reduceLE, reduceIte, Int.reduceAdd, Int.reduceSub, Int.reduceMul, Int.reduceNeg, Int.reduceToNat, Bool.false_eq_true, eq_self, if_pos, if_neg, w32_id]
      · rw [if_neg c]
        refine ⟨hset q 187 0 5 (m' 5 + 1), ?_, by rw [hs_187, i1], fun tt k j hf => by rw [hs_o (by omega)]; exact i2 tt k j hf⟩
        try simp only
        rw [hd_228_207]
        simp (disch := omega) only [x_6_0, x_34, x_1, x_38_187, x_38_210, x_38_211, x_79_2_12_d0, x_79_2_12_d1, x_79_2_12_d2, x_79_2_12_d3, x_79_2_12_d4, x_7_2_I, x_7_2_A, x_7_2_U, x_4_2, x_7_3_I, x_7_3_A, x_7_3_U, x_7_4_I, x_7_4_A, x_7_4_U, x_61, x_4_4, x_65, x_7_5_I, x_7_5_A, x_7_5_U, x_80_2_d0, x_80_2_d1, x_80_2_d2, x_80_2_d3, x_80_2_d4, x_68, x_4_5, x_63, x_60, x_4_1, x_79_4_12_d0, x_79_4_12_d1, x_79_4_12_d2, x_79_4_12_d3, x_79_4_12_d4, x_79_3_12_d0, x_79_3_12_d1, x_79_3_12_d2, x_79_3_12_d3, x_79_3_12_d4, x_11, x_10_4_I, x_10_4_A, x_10_4_U, x_12, x_62, x_4_3, x_10_5_I, x_10_5_A, x_10_5_U, x_48, x_39_187, x_39_210, x_39_211, x_82, cb_ri, cb_rl, cb_rv, cb_th, cb_ite, ps_s, ps_n, u_228_0, u_228_68, u_228_97, u_228_98, u_228_144, u_228_150, u_228_195, u_228_201, u_228_241, u_228_258, u_228_259, u_228_265, u_228_271, u_228_321, n4, q5, hs_eq, hs_i, q6, c, Int.reduceEq, Int.reduceLT, Int.reduceLE, reduceIte, Int.reduceAdd, Int.reduceSub, Int.reduceMul, Int.reduceNeg, Int.reduceToNat, Bool.false_eq_true, eq_self, if_pos, if_neg, w32_id]
  -- the hands that have nothing
  have L2 : ∀ (q : Hp) (m : Nat → Int) (v5 : AV), q 187 0 = m → GM m H N → GL m → (∀ tt k j, ¬ (tt = 187 ∧ k = 0) → q tt k j = h2 tt k j) → ∃ h', run (lv + 37) 228 153 [aA 12 0, aI (boI dr), aI ((bsN (atB (h 187 0) (h 187 0 5)) N : Nat) : Int), aI ((bsN (fun n => (atB (h 187 0) (h 187 0 5) n && decide (w.2.1 n = -1)) && takB (h 187 0) L n (h 187 0 (50 + 4 * n))) N : Nat) : Int), aI 0, v5] [] q = ri ((cnt lf N : Nat) : Int) h' ∧ h' 187 0 = pbM (itr (p3M lf (fun n => takB (h 187 0) L n (h 187 0 (50 + 4 * n)))) (itr (p2M w) m H) N) ∧ ∀ tt k j, ¬ (tt = 187 ∧ k = 0) → h' tt k j = h2 tt k j := by
    intro q m v5 hq Gm glm hf0
    refine loop_p (S := Hp) (F := fun x (q : Hp) => run (lv + 37) 228 153 [aA 12 0, aI (boI dr), aI ((bsN (atB (h 187 0) (h 187 0 5)) N : Nat) : Int), aI ((bsN (fun n => (atB (h 187 0) (h 187 0 5) n && decide (w.2.1 n = -1)) && takB (h 187 0) L n (h 187 0 (50 + 4 * n))) N : Nat) : Int), aI (x : Int), v5] [] q)
      (I := fun x q => q 187 0 = itr (p2M w) m x ∧ ∀ tt k j, ¬ (tt = 187 ∧ k = 0) → q tt k j = h2 tt k j)
      (Q := fun r => ∃ h', r = ri ((cnt lf N : Nat) : Int) h' ∧ h' 187 0 = pbM (itr (p3M lf (fun n => takB (h 187 0) L n (h 187 0 (50 + 4 * n)))) (itr (p2M w) m H) N) ∧ ∀ tt k j, ¬ (tt = 187 ∧ k = 0) → h' tt k j = h2 tt k j) (N := H) ?_ ?_ q ⟨hq, hf0⟩
    · rintro x q hx ⟨i1, i2⟩
      obtain ⟨Gn, -⟩ := itr_ok (f := p2M w) (K := H) (by rw [← hw]; exact p2_ok) Gm x (by omega)
      show ∃ s' : Hp, _ ∧ s' 187 0 = p2M w x (itr (p2M w) m x) ∧ _
      generalize itr (p2M w) m x = m' at i1 Gn
      have n3 : q 187 0 3 = (H : Int) := by rw [i1]; exact Gn.1.1
      have y : q 211 0 x = w.2.2.1 x := by rw [i2 _ _ _ (by omega)]; exact Y.2 x (by omega)
      have gx := Gn.1.2.2 x hx
      have it4 : cl (lv + 37) 173 [aA 12 0, aI (x : Int), aI 4] q = ri (m' (14 + 6 * x + 4)) q := by have := its_c (lv + 36) x 4 q (by omega) (by omega); rw [i1] at this; exact this
      have la4 : cl (lv + 37) 174 [aA 12 0, aI (x : Int), aI 4, aI (max 0 (m' (14 + 6 * x + 4) - 1))] q = rv (hset q 187 0 (14 + 6 * x + 4) (max 0 (m' (14 + 6 * x + 4) - 1))) := lays_c (lv + 36) x 4 _ q (by omega) (by omega)
      unfold p2M
      by_cases c : w.2.2.1 x = -1
      · rw [if_pos c]
        rw [c] at y
        refine ⟨hset q 187 0 (14 + 6 * x + 4) (max 0 (m' (14 + 6 * x + 4) - 1)), ?_, by rw [hs_187, i1]; rfl, fun tt k j hf => by rw [hs_o (by omega)]; exact i2 tt k j hf⟩
        try simp only
        rw [hd_228_153]
        simp (disch := omega) only [x_6_0, x_34, x_1, x_38_187, x_38_210, x_38_211, x_79_2_12_d0, x_79_2_12_d1, x_79_2_12_d2, x_79_2_12_d3, x_79_2_12_d4, x_7_2_I, x_7_2_A, x_7_2_U, x_4_2, x_7_3_I, x_7_3_A, x_7_3_U, x_7_4_I, x_7_4_A, x_7_4_U, x_61, x_4_4, x_65, x_7_5_I, x_7_5_A, x_7_5_U, x_80_2_d0, x_80_2_d1, x_80_2_d2, x_80_2_d3, x_80_2_d4, x_68, x_4_5, x_63, x_60, x_4_1, x_79_4_12_d0, x_79_4_12_d1, x_79_4_12_d2, x_79_4_12_d3, x_79_4_12_d4, x_79_3_12_d0, x_79_3_12_d1, x_79_3_12_d2, x_79_3_12_d3, x_79_3_12_d4, x_11, x_10_4_I, x_10_4_A, x_10_4_U, x_12, x_62, x_4_3, x_10_5_I, x_10_5_A, x_10_5_U, x_48, x_39_187, x_39_210, x_39_211, x_82, cb_ri, cb_rl, cb_rv, cb_th, cb_ite, ps_s, ps_n, u_228_0, u_228_68, u_228_97, u_228_98, u_228_144, u_228_150, u_228_195, u_228_201, u_228_241, u_228_258, u_228_259, u_228_265, u_228_271, u_228_321, n3, tn, y, it4, greater_c, la4, Int.reduceEq, Int.reduceLT, Int.reduceLE, reduceIte, Int.reduceAdd, Int.reduceSub, Int.reduceMul, Int.reduceNeg, Int.reduceToNat, Bool.false_eq_true, eq_self, if_pos, if_neg, ci, w32_id]
      · rw [if_neg c]
        refine ⟨q, ?_, i1, i2⟩
        try simp only
        rw [hd_228_153]
        simp (disch := omega) only [x_6_0, x_34, x_1, x_38_187, x_38_210, x_38_211, x_79_2_12_d0, x_79_2_12_d1, x_79_2_12_d2, x_79_2_12_d3, x_79_2_12_d4, x_7_2_I, x_7_2_A, x_7_2_U, x_4_2, x_7_3_I, x_7_3_A, x_7_3_U, x_7_4_I, x_7_4_A, x_7_4_U, x_61, x_4_4, x_65, x_7_5_I, x_7_5_A, x_7_5_U, x_80_2_d0, x_80_2_d1, x_80_2_d2, x_80_2_d3, x_80_2_d4, x_68, x_4_5, x_63, x_60, x_4_1, x_79_4_12_d0, x_79_4_12_d1, x_79_4_12_d2, x_79_4_12_d3, x_79_4_12_d4, x_79_3_12_d0, x_79_3_12_d1, x_79_3_12_d2, x_79_3_12_d3, x_79_3_12_d4, x_11, x_10_4_I, x_10_4_A, x_10_4_U, x_12, x_62, x_4_3, x_10_5_I, x_10_5_A, x_10_5_U, x_48, x_39_187, x_39_210, x_39_211, x_82, cb_ri, cb_rl, cb_rv, cb_th, cb_ite, ps_s, ps_n, u_228_0, u_228_68, u_228_97, u_228_98, u_228_144, u_228_150, u_228_195, u_228_201, u_228_241, u_228_258, u_228_259, u_228_265, u_228_271, u_228_321, n3, tn, y, c, Int.reduceEq, Int.reduceLT, Int.reduceLE, reduceIte, Int.reduceAdd, Int.reduceSub, Int.reduceMul, Int.reduceNeg, Int.reduceToNat, Bool.false_eq_true, eq_self, if_pos, if_neg, ci, w32_id]
    · rintro q ⟨i1, i2⟩
      obtain ⟨Gn, -⟩ := itr_ok (f := p2M w) (K := H) (by rw [← hw]; exact p2_ok) Gm H (Nat.le_refl _)
      have n3 : q 187 0 3 = (H : Int) := by rw [i1]; exact Gn.1.1
      obtain ⟨h', e1, e2⟩ := L3 q _ i1 Gn (GL_itr GL_p2 glm H) i2
      refine ⟨h', ?_, e2⟩
      try simp only
      rw [← e1, hd_228_153]
      simp (disch := omega) only [x_6_0, x_34, x_1, x_38_187, x_38_210, x_38_211, x_79_2_12_d0, x_79_2_12_d1, x_79_2_12_d2, x_79_2_12_d3, x_79_2_12_d4, x_7_2_I, x_7_2_A, x_7_2_U, x_4_2, x_7_3_I, x_7_3_A, x_7_3_U, x_7_4_I, x_7_4_A, x_7_4_U, x_61, x_4_4, x_65, x_7_5_I, x_7_5_A, x_7_5_U, x_80_2_d0, x_80_2_d1, x_80_2_d2, x_80_2_d3, x_80_2_d4, x_68, x_4_5, x_63, x_60, x_4_1, x_79_4_12_d0, x_79_4_12_d1, x_79_4_12_d2, x_79_4_12_d3, x_79_4_12_d4, x_79_3_12_d0, x_79_3_12_d1, x_79_3_12_d2, x_79_3_12_d3, x_79_3_12_d4, x_11, x_10_4_I, x_10_4_A, x_10_4_U, x_12, x_62, x_4_3, x_10_5_I, x_10_5_A, x_10_5_U, x_48, x_39_187, x_39_210, x_39_211, x_82, cb_ri, cb_rl, cb_rv, cb_th, cb_ite, ps_s, ps_n, u_228_0, u_228_68, u_228_97, u_228_98, u_228_144, u_228_150, u_228_195, u_228_201, u_228_241, u_228_258, u_228_259, u_228_265, u_228_271, u_228_321, n3, Int.reduceEq, Int.reduceLT, Int.reduceLE, reduceIte, Int.reduceAdd, Int.reduceSub, Int.reduceMul, Int.reduceNeg, Int.reduceToNat, Bool.false_eq_true, eq_self, if_pos, if_neg]
  -- the notes that hands have
  have L1 := loop_p (S := AV × Hp) (F := fun n (q : AV × Hp) => run (lv + 37) 228 30 [aA 12 0, aI (boI dr), aI ((bsN (atB (h 187 0) (h 187 0 5)) N : Nat) : Int), aI ((bsN (fun n => (atB (h 187 0) (h 187 0 5) n && decide (w.2.1 n = -1)) && takB (h 187 0) L n (h 187 0 (50 + 4 * n))) N : Nat) : Int), aI (n : Int), q.1] [] q.2)
    (I := fun n q => q.2 187 0 = itr (p1M w dr) (h 187 0) n ∧ ∀ tt k j, ¬ (tt = 187 ∧ k = 0) → q.2 tt k j = h2 tt k j)
    (Q := fun r => ∃ h', r = ri ((cnt lf N : Nat) : Int) h' ∧ h' 187 0 = pbM (itr (p3M lf (fun n => takB (h 187 0) L n (h 187 0 (50 + 4 * n)))) (itr (p2M w) (itr (p1M w dr) (h 187 0) N) H) N) ∧ ∀ tt k j, ¬ (tt = 187 ∧ k = 0) → h' tt k j = h2 tt k j) (N := N) ?_ ?_ (none, h2) ⟨r7, fun _ _ _ _ => rfl⟩
  · obtain ⟨h', e1, e2, e3⟩ := L1
    refine ⟨h', ?_, ?_, fun tt k j hf => by rw [e3 tt k j (fun z => hf (Or.inr z))]; exact fr2 tt k j hf⟩
    · rw [← e1, in_228]
      simp (disch := omega) only [x_6_0, x_34, x_1, x_38_187, x_38_210, x_38_211, x_79_2_12_d0, x_79_2_12_d1, x_79_2_12_d2, x_79_2_12_d3, x_79_2_12_d4, x_7_2_I, x_7_2_A, x_7_2_U, x_4_2, x_7_3_I, x_7_3_A, x_7_3_U, x_7_4_I, x_7_4_A, x_7_4_U, x_61, x_4_4, x_65, x_7_5_I, x_7_5_A, x_7_5_U, x_80_2_d0, x_80_2_d1, x_80_2_d2, x_80_2_d3, x_80_2_d4, x_68, x_4_5, x_63, x_60, x_4_1, x_79_4_12_d0, x_79_4_12_d1, x_79_4_12_d2, x_79_4_12_d3, x_79_4_12_d4, x_79_3_12_d0, x_79_3_12_d1, x_79_3_12_d2, x_79_3_12_d3, x_79_3_12_d4, x_11, x_10_4_I, x_10_4_A, x_10_4_U, x_12, x_62, x_4_3, x_10_5_I, x_10_5_A, x_10_5_U, x_48, x_39_187, x_39_210, x_39_211, x_82, cb_ri, cb_rl, cb_rv, cb_th, cb_ite, ps_s, ps_n, u_228_0, u_228_68, u_228_97, u_228_98, u_228_144, u_228_150, u_228_195, u_228_201, u_228_241, u_228_258, u_228_259, u_228_265, u_228_271, u_228_321, no, a1, b1, Int.reduceEq, Int.reduceLT, Int.reduceLE, reduceIte, Int.reduceAdd, Int.reduceSub, Int.reduceMul, Int.reduceNeg, Int.reduceToNat, Bool.false_eq_true, eq_self, if_pos, if_neg]
      rfl
    · rw [e2]; unfold plM; rw [hw, hP]
  · rintro n ⟨v5, q⟩ hn ⟨i1, i2⟩
    simp only at i1 i2 ⊢
    obtain ⟨Gn, -⟩ := itr_ok (f := p1M w dr) (K := N) (by rw [← hw]; exact p1_ok) G n (by omega)
    have gl := GL_itr (f := p1M w dr) GL_p1 g12 n
    show ∃ s' : AV × Hp, _ ∧ s'.2 187 0 = p1M w dr n (itr (p1M w dr) (h 187 0) n) ∧ _
    generalize itr (p1M w dr) (h 187 0) n = m at i1 Gn gl
    have n4 : q 187 0 4 = (N : Int) := by rw [i1]; exact Gn.2.1.1
    have io := isOf_c (lv + 36) (bsN (atB (h 187 0) (h 187 0 5)) N) n q (Nat.lt_of_lt_of_le (bsN_mono _ hN) (by omega)) (by omega)
    rw [bsN_bit, show (decide (n < N) && atB (h 187 0) (h 187 0 5) n) = atB (h 187 0) (h 187 0 5) n by simp [hn]] at io
    have y : q 210 0 n = w.2.1 n := by rw [i2 _ _ _ (by omega)]; exact Y.1 n (by omega)
    rcases hwi.1 n with e | ⟨x, x1, x2, x3, x4⟩
    · rw [e] at y
      refine ⟨(aI (-1), q), ?_, by unfold p1M; rw [if_pos e]; exact i1, i2⟩
      try simp only
      rw [hd_228_30]
      by_cases c1 : atB (h 187 0) (h 187 0 5) n = true
      · rw [if_pos c1] at io
        simp (disch := omega) only [x_6_0, x_34, x_1, x_38_187, x_38_210, x_38_211, x_79_2_12_d0, x_79_2_12_d1, x_79_2_12_d2, x_79_2_12_d3, x_79_2_12_d4, x_7_2_I, x_7_2_A, x_7_2_U, x_4_2, x_7_3_I, x_7_3_A, x_7_3_U, x_7_4_I, x_7_4_A, x_7_4_U, x_61, x_4_4, x_65, x_7_5_I, x_7_5_A, x_7_5_U, x_80_2_d0, x_80_2_d1, x_80_2_d2, x_80_2_d3, x_80_2_d4, x_68, x_4_5, x_63, x_60, x_4_1, x_79_4_12_d0, x_79_4_12_d1, x_79_4_12_d2, x_79_4_12_d3, x_79_4_12_d4, x_79_3_12_d0, x_79_3_12_d1, x_79_3_12_d2, x_79_3_12_d3, x_79_3_12_d4, x_11, x_10_4_I, x_10_4_A, x_10_4_U, x_12, x_62, x_4_3, x_10_5_I, x_10_5_A, x_10_5_U, x_48, x_39_187, x_39_210, x_39_211, x_82, cb_ri, cb_rl, cb_rv, cb_th, cb_ite, ps_s, ps_n, u_228_0, u_228_68, u_228_97, u_228_98, u_228_144, u_228_150, u_228_195, u_228_201, u_228_241, u_228_258, u_228_259, u_228_265, u_228_271, u_228_321, n4, io, tn, y, Int.reduceEq, Int.reduceLT, Int.reduceLE, reduceIte, Int.reduceAdd, Int.reduceSub, Int.reduceMul, Int.reduceNeg, Int.reduceToNat, Bool.false_eq_true, eq_self, if_pos, if_neg, ci, w32_id]
      · rw [if_neg c1] at io
        simp (disch := omega) only [x_6_0, x_34, x_1, x_38_187, x_38_210, x_38_211, x_79_2_12_d0, x_79_2_12_d1, x_79_2_12_d2, x_79_2_12_d3, x_79_2_12_d4, x_7_2_I, x_7_2_A, x_7_2_U, x_4_2, x_7_3_I, x_7_3_A, x_7_3_U, x_7_4_I, x_7_4_A, x_7_4_U, x_61, x_4_4, x_65, x_7_5_I, x_7_5_A, x_7_5_U, x_80_2_d0, x_80_2_d1, x_80_2_d2, x_80_2_d3, x_80_2_d4, x_68, x_4_5, x_63, x_60, x_4_1, x_79_4_12_d0, x_79_4_12_d1, x_79_4_12_d2, x_79_4_12_d3, x_79_4_12_d4, x_79_3_12_d0, x_79_3_12_d1, x_79_3_12_d2, x_79_3_12_d3, x_79_3_12_d4, x_11, x_10_4_I, x_10_4_A, x_10_4_U, x_12, x_62, x_4_3, x_10_5_I, x_10_5_A, x_10_5_U, x_48, x_39_187, x_39_210, x_39_211, x_82, cb_ri, cb_rl, cb_rv, cb_th, cb_ite, ps_s, ps_n, u_228_0, u_228_68, u_228_97, u_228_98, u_228_144, u_228_150, u_228_195, u_228_201, u_228_241, u_228_258, u_228_259, u_228_265, u_228_271, u_228_321, n4, io, tn, y, Int.reduceEq, Int.reduceLT, Int.reduceLE, reduceIte, Int.reduceAdd, Int.reduceSub, Int.reduceMul, Int.reduceNeg, Int.reduceToNat, Bool.false_eq_true, eq_self, if_pos, if_neg, ci, w32_id]
    · rw [x1] at y
      rw [if_pos x3.2] at io
      have nx : ¬ (x : Int) = -1 := by omega
      have gn := Gn.2.1.2.2.1 n hn
      have gx := Gn.1.2.2 x x2
      have ep : p1M w dr n m = hlM n x dr m := by unfold p1M; rw [x1, if_neg (by omega), tn]
      rw [ep]
      have draw : ∃ q1 : Hp, q1 187 0 = (if dr = true then upM m 13 (nxS (m 13)) else m) ∧ (∀ tt k j, ¬ (tt = 187 ∧ k = 0) → q1 tt k j = q tt k j) ∧ ∀ v5, run (lv + 37) 228 30 [aA 12 0, aI (boI dr), aI ((bsN (atB (h 187 0) (h 187 0 5)) N : Nat) : Int), aI ((bsN (fun n => (atB (h 187 0) (h 187 0 5) n && decide (w.2.1 n = -1)) && takB (h 187 0) L n (h 187 0 (50 + 4 * n))) N : Nat) : Int), aI (n : Int), v5] [] q = run (lv + 37) 228 98 [aA 12 0, aI (boI dr), aI ((bsN (atB (h 187 0) (h 187 0 5)) N : Nat) : Int), aI ((bsN (fun n => (atB (h 187 0) (h 187 0 5) n && decide (w.2.1 n = -1)) && takB (h 187 0) L n (h 187 0 (50 + 4 * n))) N : Nat) : Int), aI (n : Int), aI (x : Int)] [aI (kdH dr m : Int), aI (x : Int), aI (n : Int), aA 12 0] q1 := by
        cases dr with
        | false =>
          refine ⟨q, i1, fun _ _ _ _ => rfl, fun v5 => ?_⟩
          have ek : kdH false m = 0 := by unfold kdH; rw [if_neg (fun z => absurd z.1 (by decide))]
          rw [ek, hd_228_30]
          simp (disch := omega) only [x_6_0, x_34, x_1, x_38_187, x_38_210, x_38_211, x_79_2_12_d0, x_79_2_12_d1, x_79_2_12_d2, x_79_2_12_d3, x_79_2_12_d4, x_7_2_I, x_7_2_A, x_7_2_U, x_4_2, x_7_3_I, x_7_3_A, x_7_3_U, x_7_4_I, x_7_4_A, x_7_4_U, x_61, x_4_4, x_65, x_7_5_I, x_7_5_A, x_7_5_U, x_80_2_d0, x_80_2_d1, x_80_2_d2, x_80_2_d3, x_80_2_d4, x_68, x_4_5, x_63, x_60, x_4_1, x_79_4_12_d0, x_79_4_12_d1, x_79_4_12_d2, x_79_4_12_d3, x_79_4_12_d4, x_79_3_12_d0, x_79_3_12_d1, x_79_3_12_d2, x_79_3_12_d3, x_79_3_12_d4, x_11, x_10_4_I, x_10_4_A, x_10_4_U, x_12, x_62, x_4_3, x_10_5_I, x_10_5_A, x_10_5_U, x_48, x_39_187, x_39_210, x_39_211, x_82, cb_ri, cb_rl, cb_rv, cb_th, cb_ite, ps_s, ps_n, u_228_0, u_228_68, u_228_97, u_228_144, u_228_150, u_228_195, u_228_201, u_228_241, u_228_258, u_228_259, u_228_265, u_228_271, u_228_321, n4, io, tn, y, nx, boI, Int.reduceEq, Int.reduceLT, Int.reduceLE, reduceIte, Int.reduceAdd, Int.reduceSub, Int.reduceMul, Int.reduceNeg, Int.reduceToNat, Bool.false_eq_true, eq_self, if_pos, if_neg]
          rfl
        | true =>
          have dw := draw_m (lv + 36) q
          rw [i1] at dw
          have s7 : hset q 187 0 13 (nxS (m 13)) 187 0 7 = m 7 := by rw [hs_i (by omega), i1]
          refine ⟨hset q 187 0 13 (nxS (m 13)), by rw [hs_187, i1]; rfl, fun tt k j hf => hs_o (by omega), fun v5 => ?_⟩
          rw [hd_228_30]
          by_cases c : slV (m 13) < m 7
          · have ek : kdH true m = 1 := by unfold kdH; rw [if_pos ⟨rfl, c⟩]
            rw [ek]
            simp (disch := omega) only [x_6_0, x_34, x_1, x_38_187, x_38_210, x_38_211, x_79_2_12_d0, x_79_2_12_d1, x_79_2_12_d2, x_79_2_12_d3, x_79_2_12_d4, x_7_2_I, x_7_2_A, x_7_2_U, x_4_2, x_7_3_I, x_7_3_A, x_7_3_U, x_7_4_I, x_7_4_A, x_7_4_U, x_61, x_4_4, x_65, x_7_5_I, x_7_5_A, x_7_5_U, x_80_2_d0, x_80_2_d1, x_80_2_d2, x_80_2_d3, x_80_2_d4, x_68, x_4_5, x_63, x_60, x_4_1, x_79_4_12_d0, x_79_4_12_d1, x_79_4_12_d2, x_79_4_12_d3, x_79_4_12_d4, x_79_3_12_d0, x_79_3_12_d1, x_79_3_12_d2, x_79_3_12_d3, x_79_3_12_d4, x_11, x_10_4_I, x_10_4_A, x_10_4_U, x_12, x_62, x_4_3, x_10_5_I, x_10_5_A, x_10_5_U, x_48, x_39_187, x_39_210, x_39_211, x_82, cb_ri, cb_rl, cb_rv, cb_th, cb_ite, ps_s, ps_n, u_228_0, u_228_68, u_228_97, u_228_144, u_228_150, u_228_195, u_228_201, u_228_241, u_228_258, u_228_259, u_228_265, u_228_271, u_228_321, n4, io, tn, y, nx, boI, dw, s7, c, Int.reduceEq, Int.reduceLT, Int.reduceLE, reduceIte, Int.reduceAdd, Int.reduceSub, Int.reduceMul, Int.reduceNeg, Int.reduceToNat, Bool.false_eq_true, eq_self, if_pos, if_neg]
            rfl
          · have ek : kdH true m = 0 := by unfold kdH; rw [if_neg (fun z => c z.2)]
            rw [ek]
            simp (disch := omega) only [x_6_0, x_34, x_1, x_38_187, x_38_210, x_38_211, x_79_2_12_d0, x_79_2_12_d1, x_79_2_12_d2, x_79_2_12_d3, x_79_2_12_d4, x_7_2_I, x_7_2_A, x_7_2_U, x_4_2, x_7_3_I, x_7_3_A, x_7_3_U, x_7_4_I, x_7_4_A, x_7_4_U, x_61, x_4_4, x_65, x_7_5_I, x_7_5_A, x_7_5_U, x_80_2_d0, x_80_2_d1, x_80_2_d2, x_80_2_d3, x_80_2_d4, x_68, x_4_5, x_63, x_60, x_4_1, x_79_4_12_d0, x_79_4_12_d1, x_79_4_12_d2, x_79_4_12_d3, x_79_4_12_d4, x_79_3_12_d0, x_79_3_12_d1, x_79_3_12_d2, x_79_3_12_d3, x_79_3_12_d4, x_11, x_10_4_I, x_10_4_A, x_10_4_U, x_12, x_62, x_4_3, x_10_5_I, x_10_5_A, x_10_5_U, x_48, x_39_187, x_39_210, x_39_211, x_82, cb_ri, cb_rl, cb_rv, cb_th, cb_ite, ps_s, ps_n, u_228_0, u_228_68, u_228_97, u_228_144, u_228_150, u_228_195, u_228_201, u_228_241, u_228_258, u_228_259, u_228_265, u_228_271, u_228_321, n4, io, tn, y, nx, boI, dw, s7, c, Int.reduceEq, Int.reduceLT, Int.reduceLE, reduceIte, Int.reduceAdd, Int.reduceSub, Int.reduceMul, Int.reduceNeg, Int.reduceToNat, Bool.false_eq_true, eq_self, if_pos, if_neg]
            rfl
      obtain ⟨q1, d1, d2, d3⟩ := draw
      have hk : kdH dr m < 4 := by unfold kdH; split <;> omega
      have g1 : GM (q1 187 0) H N := by rw [d1]; split; exact GM_sd Gn; exact Gn
      have gl1 : GL (q1 187 0) := by rw [d1]; split; exact GL_up (by omega) gl; exact gl
      have lg := logs_c (lv + 35) (n : Int) (x : Int) (kdH dr m) q1 hk gl1 (g1.2.2.2.2.2.2 _ hk)
      rw [d1] at lg
      have hm : ∀ j, 14 ≤ j → j < 106 → logM (if dr = true then upM m 13 (nxS (m 13)) else m) (n : Int) (x : Int) (kdH dr m) j = m j := by
        intro j h1 h2
        rw [logM_o (by omega) (by omega) (by omega)]
        split
        · exact up_ne (by omega)
        · rfl
      generalize hlg : logM (if dr = true then upM m 13 (nxS (m 13)) else m) (n : Int) (x : Int) (kdH dr m) = ml at lg hm
      have o1 : cl (lv + 37) 175 [aA 12 0, aI (n : Int), aI 1] (setM q1 ml) = ri (m (50 + 4 * n + 1)) (setM q1 ml) := by
        have := ofNote_c (lv + 36) n 1 (setM q1 ml) (by omega) (by omega)
        rw [sM_0, hm _ (by omega) (by omega)] at this
        exact this
      have l1 : cl (lv + 37) 174 [aA 12 0, aI (x : Int), aI 1, aI (m (50 + 4 * n + 1))] (setM q1 ml) = rv (hset (setM q1 ml) 187 0 (14 + 6 * x + 1) (m (50 + 4 * n + 1))) := lays_c (lv + 36) x 1 _ _ (by omega) (by omega)
      have i4 : cl (lv + 37) 173 [aA 12 0, aI (x : Int), aI 4] (hset (setM q1 ml) 187 0 (14 + 6 * x + 1) (m (50 + 4 * n + 1))) = ri (m (14 + 6 * x + 4)) (hset (setM q1 ml) 187 0 (14 + 6 * x + 1) (m (50 + 4 * n + 1))) := by
        have := its_c (lv + 36) x 4 (hset (setM q1 ml) 187 0 (14 + 6 * x + 1) (m (50 + 4 * n + 1))) (by omega) (by omega)
        rw [hs_i (by omega), sM_0, hm _ (by omega) (by omega)] at this
        exact this
      have o2 : cl (lv + 37) 175 [aA 12 0, aI (n : Int), aI 2] (hset (setM q1 ml) 187 0 (14 + 6 * x + 1) (m (50 + 4 * n + 1))) = ri (m (50 + 4 * n + 2)) (hset (setM q1 ml) 187 0 (14 + 6 * x + 1) (m (50 + 4 * n + 1))) := by
        have := ofNote_c (lv + 36) n 2 (hset (setM q1 ml) 187 0 (14 + 6 * x + 1) (m (50 + 4 * n + 1))) (by omega) (by omega)
        rw [hs_i (by omega), sM_0, hm _ (by omega) (by omega)] at this
        exact this
      have l4 : cl (lv + 37) 174 [aA 12 0, aI (x : Int), aI 4, aI (min 99 (m (14 + 6 * x + 4) + m (50 + 4 * n + 2) + 1))] (hset (setM q1 ml) 187 0 (14 + 6 * x + 1) (m (50 + 4 * n + 1))) = rv (hset (hset (setM q1 ml) 187 0 (14 + 6 * x + 1) (m (50 + 4 * n + 1))) 187 0 (14 + 6 * x + 4) (min 99 (m (14 + 6 * x + 4) + m (50 + 4 * n + 2) + 1))) := lays_c (lv + 36) x 4 _ _ (by omega) (by omega)
      refine ⟨(aI (x : Int), hset (hset (setM q1 ml) 187 0 (14 + 6 * x + 1) (m (50 + 4 * n + 1))) 187 0 (14 + 6 * x + 4) (min 99 (m (14 + 6 * x + 4) + m (50 + 4 * n + 2) + 1))), ?_, ?_, fun tt k j hf => ?_⟩
      · try simp only
        rw [d3]
        simp (disch := omega) only [x_6_0, x_34, x_1, x_38_187, x_38_210, x_38_211, x_79_2_12_d0, x_79_2_12_d1, x_79_2_12_d2, x_79_2_12_d3, x_79_2_12_d4, x_7_2_I, x_7_2_A, x_7_2_U, x_4_2, x_7_3_I, x_7_3_A, x_7_3_U, x_7_4_I, x_7_4_A, x_7_4_U, x_61, x_4_4, x_65, x_7_5_I, x_7_5_A, x_7_5_U, x_80_2_d0, x_80_2_d1, x_80_2_d2, x_80_2_d3, x_80_2_d4, x_68, x_4_5, x_63, x_60, x_4_1, x_79_4_12_d0, x_79_4_12_d1, x_79_4_12_d2, x_79_4_12_d3, x_79_4_12_d4, x_79_3_12_d0, x_79_3_12_d1, x_79_3_12_d2, x_79_3_12_d3, x_79_3_12_d4, x_11, x_10_4_I, x_10_4_A, x_10_4_U, x_12, x_62, x_4_3, x_10_5_I, x_10_5_A, x_10_5_U, x_48, x_39_187, x_39_210, x_39_211, x_82, cb_ri, cb_rl, cb_rv, cb_th, cb_ite, ps_s, ps_n, u_228_0, u_228_68, u_228_97, u_228_98, u_228_144, u_228_150, u_228_195, u_228_201, u_228_241, u_228_258, u_228_259, u_228_265, u_228_271, u_228_321, x_79_3_12_f5, lg, o1, l1, i4, o2, lesser_c, l4, Int.reduceEq, Int.reduceLT, Int.reduceLE, reduceIte, Int.reduceAdd, Int.reduceSub, Int.reduceMul, Int.reduceNeg, Int.reduceToNat, Bool.false_eq_true, eq_self, if_pos, if_neg, ci, w32_id]
      · try simp only
        rw [hs_187, hs_187, sM_0, ← hlg]
        rfl
      · try simp only
        rw [hs_o (by omega), hs_o (by omega)]
        unfold setM
        rw [if_neg hf, d2 tt k j hf]
        exact i2 tt k j hf
  · rintro ⟨v5, q⟩ ⟨i1, i2⟩
    simp only at i1 i2 ⊢
    obtain ⟨Gn, -⟩ := itr_ok (f := p1M w dr) (K := N) (by rw [← hw]; exact p1_ok) G N (Nat.le_refl _)
    have n4 : q 187 0 4 = (N : Int) := by rw [i1]; exact Gn.2.1.1
    obtain ⟨h', e1, e2⟩ := L2 q _ v5 i1 Gn (GL_itr GL_p1 g12 N) i2
    refine ⟨h', ?_, e2⟩
    rw [← e1, hd_228_30]
    simp (disch := omega) only [x_6_0, x_34, x_1, x_38_187, x_38_210, x_38_211, x_79_2_12_d0, x_79_2_12_d1, x_79_2_12_d2, x_79_2_12_d3, x_79_2_12_d4, x_7_2_I, x_7_2_A, x_7_2_U, x_4_2, x_7_3_I, x_7_3_A, x_7_3_U, x_7_4_I, x_7_4_A, x_7_4_U, x_61, x_4_4, x_65, x_7_5_I, x_7_5_A, x_7_5_U, x_80_2_d0, x_80_2_d1, x_80_2_d2, x_80_2_d3, x_80_2_d4, x_68, x_4_5, x_63, x_60, x_4_1, x_79_4_12_d0, x_79_4_12_d1, x_79_4_12_d2, x_79_4_12_d3, x_79_4_12_d4, x_79_3_12_d0, x_79_3_12_d1, x_79_3_12_d2, x_79_3_12_d3, x_79_3_12_d4, x_11, x_10_4_I, x_10_4_A, x_10_4_U, x_12, x_62, x_4_3, x_10_5_I, x_10_5_A, x_10_5_U, x_48, x_39_187, x_39_210, x_39_211, x_82, cb_ri, cb_rl, cb_rv, cb_th, cb_ite, ps_s, ps_n, u_228_0, u_228_68, u_228_97, u_228_98, u_228_144, u_228_150, u_228_195, u_228_201, u_228_241, u_228_258, u_228_259, u_228_265, u_228_271, u_228_321, n4, Int.reduceEq, Int.reduceLT, Int.reduceLE, reduceIte, Int.reduceAdd, Int.reduceSub, Int.reduceMul, Int.reduceNeg, Int.reduceToNat, Bool.false_eq_true, eq_self, if_pos, if_neg]
