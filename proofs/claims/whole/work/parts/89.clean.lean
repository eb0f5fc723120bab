/-! THE FEWEST NOTES TO STRIKE OUT. -/
theorem sub_pred : ∀ (n a s t : Nat), s ≤ n → (∀ i, s.testBit i = true → a.testBit i = true) → (∀ i, t.testBit i = true → a.testBit i = true) → t < s → t ≤ (s - 1) &&& a := by
  intro n
  induction n with
  | zero => intro a s t h1 _ _ h4; omega
  | succ n ih =>
    intro a s t h1 h2 h3 h4
    have hs2 : ∀ i, (s / 2).testBit i = true → (a / 2).testBit i = true := fun i hi => by rw [← Nat.testBit_succ] at hi ⊢; exact h2 _ hi
    have ht2 : ∀ i, (t / 2).testBit i = true → (a / 2).testBit i = true := fun i hi => by rw [← Nat.testBit_succ] at hi ⊢; exact h3 _ hi
    have b0 : ∀ x : Nat, x.testBit 0 = decide (x % 2 = 1) := fun x => Nat.testBit_zero x
    have hs0 : s % 2 = 1 → a % 2 = 1 := fun z => by have := h2 0 (by rw [b0]; simpa using z); rw [b0] at this; simpa using this
    have ht0 : t % 2 = 1 → a % 2 = 1 := fun z => by have := h3 0 (by rw [b0]; simpa using z); rw [b0] at this; simpa using this
    have d1 : ((s - 1) &&& a) / 2 = (s - 1) / 2 &&& a / 2 := Nat.and_div_two
    by_cases c : s % 2 = 1
    · have e1 : (s - 1) / 2 = s / 2 := by omega
      have e2 : s / 2 &&& a / 2 = s / 2 := by
        apply Nat.eq_of_testBit_eq
        intro i
        rw [Nat.testBit_and]
        cases q : (s / 2).testBit i with
        | false => rfl
        | true => rw [hs2 i q]; rfl
      rw [e1, e2] at d1
      omega
    · have e1 : (s - 1) / 2 = s / 2 - 1 := by omega
      have := ih (a / 2) (s / 2) (t / 2) (by omega) hs2 ht2 (by omega)
      rw [e1] at d1
      have m1 : t % 2 = 1 → ((s - 1) &&& a) % 2 = 1 := fun z => by
        have : ((s - 1) &&& a).testBit 0 = true := by
          rw [Nat.testBit_and, b0, b0, decide_eq_true (show (s - 1) % 2 = 1 by omega), decide_eq_true (ht0 z)]; rfl
        rw [b0] at this
        simpa using this
      omega
theorem cnt_31 {a N : Nat} (h : a < 2 ^ N) (hN : N ≤ 31) : cnt (fun i => a.testBit i) 31 = cnt (fun i => a.testBit i) N := by
  have : ∀ m, N ≤ m → cnt (fun i => a.testBit i) m = cnt (fun i => a.testBit i) N := by
    intro m
    induction m with
    | zero => intro z; rw [show N = 0 by omega]
    | succ m ih =>
      intro z
      by_cases e : N = m + 1
      · rw [e]
      · show cnt (fun i => a.testBit i) m + (if a.testBit m = true then 1 else 0) = _
        rw [ih (by omega), if_neg (by rw [Nat.testBit_lt_two_pow (Nat.lt_of_lt_of_le h (Nat.pow_le_pow_right (by omega) (by omega)))]; exact Bool.false_ne_true)]
        rfl
  exact this 31 hN
theorem ov_good {ab : Nat → Nat → Bool} {far : Nat → Nat → Int} {H N : Nat} {P : Nat → Bool} (hH : H ≤ 6) (s : Nat) : ovB ab far H (fun n => (bsN P N ^^^ (bsN P N &&& s)).testBit n) N = 0 ↔ ∃ g, MatU (alB (cnA ab H) 0) 7 (chL (fun n => P n && !s.testBit n) N) 0 g ∧ ∀ n, n < N → P n = true → s.testBit n = false → g n ≠ -1 := by
  have ec : ∀ n, n < N → (bsN P N ^^^ (bsN P N &&& s)).testBit n = (P n && !s.testBit n) := fun n hn => by
    rw [Nat.testBit_xor, Nat.testBit_and, bsN_bit]
    simp only [hn, decide_true, Bool.true_and]
    cases P n <;> cases s.testBit n <;> rfl
  have e1 : chL (fun n => (bsN P N ^^^ (bsN P N &&& s)).testBit n) N = chL (fun n => P n && !s.testBit n) N := chL_congr ec
  have e2 : cnt (fun n => (bsN P N ^^^ (bsN P N &&& s)).testBit n) N = cnt (fun n => P n && !s.testBit n) N := cnt_congr ec
  unfold ovB
  rw [e1, e2]
  have e3 := dpp_same (A := alB (cnA ab H) 0) (can := ab) (K := H) fz far (chL_nd (fun n => P n && !s.testBit n) N) (by omega) (fun n hn x hx => by rw [alB_v]; simp)
  have le := dpp_le ab far H (fun n => P n && !s.testBit n) N
  have ma := mat_all (A := alB (cnA ab H) 0) fz (P := fun n => P n && !s.testBit n) (N := N)
  rw [e3] at ma
  constructor
  · intro h
    obtain ⟨g, g1, g2⟩ := ma.mp (by omega)
    exact ⟨g, g1, fun n h1 h2 h3 => g2 n h1 (by rw [h2, h3]; rfl)⟩
  · rintro ⟨g, g1, g2⟩
    have := ma.mpr ⟨g, g1, fun n h1 h2 => by
      rw [Bool.and_eq_true] at h2
      exact g2 n h1 h2.1 (by simpa using h2.2)⟩
    omega
theorem cleanOf_m (lv H N : Nat) (b : Int) (h : Hp) (ab : Nat → Nat → Bool) (lf : Nat → Bool) (G : GM (h 187 0) H N) (ha : h 206 0 0 = -1) (C : CT h N H ab) (v : LVs (alB (cnA ab H) 0) (atB (h 187 0) b) N lf) :
    ∃ h', cl (lv + 7) 263 [aA 12 0, aI b] h = ri ((bsN (fun n => atB (h 187 0) b n && lf n) N : Nat) : Int) h' ∧ ∀ tt k j, ¬ crFr tt k → h' tt k j = h tt k j := by
  have hH := G.1.2.1
  have hN := G.2.1.2.1
  have no := notesOf_c (lv + 3) N b h G.2.1.1 hN
  generalize hP : atB (h 187 0) b = P at no v
  have l14 := bsN_mono P hN
  have allb : ∀ i, (bsN P N).testBit i = (decide (i < N) && P i) := fun i => bsN_bit P N i
  -- the set that is sought
  have S0b : ∀ i, (bsN (fun n => P n && lf n) N).testBit i = (decide (i < N) && (P i && lf i)) := fun i => bsN_bit _ N i
  have S0sub : ∀ i, (bsN (fun n => P n && lf n) N).testBit i = true → (bsN P N).testBit i = true := fun i hi => by
    rw [S0b, Bool.and_eq_true, Bool.and_eq_true] at hi
    rw [allb, hi.1, hi.2.1]; rfl
  have S0good : ∃ g, MatU (alB (cnA ab H) 0) 7 (chL (fun n => P n && !(bsN (fun n => P n && lf n) N).testBit n) N) 0 g ∧ ∀ n, n < N → P n = true → (bsN (fun n => P n && lf n) N).testBit n = false → g n ≠ -1 := by
    obtain ⟨g, g1, g2⟩ := v.1
    have e : chL (fun n => P n && !(bsN (fun n => P n && lf n) N).testBit n) N = chL (fun n => P n && !lf n) N := chL_congr (fun n hn => by rw [S0b]; simp only [hn, decide_true, Bool.true_and]; cases P n <;> rfl)
    rw [e]
    exact ⟨g, g1, fun n h1 h2 h3 => g2 n h1 h2 (by rw [S0b, h2] at h3; simpa [h1] using h3)⟩
  have subv : ∀ s : Nat, (∀ i, s.testBit i = true → (bsN P N).testBit i = true) → bsN (fun n => P n && s.testBit n) N = s ∧ s < 2 ^ N ∧ cnt (fun n => P n && s.testBit n) N = cnt (fun i => s.testBit i) 31 := by
    intro s hs
    have lt : s < 2 ^ N := lt_tb (fun n hn => by have := hs n hn; rw [allb, Bool.and_eq_true, decide_eq_true_eq] at this; exact this.1)
    have ec : ∀ n, n < N → (P n && s.testBit n) = s.testBit n := fun n hn => by
      cases q : s.testBit n with
      | false => simp
      | true => have := hs n q; rw [allb, Bool.and_eq_true] at this; rw [this.2]; rfl
    refine ⟨by rw [bsN_congr ec, bsN_tb lt], lt, by rw [cnt_31 lt (by omega)]; exact cnt_congr ec⟩
  have S0v := subv _ S0sub
  have minl : ∀ s : Nat, (∀ i, s.testBit i = true → (bsN P N).testBit i = true) → (∃ g, MatU (alB (cnA ab H) 0) 7 (chL (fun n => P n && !s.testBit n) N) 0 g ∧ ∀ n, n < N → P n = true → s.testBit n = false → g n ≠ -1) → cnt (fun i => (bsN (fun n => P n && lf n) N).testBit i) 31 ≤ cnt (fun i => s.testBit i) 31 ∧ bsN (fun n => P n && lf n) N ≤ s := by
    intro s hs hg
    obtain ⟨m1, m2⟩ := LV_min v hg
    obtain ⟨e1, -, e3⟩ := subv s hs
    rw [e1] at m2
    refine ⟨?_, m2⟩
    rw [← e3, ← S0v.2.2]
    refine Nat.le_trans (Nat.le_of_eq ?_) m1
    exact cnt_congr (fun n hn => by rw [S0b]; simp only [hn, decide_true, Bool.true_and]; cases P n <;> cases lf n <;> rfl)
  generalize hS : bsN (fun n => P n && lf n) N = S0 at S0sub S0good minl S0v
  have key : ∀ (m set found : Nat) (q : Hp), set ≤ m → (∀ i, set.testBit i = true → (bsN P N).testBit i = true) → (∀ i, found.testBit i = true → (bsN P N).testBit i = true) → ((S0 < set ∧ cnt (fun i => S0.testBit i) 31 ≤ cnt (fun i => found.testBit i) 31) ∨ (set ≤ S0 ∧ found = S0)) → (∀ tt k j, ¬ crFr tt k → q tt k j = h tt k j) → ∃ h', run (lv + 6) 263 11 [aA 12 0, aI b, aI ((bsN P N : Nat) : Int), aI (found : Int), aI (set : Int)] [] q = ri (S0 : Int) h' ∧ ∀ tt k j, ¬ crFr tt k → h' tt k j = h tt k j := by
    intro m
    induction m with
    | zero =>
      intro set found q h1 h2 h3 h4 h5
      have : set = 0 := by omega
      subst this
      have ef : found = S0 := by
        rcases h4 with z | z
        · omega
        · exact z.2
      refine ⟨q, ?_, h5⟩
      rw [ef, hd_263_11]
      simp (disch := omega) only [x_6_0, x_4_1, x_79_2_12_d0, x_79_2_12_d1, x_79_2_12_d2, x_79_2_12_d3, x_79_2_12_d4, x_7_2_I, x_7_2_A, x_7_2_U, x_4_2, x_7_3_I, x_7_3_A, x_7_3_U, x_7_4_I, x_7_4_A, x_7_4_U, x_61, x_4_4, x_68, x_1, x_12, x_17, x_80_1_d0, x_80_1_d1, x_80_1_d2, x_80_1_d3, x_80_1_d4, x_4_3, x_66, x_19, x_69, x_60, x_82, cb_ri, cb_rl, cb_rv, cb_th, cb_ite, ps_s, ps_n, u_263_0, u_263_55, Int.reduceEq, Int.reduceLT, Int.reduceLE, reduceIte, Int.reduceAdd, Int.reduceSub, Int.reduceMul, Int.reduceNeg, Int.reduceToNat, Bool.false_eq_true, eq_self, if_pos, if_neg, Int.natCast_zero]
    | succ m ih =>
      intro set found q h1 h2 h3 h4 h5
      by_cases c0 : set = 0
      · subst c0
        have ef : found = S0 := by
          rcases h4 with z | z
          · omega
          · exact z.2
        refine ⟨q, ?_, h5⟩
        rw [ef, hd_263_11]
        simp (disch := omega) only [x_6_0, x_4_1, x_79_2_12_d0, x_79_2_12_d1, x_79_2_12_d2, x_79_2_12_d3, x_79_2_12_d4, x_7_2_I, x_7_2_A, x_7_2_U, x_4_2, x_7_3_I, x_7_3_A, x_7_3_U, x_7_4_I, x_7_4_A, x_7_4_U, x_61, x_4_4, x_68, x_1, x_12, x_17, x_80_1_d0, x_80_1_d1, x_80_1_d2, x_80_1_d3, x_80_1_d4, x_4_3, x_66, x_19, x_69, x_60, x_82, cb_ri, cb_rl, cb_rv, cb_th, cb_ite, ps_s, ps_n, u_263_0, u_263_55, Int.reduceEq, Int.reduceLT, Int.reduceLE, reduceIte, Int.reduceAdd, Int.reduceSub, Int.reduceMul, Int.reduceNeg, Int.reduceToNat, Bool.false_eq_true, eq_self, if_pos, if_neg, Int.natCast_zero]
      · have q7 : q 187 0 = h 187 0 := funext (fun j => h5 _ _ _ (by unfold crFr; omega))
        have q6 : q 206 0 0 = -1 := by rw [h5 _ _ _ (by unfold crFr; omega)]; exact ha
        obtain ⟨-, st1, -⟩ := subv set h2
        obtain ⟨-, fd1, -⟩ := subv found h3
        have p14 : 2 ^ N ≤ 2 ^ 14 := Nat.pow_le_pow_right (by omega) hN
        have ns : ¬ (set : Int) = 0 := by omega
        have e1 : (set : Int) - 1 = ((set - 1 : Nat) : Int) := by omega
        have ia : iand ((set - 1 : Nat) : Int) ((bsN P N : Nat) : Int) = (((set - 1) &&& bsN P N : Nat) : Int) := iand_n (by omega) (by omega)
        have s2sub : ∀ i, ((set - 1) &&& bsN P N).testBit i = true → (bsN P N).testBit i = true := fun i hi => by rw [Nat.testBit_and, Bool.and_eq_true] at hi; exact hi.2
        have s2le : (set - 1) &&& bsN P N ≤ set - 1 := Nat.and_le_left
        have mx : ∀ t, (∀ i, t.testBit i = true → (bsN P N).testBit i = true) → t < set → t ≤ (set - 1) &&& bsN P N := fun t ht hlt => sub_pred set (bsN P N) set t (Nat.le_refl _) h2 ht hlt
        generalize hs2 : (set - 1) &&& bsN P N = s2 at ia s2sub s2le mx
        obtain ⟨-, s2lt, -⟩ := subv s2 s2sub
        have b1 := bits_x (lv + 5) s2 q (by omega)
        have b2 := bits_x (lv + 5) found q (by omega)
        have c31 := cnt_le (fun i => s2.testBit i) 31
        have c32 := cnt_le (fun i => found.testBit i) 31
        have xl : bsN P N ^^^ (bsN P N &&& s2) < 2 ^ 14 := Nat.xor_lt_two_pow l14 (Nat.lt_of_le_of_lt Nat.and_le_left l14)
        have ix : iand ((bsN P N : Nat) : Int) (ixor (s2 : Int) (-1)) = ((bsN P N ^^^ (bsN P N &&& s2) : Nat) : Int) := iandn_n (by omega) (by omega)
        by_cases c1 : cnt (fun i => s2.testBit i) 31 ≤ cnt (fun i => found.testBit i) 31
        · obtain ⟨q', o1, o2⟩ := overOf_m lv (bsN P N ^^^ (bsN P N &&& s2)) H N q ab (by rw [q7]; exact G) (Or.inl q6) (by rw [q6, show hmK H (-1) = H from if_pos rfl]; exact fun n hn i hi => by rw [h5 _ _ _ (by unfold crFr; omega)]; exact C n hn i hi) xl
          rw [q7, q6, show hmK H (-1) = H from if_pos rfl] at o1
          have h5' : ∀ tt k j, ¬ crFr tt k → q' tt k j = h tt k j := fun tt k j hf => by rw [o2 tt k j hf]; exact h5 tt k j hf
          by_cases c2 : ovB ab (farM (h 187 0) H (-1)) H (fun n => (bsN P N ^^^ (bsN P N &&& s2)).testBit n) N = 0
          · rw [c2] at o1
            have gd := (ov_good hH s2).mp c2
            obtain ⟨mc, ml⟩ := minl s2 s2sub gd
            obtain ⟨h', f1, f2⟩ := ih s2 s2 q' (by omega) s2sub s2sub (by
              by_cases z : S0 = s2
              · exact Or.inr ⟨by omega, z.symm⟩
              · exact Or.inl ⟨by omega, mc⟩) h5'
            refine ⟨h', ?_, f2⟩
            rw [← f1, hd_263_11]
            simp (disch := omega) only [x_6_0, x_4_1, x_79_2_12_d0, x_79_2_12_d1, x_79_2_12_d2, x_79_2_12_d3, x_79_2_12_d4, x_7_2_I, x_7_2_A, x_7_2_U, x_4_2, x_7_3_I, x_7_3_A, x_7_3_U, x_7_4_I, x_7_4_A, x_7_4_U, x_61, x_4_4, x_68, x_1, x_12, x_17, x_80_1_d0, x_80_1_d1, x_80_1_d2, x_80_1_d3, x_80_1_d4, x_4_3, x_66, x_19, x_69, x_60, x_82, cb_ri, cb_rl, cb_rv, cb_th, cb_ite, ps_s, ps_n, u_263_0, u_263_55, ns, e1, ia, b1, b2, ix, o1, w32_id, Int.reduceEq, Int.reduceLT, Int.reduceLE, reduceIte, Int.reduceAdd, Int.reduceSub, Int.reduceMul, Int.reduceNeg, Int.reduceToNat, Bool.false_eq_true, eq_self, if_pos, if_neg, Int.natCast_zero]
          · have ngd : ¬ S0 = s2 := fun z => c2 ((ov_good hH s2).mpr (z ▸ S0good))
            have nz : ¬ ((ovB ab (farM (h 187 0) H (-1)) H (fun n => (bsN P N ^^^ (bsN P N &&& s2)).testBit n) N : Nat) : Int) = 0 := by omega
            obtain ⟨h', f1, f2⟩ := ih s2 found q' (by omega) s2sub h3 (by
              rcases h4 with z | z
              · have := mx S0 S0sub z.1
                exact Or.inl ⟨by omega, z.2⟩
              · exact Or.inr ⟨by omega, z.2⟩) h5'
            refine ⟨h', ?_, f2⟩
            rw [← f1, hd_263_11]
            simp (disch := omega) only [x_6_0, x_4_1, x_79_2_12_d0, x_79_2_12_d1, x_79_2_12_d2, x_79_2_12_d3, x_79_2_12_d4, x_7_2_I, x_7_2_A, x_7_2_U, x_4_2, x_7_3_I, x_7_3_A, x_7_3_U, x_7_4_I, x_7_4_A, x_7_4_U, x_61, x_4_4, x_68, x_1, x_12, x_17, x_80_1_d0, x_80_1_d1, x_80_1_d2, x_80_1_d3, x_80_1_d4, x_4_3, x_66, x_19, x_69, x_60, x_82, cb_ri, cb_rl, cb_rv, cb_th, cb_ite, ps_s, ps_n, u_263_0, u_263_55, ns, e1, ia, b1, b2, ix, o1, nz, w32_id, Int.reduceEq, Int.reduceLT, Int.reduceLE, reduceIte, Int.reduceAdd, Int.reduceSub, Int.reduceMul, Int.reduceNeg, Int.reduceToNat, Bool.false_eq_true, eq_self, if_pos, if_neg]
        · have ngd : ¬ S0 = s2 := fun z => by
            rcases h4 with y | y
            · rw [← z] at c1; exact c1 y.2
            · omega
          obtain ⟨h', f1, f2⟩ := ih s2 found q (by omega) s2sub h3 (by
            rcases h4 with z | z
            · have := mx S0 S0sub z.1
              exact Or.inl ⟨by omega, z.2⟩
            · exact Or.inr ⟨by omega, z.2⟩) h5
          refine ⟨h', ?_, f2⟩
          rw [← f1, hd_263_11]
          simp (disch := omega) only [x_6_0, x_4_1, x_79_2_12_d0, x_79_2_12_d1, x_79_2_12_d2, x_79_2_12_d3, x_79_2_12_d4, x_7_2_I, x_7_2_A, x_7_2_U, x_4_2, x_7_3_I, x_7_3_A, x_7_3_U, x_7_4_I, x_7_4_A, x_7_4_U, x_61, x_4_4, x_68, x_1, x_12, x_17, x_80_1_d0, x_80_1_d1, x_80_1_d2, x_80_1_d3, x_80_1_d4, x_4_3, x_66, x_19, x_69, x_60, x_82, cb_ri, cb_rl, cb_rv, cb_th, cb_ite, ps_s, ps_n, u_263_0, u_263_55, ns, e1, ia, b1, b2, w32_id, Int.reduceEq, Int.reduceLT, Int.reduceLE, reduceIte, Int.reduceAdd, Int.reduceSub, Int.reduceMul, Int.reduceNeg, Int.reduceToNat, Bool.false_eq_true, eq_self, if_pos, if_neg]
  have sl : S0 ≤ bsN P N := sub_le S0sub
  obtain ⟨h', f1, f2⟩ := key (bsN P N) (bsN P N) (bsN P N) h (Nat.le_refl _) (fun _ z => z) (fun _ z => z) (by
    by_cases z : S0 = bsN P N
    · exact Or.inr ⟨by omega, z.symm⟩
    · exact Or.inl ⟨by omega, cnt_mono (fun i _ hi => S0sub i hi)⟩) (fun _ _ _ _ => rfl)
  refine ⟨h', ?_, f2⟩
  rw [← f1, in_263]
  simp (disch := omega) only [x_6_0, x_4_1, x_79_2_12_d0, x_79_2_12_d1, x_79_2_12_d2, x_79_2_12_d3, x_79_2_12_d4, x_7_2_I, x_7_2_A, x_7_2_U, x_4_2, x_7_3_I, x_7_3_A, x_7_3_U, x_7_4_I, x_7_4_A, x_7_4_U, x_61, x_4_4, x_68, x_1, x_12, x_17, x_80_1_d0, x_80_1_d1, x_80_1_d2, x_80_1_d3, x_80_1_d4, x_4_3, x_66, x_19, x_69, x_60, x_82, cb_ri, cb_rl, cb_rv, cb_th, cb_ite, ps_s, ps_n, u_263_0, u_263_55, no]
theorem ag_clean (lc lr H N : Nat) (h : Hp) (I : INV h H N) : AGp (fun h => cl (lc + 80) 114 [aA 11 0] h) (fun h => cl (lr + 80) 264 [aA 12 0] h) h := by
  have hH := I.1.2.1.1.2.1
  have hN := I.1.2.1.2.1.2.1
  obtain ⟨L, W, hL, hW, hl⟩ := INV_law I
  have hbt : ∀ n, n < N → 0 ≤ h 187 0 (50 + 4 * n) ∧ h 187 0 (50 + 4 * n) ≤ 11 := fun n hn => (I.1.2.1.2.1.2.2.1 n hn).1
  obtain ⟨lf, h1, c1, c2, c3, c4⟩ := cleanNotes_c (lc + 68) 0 H N (h 187 0) h (abM (h 187 0) L) (AbS_of I.1.1 I.1.2.1 W) I.1.1.2.1 hbt
  refine AGp_q I (v := ((bsN lf N : Nat) : Int)) ⟨h1, ?_, fun tt k j hf => c4 tt k j (by unfold csc at hf; unfold miFr gaFr lwFr lvFr; omega)⟩ (fun g s J => ?_)
  · show cl (lc + 80) _ _ _ = _
    rw [in_114]
    simp (disch := omega) only [x_6_0, x_35_0, x_79_2_3_d0, x_79_2_3_d1, x_79_2_3_d2, x_79_2_3_d3, x_79_2_3_d4, x_82, cb_ri, cb_rl, cb_rv, cb_th, cb_ite, ps_s, ps_n, u_114_0, c1]
  · have g7 : hset g 186 0 0 0 187 0 = h 187 0 := by rw [h186_m, Sm_187 s scr_187]
    obtain ⟨h2, l1, l2, l3⟩ := looksA_m (lr + 43) H N (hset g 186 0 0 0) L (by rw [g7]; exact hL) (by rw [g7]; exact I.1.2.1) hW hl (INV_186 0 J).2.2.2.2.2
    rw [g7] at l2
    have k7 : h2 187 0 = h 187 0 := by rw [← g7]; funext j; exact l3 _ _ _ (by unfold loFr mbFr maFr; omega)
    have k6 : h2 206 0 0 = -1 := by rw [l3 _ _ _ (by unfold loFr mbFr maFr; omega)]; exact (INV_186 0 J).2.2.2.2.2
    have main := loop_p (S := Hp) (F := fun b (q : Hp) => run (lr + 79) 264 13 [aA 12 0, aI ((bsN (fun n => lf n && decide (h 187 0 (50 + 4 * n) < (b : Int))) N : Nat) : Int), aI (b : Int)] [] q)
      (I := fun b q => ∀ tt k j, ¬ crFr tt k → q tt k j = h2 tt k j)
      (Q := fun r => ∃ h', r = ri ((bsN lf N : Nat) : Int) h' ∧ ∀ tt k j, ¬ crFr tt k → h' tt k j = h2 tt k j) (N := 12) ?_ ?_ h2 (fun _ _ _ _ => rfl)
    · obtain ⟨h', e1, e2⟩ := main
      refine ⟨h', ?_, Sm_t (rsc_186 g 0) (rsc_oc (fun tt k j hf => by rw [e2 tt k j (fun z => hf (Or.inr z)), l3 tt k j (fun z => hf (Or.inl z))]))⟩
      show cl (lr + 80) _ _ _ = _
      have e0 : bsN (fun n => lf n && decide (h 187 0 (50 + 4 * n) < ((0 : Nat) : Int))) N = 0 := by
        have : ∀ n, n ≤ N → bsN (fun n => lf n && decide (h 187 0 (50 + 4 * n) < ((0 : Nat) : Int))) n = 0 := by
          intro n
          induction n with
          | zero => intro _; rfl
          | succ n ih =>
            intro hn
            rw [bs_f _ (by have := hbt n (by omega); rw [decide_eq_false (by omega), Bool.and_false])]
            exact ih (by omega)
        exact this N (Nat.le_refl _)
      rw [e0] at e1
      rw [← e1, in_264]
      simp (disch := omega) only [x_6_0, x_1, x_36, x_79_1_12_d0, x_79_1_12_d1, x_79_1_12_d2, x_79_1_12_d3, x_79_1_12_d4, x_7_1_I, x_7_1_A, x_7_1_U, x_7_2_I, x_7_2_A, x_7_2_U, x_61, x_4_2, x_65, x_4_1, x_79_2_12_d0, x_79_2_12_d1, x_79_2_12_d2, x_79_2_12_d3, x_79_2_12_d4, x_18, x_10_2_I, x_10_2_A, x_10_2_U, x_60, x_82, cb_ri, cb_rl, cb_rv, cb_th, cb_ite, ps_s, ps_n, u_264_0, u_264_33, l1]
      rfl
    · intro b q hb hq
      have q7 : q 187 0 = h 187 0 := by rw [← k7]; funext j; exact hq _ _ _ (by unfold crFr; omega)
      have q6 : q 206 0 0 = -1 := by rw [hq _ _ _ (by unfold crFr; omega)]; exact k6
      obtain ⟨q', o1, o2⟩ := cleanOf_m (lr + 72) H N (b : Int) q (abM (h 187 0) L) lf (by rw [q7]; exact I.1.2.1) q6 (fun n hn i hi => by rw [hq _ _ _ (by unfold crFr; omega)]; exact l2 n hn i hi) (by rw [q7]; exact c2 b hb)
      rw [q7] at o1
      have lA := bsN_mono (fun n => lf n && decide (h 187 0 (50 + 4 * n) < (b : Int))) hN
      have lB := bsN_mono (fun n => atB (h 187 0) (b : Int) n && lf n) hN
      have io : ior ((bsN (fun n => lf n && decide (h 187 0 (50 + 4 * n) < (b : Int))) N : Nat) : Int) ((bsN (fun n => atB (h 187 0) (b : Int) n && lf n) N : Nat) : Int) = ((bsN (fun n => lf n && decide (h 187 0 (50 + 4 * n) < ((b + 1 : Nat) : Int))) N : Nat) : Int) := by
        rw [ior_n (by omega) (by omega)]
        congr 1
        apply Nat.eq_of_testBit_eq
        intro n
        rw [Nat.testBit_or, bsN_bit, bsN_bit, bsN_bit]
        by_cases c : n < N
        · simp only [c, decide_true, Bool.true_and]
          cases d : lf n with
          | false => simp
          | true =>
            have st := (c3 n d).2
            unfold atB
            rw [st]
            simp only [Bool.true_and, Bool.and_true]
            by_cases e1 : h 187 0 (50 + 4 * n) < (b : Int)
            · rw [decide_eq_true e1, decide_eq_true (show h 187 0 (50 + 4 * n) < ((b + 1 : Nat) : Int) by omega)]; rfl
            · by_cases e2 : h 187 0 (50 + 4 * n) = (b : Int)
              · rw [decide_eq_true e2, decide_eq_true (show h 187 0 (50 + 4 * n) < ((b + 1 : Nat) : Int) by omega), Bool.or_true]
              · rw [decide_eq_false e1, decide_eq_false e2, decide_eq_false (show ¬ h 187 0 (50 + 4 * n) < ((b + 1 : Nat) : Int) by omega)]; rfl
        · simp [c]
      refine ⟨q', ?_, fun tt k j hf => by rw [o2 tt k j hf]; exact hq tt k j hf⟩
      try simp only
      rw [hd_264_13]
      simp (disch := omega) only [x_6_0, x_1, x_36, x_79_1_12_d0, x_79_1_12_d1, x_79_1_12_d2, x_79_1_12_d3, x_79_1_12_d4, x_7_1_I, x_7_1_A, x_7_1_U, x_7_2_I, x_7_2_A, x_7_2_U, x_61, x_4_2, x_65, x_4_1, x_79_2_12_d0, x_79_2_12_d1, x_79_2_12_d2, x_79_2_12_d3, x_79_2_12_d4, x_18, x_10_2_I, x_10_2_A, x_10_2_U, x_60, x_82, cb_ri, cb_rl, cb_rv, cb_th, cb_ite, ps_s, ps_n, u_264_0, u_264_33, o1, io, Int.reduceEq, Int.reduceLT, Int.reduceLE, reduceIte, Int.reduceAdd, Int.reduceSub, Int.reduceMul, Int.reduceNeg, Int.reduceToNat, Bool.false_eq_true, eq_self, if_pos, if_neg, ci, w32_id]
    · intro q hq
      have e0 : bsN (fun n => lf n && decide (h 187 0 (50 + 4 * n) < ((12 : Nat) : Int))) N = bsN lf N := bsN_congr (fun n hn => by have := hbt n hn; rw [decide_eq_true (by omega), Bool.and_true])
      refine ⟨q, ?_, hq⟩
      try simp only
      rw [e0, hd_264_13]
      simp (disch := omega) only [x_6_0, x_1, x_36, x_79_1_12_d0, x_79_1_12_d1, x_79_1_12_d2, x_79_1_12_d3, x_79_1_12_d4, x_7_1_I, x_7_1_A, x_7_1_U, x_7_2_I, x_7_2_A, x_7_2_U, x_61, x_4_2, x_65, x_4_1, x_79_2_12_d0, x_79_2_12_d1, x_79_2_12_d2, x_79_2_12_d3, x_79_2_12_d4, x_18, x_10_2_I, x_10_2_A, x_10_2_U, x_60, x_82, cb_ri, cb_rl, cb_rv, cb_th, cb_ite, ps_s, ps_n, u_264_0, u_264_33, Int.reduceEq, Int.reduceLT, Int.reduceLE, reduceIte, Int.reduceAdd, Int.reduceSub, Int.reduceMul, Int.reduceNeg, Int.reduceToNat, Bool.false_eq_true, eq_self, if_pos, if_neg]
