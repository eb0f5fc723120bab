/-! THE REFERENCE: how many notes are left over. -/
theorem dpp_same {A can : Nat → Nat → Bool} {K : Nat} (far1 far2 : Nat → Nat → Int) {cs : List Nat} (hd : cs.Nodup) (hK : K ≤ 7) (h : ∀ n ∈ cs, ∀ x, x < 7 → A n x = (decide (x < K) && can n x)) : (dpp A far1 7 cs 0).1 = (dpp can far2 K cs 0).1 := by
  refine Nat.le_antisymm ?_ ?_
  · obtain ⟨g, g1, g2⟩ := dpp_ex A far1 7 cs 0 hd
    rw [← g2]
    refine dpp_ub can far2 K cs 0 g hd ⟨fun n hn => ?_, g1.2⟩
    rcases g1.1 n hn with r | ⟨x, r1, r2, r3, r4⟩
    · exact Or.inl r
    · rw [h n hn x r2, Bool.and_eq_true, decide_eq_true_eq] at r3
      exact Or.inr ⟨x, r1, r3.1, r3.2, r4⟩
  · obtain ⟨g, g1, g2⟩ := dpp_ex can far2 K cs 0 hd
    rw [← g2]
    refine dpp_ub A far1 7 cs 0 g hd ⟨fun n hn => ?_, g1.2⟩
    rcases g1.1 n hn with r | ⟨x, r1, r2, r3, r4⟩
    · exact Or.inl r
    · exact Or.inr ⟨x, r1, by omega, by rw [h n hn x (by omega), r3, decide_eq_true r2]; rfl, r4⟩
def ovB (can : Nat → Nat → Bool) (far : Nat → Nat → Int) (K : Nat) (P : Nat → Bool) (N : Nat) : Nat := cnt P N - (dpp can far K (chL P N) 0).1
def ovN (can : Nat → Nat → Bool) (far : Nat → Nat → Int) (K : Nat) (M : Nat → Int) (N : Nat) : Nat := sumN (fun b => ovB can far K (atB M (b : Int)) N) 12
theorem dpp_le (can : Nat → Nat → Bool) (far : Nat → Nat → Int) (K : Nat) (P : Nat → Bool) (N : Nat) : (dpp can far K (chL P N) 0).1 ≤ cnt P N := by
  obtain ⟨g, g1, g2⟩ := dpp_ex can far K (chL P N) 0 (chL_nd P N)
  rw [← g2, msz_cnt]
  exact cnt_mono (fun i _ hp => by rw [Bool.and_eq_true] at hp; exact hp.1)
theorem lv_ov {A can : Nat → Nat → Bool} {K : Nat} (far : Nat → Nat → Int) {M : Nat → Int} {N : Nat} (hK : K ≤ 7) (h : ∀ n, n < N → ∀ x, x < 7 → A n x = (decide (x < K) && can n x)) : lvN A M N = ovN can far K M N := by
  unfold lvN ovN
  refine sumN_congr (fun b hb => ?_)
  unfold lvB ovB
  rw [dpp_same fz far (chL_nd _ _) hK (fun n hn x hx => h n (chL_mem.mp hn).1 x hx)]
theorem chL_bs (P : Nat → Bool) (N : Nat) : chL (fun n => (bsN P N).testBit n) N = chL P N := chL_congr (fun n hn => by rw [bsN_bit]; simp [hn])
theorem overOf_m (lv a H N : Nat) (h : Hp) (can : Nat → Nat → Bool) (G : GM (h 187 0) H N) (ha : adOk (h 206 0 0)) (C : CT h N (hmK H (h 206 0 0)) can) (h14 : a < 16384) :
    ∃ h', cl (lv + 6) 222 [aA 12 0, aI (a : Int)] h = ri ((ovB can (farM (h 187 0) H (h 206 0 0)) (hmK H (h 206 0 0)) (fun n => a.testBit n) N : Nat) : Int) h' ∧ ∀ tt k j, ¬ crFr tt k → h' tt k j = h tt k j := by
  obtain ⟨h', e1, ⟨c1, c2, c3⟩, w⟩ := chordOf_m lv a H N h can G ha C h14
  have hN := G.2.1.2.1
  refine ⟨h', ?_, c3⟩
  have hl := chL_len (fun n => a.testBit n) N
  have hc := cnt_le (fun n => a.testBit n) N
  have hf : ∀ n ∈ chL (fun n => a.testBit n) N, ∀ x, x < hmK H (h 206 0 0) → 0 ≤ farM (h 187 0) H (h 206 0 0) n x ∧ farM (h 187 0) H (h 206 0 0) n x ≤ 63 := fun n hn x hx => farM_b G (chL_mem.mp hn).1 ha hx
  have w0 := w 0 (Nat.zero_le _) 0 (by omega)
  rw [Nat.mul_zero, Nat.add_zero, List.drop_zero, dpv_dpp (Or.inr rfl) _ _ _ _ _ (by omega) hf] at w0
  have b := dpp_b can (farM (h 187 0) H (h 206 0 0)) (hmK H (h 206 0 0)) (chL (fun n => a.testBit n) N) 0 hf
  unfold pdv at w0
  unfold ovB
  generalize hp : dpp can (farM (h 187 0) H (h 206 0 0)) (hmK H (h 206 0 0)) (chL (fun n => a.testBit n) N) 0 = p at w0 b ⊢
  have dv : idiv (100000 * (p.1 : Int) - (p.2 : Int) + 100000 - 1) 100000 = (p.1 : Int) := by
    unfold idiv
    rw [Int.tdiv_eq_ediv_of_nonneg (by omega)]
    have : (100000 * (p.1 : Int) - (p.2 : Int) + 100000 - 1) / 100000 = (p.1 : Int) := by omega
    rw [this]
    exact w32_id (by omega) (by omega)
  rw [hl] at c1 b
  rw [in_222]
  simp (disch := omega) only [x_6_0, x_4_1, x_79_2_12_d0, x_79_2_12_d1, x_79_2_12_d2, x_79_2_12_d3, x_79_2_12_d4, x_33, x_34, x_1, x_38_207, x_11, x_12, x_14, x_82, cb_ri, cb_rl, cb_rv, cb_th, cb_ite, ps_s, ps_n, u_222_0, e1, c1, w0, dv, Int.reduceEq, Int.reduceLT, Int.reduceLE, reduceIte, Int.reduceAdd, Int.reduceSub, Int.reduceMul, Int.reduceNeg, Int.reduceToNat, Bool.false_eq_true, eq_self, if_pos, if_neg, w32_id]
  congr 1
  omega
theorem overAll_m (lv H N : Nat) (h : Hp) (can : Nat → Nat → Bool) (G : GM (h 187 0) H N) (ha : adOk (h 206 0 0)) (C : CT h N (hmK H (h 206 0 0)) can) :
    ∃ h', cl (lv + 7) 225 [aA 12 0] h = ri ((ovN can (farM (h 187 0) H (h 206 0 0)) (hmK H (h 206 0 0)) (h 187 0) N : Nat) : Int) h' ∧ ∀ tt k j, ¬ crFr tt k → h' tt k j = h tt k j := by
  have hN := G.2.1.2.1
  have main := loop_p (S := Hp) (F := fun b (q : Hp) => run (lv + 6) 225 4 [aA 12 0, aI ((sumN (fun b => ovB can (farM (h 187 0) H (h 206 0 0)) (hmK H (h 206 0 0)) (atB (h 187 0) (b : Int)) N) b : Nat) : Int), aI (b : Int)] [] q)
    (I := fun b q => (∀ tt k j, ¬ crFr tt k → q tt k j = h tt k j) ∧ sumN (fun b => ovB can (farM (h 187 0) H (h 206 0 0)) (hmK H (h 206 0 0)) (atB (h 187 0) (b : Int)) N) b ≤ 14 * b)
    (Q := fun r => ∃ h', r = ri ((ovN can (farM (h 187 0) H (h 206 0 0)) (hmK H (h 206 0 0)) (h 187 0) N : Nat) : Int) h' ∧ ∀ tt k j, ¬ crFr tt k → h' tt k j = h tt k j) (N := 12) ?_ ?_ h ⟨fun _ _ _ _ => rfl, Nat.le_refl _⟩
  · rw [in_225]
    simp (disch := omega) only [x_1, x_7_1_I, x_7_1_A, x_7_1_U, x_7_2_I, x_7_2_A, x_7_2_U, x_61, x_4_2, x_65, x_4_1, x_6_0, x_79_2_12_d0, x_79_2_12_d1, x_79_2_12_d2, x_79_2_12_d3, x_79_2_12_d4, x_11, x_10_2_I, x_10_2_A, x_10_2_U, x_60, x_82, cb_ri, cb_rl, cb_rv, cb_th, cb_ite, ps_s, ps_n, u_225_0, u_225_28]
    exact main
  · rintro b q hb ⟨i1, i2⟩
    have q7 : q 187 0 = h 187 0 := by funext j; exact i1 _ _ _ (by unfold crFr; omega)
    have q6 : q 206 0 0 = h 206 0 0 := i1 _ _ _ (by unfold crFr; omega)
    have no := notesOf_c (lv + 3) N (b : Int) q (by rw [q7]; exact G.2.1.1) hN
    rw [q7] at no
    have l14 := bsN_mono (atB (h 187 0) (b : Int)) hN
    obtain ⟨q', e1, e2⟩ := overOf_m lv (bsN (atB (h 187 0) (b : Int)) N) H N q can (by rw [q7]; exact G) (by rw [q6]; exact ha) (by rw [q6]; exact fun n hn i hi => by rw [i1 _ _ _ (by unfold crFr; omega)]; exact C n hn i hi) l14
    rw [q7, q6] at e1
    have ev : ovB can (farM (h 187 0) H (h 206 0 0)) (hmK H (h 206 0 0)) (fun n => (bsN (atB (h 187 0) (b : Int)) N).testBit n) N = ovB can (farM (h 187 0) H (h 206 0 0)) (hmK H (h 206 0 0)) (atB (h 187 0) (b : Int)) N := by
      unfold ovB
      rw [chL_bs, ← chL_len, chL_bs, chL_len]
    rw [ev] at e1
    have lb : ovB can (farM (h 187 0) H (h 206 0 0)) (hmK H (h 206 0 0)) (atB (h 187 0) (b : Int)) N ≤ 14 := Nat.le_trans (Nat.sub_le _ _) (Nat.le_trans (cnt_le _ _) hN)
    refine ⟨q', ?_, fun tt k j hf => by rw [e2 tt k j hf]; exact i1 tt k j hf, by show sumN _ b + _ ≤ _; simp only; omega⟩
    try simp only
    show run _ _ _ _ _ _ = run _ _ _ [aA 12 0, aI ((sumN (fun b => ovB can (farM (h 187 0) H (h 206 0 0)) (hmK H (h 206 0 0)) (atB (h 187 0) (b : Int)) N) b + ovB can (farM (h 187 0) H (h 206 0 0)) (hmK H (h 206 0 0)) (atB (h 187 0) (b : Int)) N : Nat) : Int), _] _ _
    generalize sumN (fun b => ovB can (farM (h 187 0) H (h 206 0 0)) (hmK H (h 206 0 0)) (atB (h 187 0) (b : Int)) N) b = sm at i2 ⊢
    generalize ovB can (farM (h 187 0) H (h 206 0 0)) (hmK H (h 206 0 0)) (atB (h 187 0) (b : Int)) N = ov at e1 lb ⊢
    rw [hd_225_4]
    simp (disch := omega) only [x_1, x_7_1_I, x_7_1_A, x_7_1_U, x_7_2_I, x_7_2_A, x_7_2_U, x_61, x_4_2, x_65, x_4_1, x_6_0, x_79_2_12_d0, x_79_2_12_d1, x_79_2_12_d2, x_79_2_12_d3, x_79_2_12_d4, x_11, x_10_2_I, x_10_2_A, x_10_2_U, x_60, x_82, cb_ri, cb_rl, cb_rv, cb_th, cb_ite, ps_s, ps_n, u_225_0, u_225_28, no, e1, Int.reduceEq, Int.reduceLT, Int.reduceLE, reduceIte, Int.reduceAdd, Int.reduceSub, Int.reduceMul, Int.reduceNeg, Int.reduceToNat, Bool.false_eq_true, eq_self, if_pos, if_neg, ci, w32_id, Int.natCast_add]
  · rintro q ⟨i1, i2⟩
    refine ⟨q, ?_, i1⟩
    try simp only
    rw [hd_225_4]
    simp (disch := omega) only [x_1, x_7_1_I, x_7_1_A, x_7_1_U, x_7_2_I, x_7_2_A, x_7_2_U, x_61, x_4_2, x_65, x_4_1, x_6_0, x_79_2_12_d0, x_79_2_12_d1, x_79_2_12_d2, x_79_2_12_d3, x_79_2_12_d4, x_11, x_10_2_I, x_10_2_A, x_10_2_U, x_60, x_82, cb_ri, cb_rl, cb_rv, cb_th, cb_ite, ps_s, ps_n, u_225_0, u_225_28, Int.reduceEq, Int.reduceLT, Int.reduceLE, reduceIte, Int.reduceAdd, Int.reduceSub, Int.reduceMul, Int.reduceNeg, Int.reduceToNat, Bool.false_eq_true, eq_self, if_pos, if_neg]
    rfl
def ocFr (tt k : Nat) : Prop := loFr tt k ∨ crFr tt k
/-- all that is left over, as the reference sees it -/
def ovM (M : Nat → Int) (L : List LN) (H N : Nat) (ad : Int) : Nat := ovN (cansM M L H ad) (farM M H ad) (hmK H ad) M N
theorem lookOver_m (lv H N : Nat) (h : Hp) (L : List LN) (hL : LM (h 187 0) L) (G : GM (h 187 0) H N) (hW : ∀ x ∈ L, LnG x) (hl : L.length ≤ 12) (ha : adOk (h 206 0 0)) :
    ∃ h1 h2, cl (lv + 36) 218 [aA 12 0] h = rv h1 ∧ cl (lv + 36) 225 [aA 12 0] h1 = ri ((ovM (h 187 0) L H N (h 206 0 0) : Nat) : Int) h2 ∧ ∀ tt k j, ¬ ocFr tt k → h2 tt k j = h tt k j := by
  obtain ⟨h1, a1, a2, a3⟩ := looks_m lv H N h L hL G hW hl ha
  have q7 : h1 187 0 = h 187 0 := by funext j; exact a3 _ _ _ (by unfold loFr mbFr maFr; omega)
  have q6 : h1 206 0 0 = h 206 0 0 := a3 _ _ _ (by unfold loFr mbFr maFr; omega)
  obtain ⟨h2, b1, b2⟩ := overAll_m (lv + 29) H N h1 (cansM (h 187 0) L H (h 206 0 0)) (by rw [q7]; exact G) (by rw [q6]; exact ha) (by rw [q6]; exact a2)
  rw [q7, q6] at b1
  exact ⟨h1, h2, a1, b1, fun tt k j hf => by rw [b2 _ _ _ (fun z => hf (Or.inr z)), a3 _ _ _ (fun z => hf (Or.inl z))]⟩
theorem LM_up {M : Nat → Int} {L : List LN} {j : Nat} {v : Int} (h1 : 3 ≤ j) (h2 : j < 346) (hL : LM M L) : LM (upM M j v) L := by
  unfold LM at hL ⊢
  rw [up_ne (show ¬ 1 = j by omega), up_ne (show ¬ 2 = j by omega)]
  have : (fun i => upM M j v (346 + i)) = fun i => M (346 + i) := by funext i; exact up_ne (by omega)
  rw [this]
  exact hL
theorem GM_bound {M : Nat → Int} {H N i : Nat} {v : Int} (hv : v = 0 ∨ v = 1) (hi : i < 6) (G : GM M H N) : GM (upM M (14 + 6 * i + 5) v) H N := by
  obtain ⟨⟨a1, a2, a3⟩, ⟨b1, b2, b3, b4⟩, ⟨c1, c2, c3, c4, c5⟩⟩ := G
  have u50 : ∀ j, 50 ≤ j → upM M (14 + 6 * i + 5) v j = M j := fun j hj => up_ne (by omega)
  have u14 : ∀ j, j < 14 → upM M (14 + 6 * i + 5) v j = M j := fun j hj => up_ne (by omega)
  refine ⟨⟨by rw [u14 3 (by omega)]; exact a1, a2, fun x hx => ?_⟩, ⟨by rw [u14 4 (by omega)]; exact b1, b2, fun n hn => ?_, fun n n' hn hn' hne s1 s2 q => ?_⟩, ⟨by rw [u14 0 (by omega)]; exact c1, by rw [u14 5 (by omega)]; exact c2, by rw [u14 6 (by omega)]; exact c3, by rw [u14 7 (by omega)]; exact c4, fun j hj => by rw [u14 _ (by omega)]; exact c5 j hj⟩⟩
  · obtain ⟨d1, d2, d3, d4, d5, d6⟩ := a3 x hx
    rw [up_ne (show ¬ 14 + 6 * x = 14 + 6 * i + 5 by omega), up_ne (show ¬ 14 + 6 * x + 1 = 14 + 6 * i + 5 by omega), up_ne (show ¬ 14 + 6 * x + 2 = 14 + 6 * i + 5 by omega), up_ne (show ¬ 14 + 6 * x + 3 = 14 + 6 * i + 5 by omega), up_ne (show ¬ 14 + 6 * x + 4 = 14 + 6 * i + 5 by omega)]
    refine ⟨d1, d2, d3, d4, d5, ?_⟩
    by_cases e : x = i
    · rw [e, up_eq]; exact hv
    · rw [up_ne (by omega)]; exact d6
  · rw [u50 _ (by omega), u50 _ (by omega), u50 _ (by omega), u50 _ (by omega)]; exact b3 n hn
  · unfold stB at s1 s2
    rw [u50 _ (by omega)] at s1 s2
    rw [u50 _ (by omega), u50 _ (by omega)] at q
    rw [u50 _ (by omega), u50 _ (by omega)]
    exact b4 n n' hn hn' hne s1 s2 q
def msV (M : Nat → Int) (L : List LN) (H N i : Nat) : Int := (ovM (upM M (14 + 6 * i + 5) 1) L H N (-1) : Nat) - (ovM M L H N (-1) : Nat)
theorem ovN_b (can : Nat → Nat → Bool) (far : Nat → Nat → Int) (K : Nat) (M : Nat → Int) {N : Nat} (hN : N ≤ 14) : ovN can far K M N ≤ 168 := by
  have : ∀ n, sumN (fun b => ovB can far K (atB M (b : Int)) N) n ≤ 14 * n := by
    intro n
    induction n with
    | zero => exact Nat.le_refl _
    | succ n ih =>
      have lb : ovB can far K (atB M (n : Int)) N ≤ 14 := Nat.le_trans (Nat.sub_le _ _) (Nat.le_trans (cnt_le _ _) hN)
      show sumN _ n + ovB can far K (atB M (n : Int)) N ≤ _
      omega
  exact this 12
theorem mMissed_m (lv H N i : Nat) (h : Hp) (L : List LN) (hL : LM (h 187 0) L) (G : GM (h 187 0) H N) (hW : ∀ x ∈ L, LnG x) (hl : L.length ≤ 12) (ha : h 206 0 0 = -1) (hi : i < H) :
    ∃ h', cl (lv + 37) 231 [aA 12 0, aI (i : Int)] h = ri (msV (h 187 0) L H N i) h' ∧ ∀ tt k j, ¬ ocFr tt k → h' tt k j = h tt k j := by
  have hH := G.1.2.1
  have hN := G.2.1.2.1
  obtain ⟨h1, h2, a1, a2, a3⟩ := lookOver_m lv H N h L hL G hW hl (Or.inl ha)
  have q7 : h2 187 0 = h 187 0 := by funext j; exact a3 _ _ _ (by unfold ocFr loFr mbFr maFr crFr; omega)
  have q6 : h2 206 0 0 = h 206 0 0 := a3 _ _ _ (by unfold ocFr loFr mbFr maFr crFr; omega)
  have i5 : cl (lv + 36) 173 [aA 12 0, aI (i : Int), aI 5] h = ri (h 187 0 (14 + 6 * i + 5)) h := its_c (lv + 35) i 5 h (by omega) (by omega)
  have l5 : cl (lv + 36) 174 [aA 12 0, aI (i : Int), aI 5, aI 1] h2 = rv (hset h2 187 0 (14 + 6 * i + 5) 1) := lays_c (lv + 35) i 5 1 h2 (by omega) (by omega)
  have r7 : hset h2 187 0 (14 + 6 * i + 5) 1 187 0 = upM (h 187 0) (14 + 6 * i + 5) 1 := by rw [hs_M, sM_0, q7]
  have r6 : hset h2 187 0 (14 + 6 * i + 5) 1 206 0 0 = h 206 0 0 := by rw [hs_t (by omega)]; exact q6
  obtain ⟨h3, h4, b1, b2, b3⟩ := lookOver_m lv H N (hset h2 187 0 (14 + 6 * i + 5) 1) L (by rw [r7]; exact LM_up (by omega) (by omega) hL) (by rw [r7]; exact GM_bound (Or.inr rfl) (by omega) G) hW hl (by rw [r6]; exact Or.inl ha)
  rw [r7, r6, ha] at b2
  rw [ha] at a2
  have l6 : cl (lv + 36) 174 [aA 12 0, aI (i : Int), aI 5, aI (h 187 0 (14 + 6 * i + 5))] h4 = rv (hset h4 187 0 (14 + 6 * i + 5) (h 187 0 (14 + 6 * i + 5))) := lays_c (lv + 35) i 5 _ h4 (by omega) (by omega)
  have v1 := ovN_b (cansM (h 187 0) L H (-1)) (farM (h 187 0) H (-1)) (hmK H (-1)) (h 187 0) hN
  have v2 := ovN_b (cansM (upM (h 187 0) (14 + 6 * i + 5) 1) L H (-1)) (farM (upM (h 187 0) (14 + 6 * i + 5) 1) H (-1)) (hmK H (-1)) (upM (h 187 0) (14 + 6 * i + 5) 1) hN
  have v1 : ovM (h 187 0) L H N (-1) ≤ 168 := v1
  have v2 : ovM (upM (h 187 0) (14 + 6 * i + 5) 1) L H N (-1) ≤ 168 := v2
  refine ⟨hset h4 187 0 (14 + 6 * i + 5) (h 187 0 (14 + 6 * i + 5)), ?_, fun tt k j hf => ?_⟩
  · unfold msV
    rw [in_231]
    simp (disch := omega) only [x_6_0, x_4_1, x_1, x_79_3_12_d0, x_79_3_12_d1, x_79_3_12_d2, x_79_3_12_d3, x_79_3_12_d4, x_7_2_I, x_7_2_A, x_7_2_U, x_79_1_12_d0, x_79_1_12_d1, x_79_1_12_d2, x_79_1_12_d3, x_79_1_12_d4, x_7_3_I, x_7_3_A, x_7_3_U, x_79_4_12_d0, x_79_4_12_d1, x_79_4_12_d2, x_79_4_12_d3, x_79_4_12_d4, x_7_4_I, x_7_4_A, x_7_4_U, x_4_2, x_4_4, x_4_3, x_12, x_82, cb_ri, cb_rl, cb_rv, cb_th, cb_ite, ps_s, ps_n, u_231_0, i5, a1, a2, l5, b1, b2, l6, w32_id]
  · by_cases e : tt = 187 ∧ k = 0 ∧ j = 14 + 6 * i + 5
    · obtain ⟨rfl, rfl, rfl⟩ := e; rw [hs_eq]
    · rw [hs_o e, b3 tt k j hf, hs_o e]; exact a3 tt k j hf
