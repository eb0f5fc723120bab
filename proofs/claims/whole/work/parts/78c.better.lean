/-! THE CLASS: a note elsewhere; a hand more. -/
theorem RH_q {h g : Hp} {s : Nat} {M : Nat → Int} {H : Nat} (e : ∀ tt kk j, qT tt → g tt kk j = h tt kk j) (R : RH h s M H) : RH g s M H := by
  obtain ⟨a1, a2, ⟨c, a3, a4, a5⟩, a6⟩ := R
  refine ⟨by rw [e _ _ _ (by unfold qT; omega)]; exact a1, a2, ⟨c, by rw [e _ _ _ (by unfold qT; omega)]; exact a3, a4, a5⟩, fun i hi => ?_⟩
  rw [e _ _ _ (by unfold qT; omega), e _ _ _ (by unfold qT; omega), e _ _ _ (by unfold qT; omega), e _ _ _ (by unfold qT; omega), e _ _ _ (by unfold qT; omega)]
  exact a6 i hi
theorem HdV_of {h : Hp} {s i H : Nat} {M : Nat → Int} (R : RH h s M H) (G : GH M H) (hi : i < H) : HdV h s i H (M (14 + 6 * i)) (M (14 + 6 * i + 1)) (M (14 + 6 * i + 2)) (M (14 + 6 * i + 3)) (M (14 + 6 * i + 4)) (bdB M i) := by
  obtain ⟨a1, a2, ⟨c, a3, a4, a5⟩, a6⟩ := R
  obtain ⟨p1, p2, p3, p4, p5⟩ := a6 i hi
  obtain ⟨g1, g2, g3, g4, g5, -⟩ := G.2.2 i hi
  exact ⟨⟨a1, by omega, hi⟩, ⟨p1, p2, p3, p4, p5⟩, ⟨g1, g2, g3, g4, g5⟩, c, a3, a4, a5 i hi⟩
theorem AbS_of2 {h : Hp} {s H N : Nat} {M : Nat → Int} {L : List LN} (R : RH h s M H) (G : GH M H) (RNn : RN h s M N) (gN : ∀ n, n < N → NV M n) (x6 : h 145 s 0 = M 6) (g6 : 0 ≤ M 6 ∧ M 6 ≤ 9999) (W : LawW h 0 L) : AbS h s H N (abM M L) :=
  ⟨⟨R.1, by have := R.2.1; omega, RNn.1, RNn.2.1⟩, fun lv i n g h1 h2 h3 => by
    have := isAble_g lv 0 s i n H N M g L _ _ _ _ _ _ (HdV_of (RH_q h3 R) G h1) (RN_fr (fun t i a b => h3 t s i (by unfold qT; omega)) RNn) (by rw [h3 _ _ _ (by unfold qT; omega)]; exact x6) g6 (gN n h2) (LawW_q h3 W) h2
    rw [← canB_abl] at this
    exact this⟩
theorem up_up (M : Nat → Int) (j : Nat) (a b : Int) : upM (upM M j a) j b = upM M j b := by funext i; unfold upM; split <;> rfl
theorem up_id {M : Nat → Int} {j : Nat} {v : Int} (h : M j = v) : upM M j v = M := by
  funext i
  by_cases e : i = j
  · rw [e, up_eq, h]
  · rw [up_ne e]
theorem RN_bt {h : Hp} {s n N : Nat} {M : Nat → Int} (v : Int) (R : RN h s M N) : RN (hset h 134 s n v) s (upM M (50 + 4 * n) v) N := by
  obtain ⟨r1, r2, ⟨c, r3, r4, r5⟩, r6⟩ := R
  refine ⟨by rw [hs_t (by omega)]; exact r1, r2, ⟨c, by rw [hs_t (by omega)]; exact r3, r4, fun n' hn' => ?_⟩, fun n' hn' => ?_⟩
  · rw [r5 n' hn']; unfold stB; rw [up_ne (by omega)]
  · obtain ⟨q1, q2, q3⟩ := r6 n' hn'
    refine ⟨?_, by rw [hs_t (by omega), up_ne (show ¬ 50 + 4 * n' + 1 = 50 + 4 * n by omega)]; exact q2, by rw [hs_t (by omega), up_ne (show ¬ 50 + 4 * n' + 2 = 50 + 4 * n by omega)]; exact q3⟩
    by_cases e : n' = n
    · rw [e, hs_eq, up_eq]
    · rw [hs_i e, up_ne (by omega)]; exact q1
theorem RH_bt {h : Hp} {s n H : Nat} {M : Nat → Int} (v : Int) (R : RH h s M H) : RH (hset h 134 s n v) s (upM M (50 + 4 * n) v) H := by
  obtain ⟨a1, a2, ⟨c, a3, a4, a5⟩, a6⟩ := R
  refine ⟨by rw [hs_t (by omega)]; exact a1, a2, ⟨c, by rw [hs_t (by omega)]; exact a3, a4, fun i hi => ?_⟩, fun i hi => ?_⟩
  · rw [a5 i hi]; unfold bdB; rw [up_ne (by omega)]
  · rw [hs_t (by omega), hs_t (by omega), hs_t (by omega), hs_t (by omega), hs_t (by omega), up_ne (show ¬ 14 + 6 * i = 50 + 4 * n by omega), up_ne (show ¬ 14 + 6 * i + 1 = 50 + 4 * n by omega), up_ne (show ¬ 14 + 6 * i + 2 = 50 + 4 * n by omega), up_ne (show ¬ 14 + 6 * i + 3 = 50 + 4 * n by omega), up_ne (show ¬ 14 + 6 * i + 4 = 50 + 4 * n by omega)]
    exact a6 i hi
theorem GH_bt {n H : Nat} {M : Nat → Int} (v : Int) (G : GH M H) : GH (upM M (50 + 4 * n) v) H := by
  obtain ⟨a1, a2, a3⟩ := G
  refine ⟨by rw [up_ne (by omega)]; exact a1, a2, fun i hi => ?_⟩
  rw [up_ne (show ¬ 14 + 6 * i = 50 + 4 * n by omega), up_ne (show ¬ 14 + 6 * i + 1 = 50 + 4 * n by omega), up_ne (show ¬ 14 + 6 * i + 2 = 50 + 4 * n by omega), up_ne (show ¬ 14 + 6 * i + 3 = 50 + 4 * n by omega), up_ne (show ¬ 14 + 6 * i + 4 = 50 + 4 * n by omega), up_ne (show ¬ 14 + 6 * i + 5 = 50 + 4 * n by omega)]
  exact a3 i hi
theorem NV_bt {n : Nat} {M : Nat → Int} {v : Int} (hv : 0 ≤ v ∧ v ≤ 11) {n' : Nat} (g : NV M n') : NV (upM M (50 + 4 * n) v) n' := by
  obtain ⟨a1, a2, a3⟩ := g
  refine ⟨?_, by rw [up_ne (by omega)]; exact a2, by rw [up_ne (by omega)]; exact a3⟩
  by_cases e : n' = n
  · rw [e, up_eq]; exact hv
  · rw [up_ne (by omega)]; exact a1
/-- another note's hands don't change -/
theorem abM_bt {M : Nat → Int} {L : List LN} {n n' i : Nat} {v : Int} (h : n' ≠ n) (hi : i < 6) : abM (upM M (50 + 4 * n) v) L n' i = abM M L n' i := by
  unfold abM stB canB bdB rchV nmH nmV
  rw [up_ne (show ¬ 50 + 4 * n' = 50 + 4 * n by omega), up_ne (show ¬ 50 + 4 * n' + 1 = 50 + 4 * n by omega), up_ne (show ¬ 50 + 4 * n' + 2 = 50 + 4 * n by omega), up_ne (show ¬ 50 + 4 * n' + 3 = 50 + 4 * n by omega), up_ne (show ¬ 14 + 6 * i = 50 + 4 * n by omega), up_ne (show ¬ 14 + 6 * i + 1 = 50 + 4 * n by omega), up_ne (show ¬ 14 + 6 * i + 2 = 50 + 4 * n by omega), up_ne (show ¬ 14 + 6 * i + 3 = 50 + 4 * n by omega), up_ne (show ¬ 14 + 6 * i + 4 = 50 + 4 * n by omega), up_ne (show ¬ 14 + 6 * i + 5 = 50 + 4 * n by omega), up_ne (show ¬ 6 = 50 + 4 * n by omega)]
theorem cnA_bt {M : Nat → Int} {L : List LN} {n n' H : Nat} {v : Int} (h : n' ≠ n) (hH : H ≤ 6) : cnA (abM (upM M (50 + 4 * n) v) L) H n' = cnA (abM M L) H n' := bsN_congr (fun i hi => abM_bt h (by omega))
theorem thB_bt {M : Nat → Int} {n n' : Nat} {v key b : Int} : thB (upM M (50 + 4 * n) v) key b (n : Int) n' = thB M key b (n : Int) n' := by
  unfold thB atB stB
  by_cases e : n' = n
  · subst e; simp
  · rw [up_ne (show ¬ 50 + 4 * n' = 50 + 4 * n by omega), up_ne (show ¬ 50 + 4 * n' + 1 = 50 + 4 * n by omega), up_ne (show ¬ 50 + 4 * n' + 3 = 50 + 4 * n by omega)]
/-- how many are left over with a note at another beat -/
def btV (M : Nat → Int) (L : List LN) (H N n b : Nat) : Nat := lvN (alB (cnA (abM (upM M (50 + 4 * n) (b : Int)) L) H) 0) (upM M (50 + 4 * n) (b : Int)) N
def btFr (s tt k : Nat) : Prop := miFr tt k ∨ (tt = 134 ∧ k = s)
theorem betterBeat_c (lv s n H N own : Nat) (M : Nat → Int) (h : Hp) (L : List LN) (R : RH h s M H) (G : GH M H) (RNn : RN h s M N) (gN : ∀ n, n < N → NV M n) (x6 : h 145 s 0 = M 6) (g6 : 0 ≤ M 6 ∧ M 6 ≤ 9999) (W : LawW h 0 L) (hn : n < N) (ho : M (50 + 4 * n) = (own : Int)) :
    ∃ h', cl (lv + 12) 22 [aA 3 0, aA 7 s, aI (n : Int)] h = ri (((mnF (fun b => !anyB (thB M (M (50 + 4 * n + 1)) (b : Int) (n : Int)) N) (btV M L H N n) (own, btV M L H N n own) 12).1 : Nat) : Int) h' ∧ ∀ tt kk j, ¬ btFr s tt kk → h' tt kk j = h tt kk j := by
  have hN := RNn.2.1
  have hH := R.2.1
  have bt : ∀ b : Nat, b < 12 → ∀ n', n' < N → 0 ≤ upM M (50 + 4 * n) (b : Int) (50 + 4 * n') ∧ upM M (50 + 4 * n) (b : Int) (50 + 4 * n') ≤ 11 := fun b hb n' hn' => (NV_bt (M := M) (n := n) (v := (b : Int)) (by omega) (gN n' hn')).1
  have hown : own < 12 := by have := (gN n hn).1; omega
  have eo : upM M (50 + 4 * n) (own : Int) = M := up_id ho
  -- what is left with the note at beat b, in a state that is like that
  have one : ∀ (q : Hp) (b : Nat), b < 12 → RN q s (upM M (50 + 4 * n) (b : Int)) N → (∀ n', n' < N → q 117 0 n' = ((cnA (abM (upM M (50 + 4 * n) (b : Int)) L) H n' : Nat) : Int)) → ∃ (lf : Nat → Bool) (h' : Hp), cl (lv + 11) 25 [aA 3 0, aA 7 s, aI 0] q = ri ((bsN lf N : Nat) : Int) h' ∧ cl (lv + 11) 315 [aI ((bsN lf N : Nat) : Int)] h' = ri ((btV M L H N n b : Nat) : Int) h' ∧ ∀ tt kk j, ¬ lvFr tt kk → h' tt kk j = q tt kk j := by
    intro q b hb Rq hq
    obtain ⟨lf, h2, b1, b2, b3, b4⟩ := leave_c (lv + 1) s N 0 (upM M (50 + 4 * n) (b : Int)) q (cnA (abM (upM M (50 + 4 * n) (b : Int)) L) H) Rq (bt b hb) (fun n' hn' => ⟨hq n' hn', cnA_lt _ (by omega) n'⟩) (by omega)
    have s1 := lv_sum b2 b3 (bt b hb)
    have bc := bitCount_c (lv + 10) lf N h2 hN
    rw [s1] at bc
    exact ⟨lf, h2, b1, bc, b4⟩
  have vle : ∀ b : Nat, b < 12 → btV M L H N n b ≤ 14 := fun b hb => Nat.le_trans (lvN_le _ _ _ (bt b hb)) hN
  obtain ⟨h1, a1, a2, a3⟩ := gather_c (lv + 6) s H N h (abM M L) (AbS_of2 R G RNn gN x6 g6 W)
  have R1 : RN h1 s M N := RN_fr (fun t i h2 h3 => a3 t s i (by unfold gaFr lwFr; omega)) RNn
  obtain ⟨lf, h2, b1, b2, b3⟩ := one h1 own hown (by rw [eo]; exact R1) (by rw [eo]; exact a2)
  have q34 : h1 134 s n = (own : Int) := by rw [(R1.2.2.2 n hn).1]; exact ho
  have main := loop_p (S := (Nat × AV) × Hp) (F := fun j (q : (Nat × AV) × Hp) => run (lv + 11) 22 26 [aA 3 0, aA 7 s, aI (n : Int), aI (((mnF (fun b => !anyB (thB M (M (50 + 4 * n + 1)) (b : Int) (n : Int)) N) (btV M L H N n) (own, btV M L H N n own) j).1 : Nat) : Int), aI (((mnF (fun b => !anyB (thB M (M (50 + 4 * n + 1)) (b : Int) (n : Int)) N) (btV M L H N n) (own, btV M L H N n own) j).2 : Nat) : Int), aI (j : Int), q.1.2] [] q.2)
    (I := fun j q => q.1.1 < 12 ∧ RN q.2 s (upM M (50 + 4 * n) (q.1.1 : Int)) N ∧ (∀ n', n' < N → q.2 117 0 n' = ((cnA (abM (upM M (50 + 4 * n) (q.1.1 : Int)) L) H n' : Nat) : Int)) ∧ ∀ tt kk j, ¬ btFr s tt kk → q.2 tt kk j = h tt kk j)
    (Q := fun r => ∃ h', r = ri (((mnF (fun b => !anyB (thB M (M (50 + 4 * n + 1)) (b : Int) (n : Int)) N) (btV M L H N n) (own, btV M L H N n own) 12).1 : Nat) : Int) h' ∧ ∀ tt kk j, ¬ btFr s tt kk → h' tt kk j = h tt kk j) (N := 12) ?_ ?_ ((own, none), h2) ?_
  · obtain ⟨h', e1, e2⟩ := main
    refine ⟨h', ?_, e2⟩
    rw [← e1, in_22]
    simp (disch := omega) only [x_6_0, x_6_1, x_79_2_3_d0, x_79_2_3_d1, x_79_2_3_d2, x_79_2_3_d3, x_79_2_3_d4, x_34, x_4_2, x_38_117, x_38_134, x_38_135, x_7_3_I, x_7_3_A, x_7_3_U, x_1, x_79_3_3_d0, x_79_3_3_d1, x_79_3_3_d2, x_79_3_3_d3, x_79_3_3_d4, x_80_1_d0, x_80_1_d1, x_80_1_d2, x_80_1_d3, x_80_1_d4, x_7_4_I, x_7_4_A, x_7_4_U, x_7_5_I, x_7_5_A, x_7_5_U, x_61, x_4_5, x_65, x_79_4_7_d0, x_79_4_7_d1, x_79_4_7_d2, x_79_4_7_d3, x_79_4_7_d4, x_69, x_39_117, x_39_134, x_39_135, x_7_6_I, x_7_6_A, x_7_6_U, x_4_6, x_4_4, x_10_5_I, x_10_5_A, x_10_5_U, x_60, x_4_3, x_82, cb_ri, cb_rl, cb_rv, cb_th, cb_ite, ps_s, ps_n, u_22_0, u_22_94, u_22_100, a1, tn, q34, b1, b2, w32_id]
    rfl
  · rintro j ⟨⟨c, v6⟩, q⟩ hj ⟨i0, i1, i2, i3⟩
    simp only at i0 i1 i2 i3 ⊢
    have q35 : q 135 s n = M (50 + 4 * n + 1) := by rw [(i1.2.2.2 n hn).2.1, up_ne (by omega)]
    have oc := isOccupied_c (lv + 9) s N (upM M (50 + 4 * n) (c : Int)) (j : Int) (M (50 + 4 * n + 1)) (n : Int) q i1
    rw [anyB_congr (fun n' _ => thB_bt)] at oc
    have ml := mnF_le (fun b => !anyB (thB M (M (50 + 4 * n + 1)) (b : Int) (n : Int)) N) (btV M L H N n) (own, btV M L H N n own) j
    have vo := vle own hown
    have vj := vle j hj
    generalize hmn : mnF (fun b => !anyB (thB M (M (50 + 4 * n + 1)) (b : Int) (n : Int)) N) (btV M L H N n) (own, btV M L H N n own) j = mj at ml ⊢
    have hs : mnF (fun b => !anyB (thB M (M (50 + 4 * n + 1)) (b : Int) (n : Int)) N) (btV M L H N n) (own, btV M L H N n own) (j + 1) = if (!anyB (thB M (M (50 + 4 * n + 1)) (j : Int) (n : Int)) N && decide (btV M L H N n j < mj.2)) = true then (j, btV M L H N n j) else mj := by rw [← hmn]; rfl
    rw [hs]
    by_cases oo : anyB (thB M (M (50 + 4 * n + 1)) (j : Int) (n : Int)) N = true
    · refine ⟨((c, v6), q), ?_, i0, i1, i2, i3⟩
      rw [if_pos oo] at oc
      rw [if_neg (by rw [oo]; simp)]
      try simp only
      rw [hd_22_26]
      simp (disch := omega) only [x_6_0, x_6_1, x_79_2_3_d0, x_79_2_3_d1, x_79_2_3_d2, x_79_2_3_d3, x_79_2_3_d4, x_34, x_4_2, x_38_117, x_38_134, x_38_135, x_7_3_I, x_7_3_A, x_7_3_U, x_1, x_79_3_3_d0, x_79_3_3_d1, x_79_3_3_d2, x_79_3_3_d3, x_79_3_3_d4, x_80_1_d0, x_80_1_d1, x_80_1_d2, x_80_1_d3, x_80_1_d4, x_7_4_I, x_7_4_A, x_7_4_U, x_7_5_I, x_7_5_A, x_7_5_U, x_61, x_4_5, x_65, x_79_4_7_d0, x_79_4_7_d1, x_79_4_7_d2, x_79_4_7_d3, x_79_4_7_d4, x_69, x_39_117, x_39_134, x_39_135, x_7_6_I, x_7_6_A, x_7_6_U, x_4_6, x_4_4, x_10_5_I, x_10_5_A, x_10_5_U, x_60, x_4_3, x_82, cb_ri, cb_rl, cb_rv, cb_th, cb_ite, ps_s, ps_n, u_22_0, u_22_94, u_22_100, tn, q35, oc, Int.reduceEq, Int.reduceLT, Int.reduceLE, reduceIte, Int.reduceAdd, Int.reduceSub, Int.reduceMul, Int.reduceNeg, Int.reduceToNat, Bool.false_eq_true, eq_self, if_pos, if_neg, ci, w32_id]
    · rw [if_neg oo] at oc
      have ul : upM (upM M (50 + 4 * n) (c : Int)) (50 + 4 * n) (j : Int) = upM M (50 + 4 * n) (j : Int) := up_up _ _ _ _
      have Rj : RN (hset q 134 s n (j : Int)) s (upM M (50 + 4 * n) (j : Int)) N := by rw [← ul]; exact RN_bt (j : Int) i1
      have qT1 : ∀ tt kk i, qT tt → ¬ (tt = 134 ∧ kk = s) → q tt kk i = h tt kk i := fun tt kk i hq hne => i3 tt kk i (by unfold qT at hq; unfold btFr miFr gaFr lwFr lvFr; omega)
      have RHq : RH (hset q 134 s n (j : Int)) s (upM M (50 + 4 * n) (j : Int)) H := by
        have : RH q s M H := by
          obtain ⟨z1, z2, ⟨cc, z3, z4, z5⟩, z6⟩ := R
          refine ⟨by rw [qT1 _ _ _ (by unfold qT; omega) (by omega)]; exact z1, z2, ⟨cc, by rw [qT1 _ _ _ (by unfold qT; omega) (by omega)]; exact z3, z4, z5⟩, fun i hi => ?_⟩
          rw [qT1 _ _ _ (by unfold qT; omega) (by omega), qT1 _ _ _ (by unfold qT; omega) (by omega), qT1 _ _ _ (by unfold qT; omega) (by omega), qT1 _ _ _ (by unfold qT; omega) (by omega), qT1 _ _ _ (by unfold qT; omega) (by omega)]
          exact z6 i hi
        exact RH_bt (j : Int) this
      have Wq : LawW (hset q 134 s n (j : Int)) 0 L := by
        obtain ⟨W1, W2, W3, W4, W5⟩ := W
        refine ⟨?_, ?_, ?_, ?_, W5⟩
        · rw [hs_t (by omega), qT1 _ _ _ (by unfold qT; omega) (by omega)]; exact W1
        · rw [hs_t (by omega), qT1 _ _ _ (by unfold qT; omega) (by omega)]; exact W2
        · intro i hi; rw [hs_t (by omega), hs_t (by omega), qT1 _ _ _ (by unfold qT; omega) (by omega), qT1 _ _ _ (by unfold qT; omega) (by omega)]; exact W3 i hi
        · intro i hi; rw [hs_t (by omega), qT1 _ _ _ (by unfold qT; omega) (by omega)]; exact W4 i hi
      have B : AbS (hset q 134 s n (j : Int)) s H N (abM (upM M (50 + 4 * n) (j : Int)) L) := AbS_of2 RHq (GH_bt (j : Int) G) Rj (fun n' hn' => NV_bt (by omega) (gN n' hn')) (by rw [hs_t (by omega), qT1 _ _ _ (by unfold qT; omega) (by omega), up_ne (by omega)]; exact x6) (by rw [up_ne (by omega)]; exact g6) Wq
      obtain ⟨h3, f1, f2⟩ := handsFor_c (lv + 7) s n H N _ _ B hn
      have R3 : RN (hset h3 117 0 n ((bsN (abM (upM M (50 + 4 * n) (j : Int)) L n) H : Nat) : Int)) s (upM M (50 + 4 * n) (j : Int)) N := RN_fr (fun t i a b => by rw [hs_t (by omega)]; exact f2 t s i (by unfold lwFr; omega)) Rj
      obtain ⟨lf', h4, d1, d2, d3⟩ := one (hset h3 117 0 n ((bsN (abM (upM M (50 + 4 * n) (j : Int)) L n) H : Nat) : Int)) j hj R3 (fun n' hn' => by
        by_cases e : n' = n
        · rw [e, hs_eq]; rfl
        · rw [hs_i e, f2 _ _ _ (by unfold lwFr; omega), hs_t (by omega), i2 n' hn', cnA_bt e hH, cnA_bt e hH])
      have fr4 : ∀ tt kk i, ¬ btFr s tt kk → h4 tt kk i = h tt kk i := by
        intro tt kk i hf
        have hf2 := hf
        unfold btFr miFr gaFr at hf2
        rw [d3 _ _ _ (fun z => hf2 (Or.inl (Or.inr z))), hs_o (fun z => hf2 (Or.inl (Or.inl (Or.inr ⟨z.1, z.2.1⟩)))), f2 _ _ _ (fun z => hf2 (Or.inl (Or.inl (Or.inl z)))), hs_o (fun z => hf2 (Or.inr ⟨z.1, z.2.1⟩))]
        exact i3 tt kk i hf
      have R4 : RN h4 s (upM M (50 + 4 * n) (j : Int)) N := RN_fr (fun t i a b => d3 t s i (by unfold lvFr; omega)) R3
      have c4 : ∀ n', n' < N → h4 117 0 n' = ((cnA (abM (upM M (50 + 4 * n) (j : Int)) L) H n' : Nat) : Int) := fun n' hn' => by
        rw [d3 _ _ _ (by unfold lvFr; omega)]
        by_cases e : n' = n
        · rw [e, hs_eq]; rfl
        · rw [hs_i e, f2 _ _ _ (by unfold lwFr; omega), hs_t (by omega), i2 n' hn', cnA_bt e hH, cnA_bt e hH]
      by_cases lt : btV M L H N n j < mj.2
      · refine ⟨((j, aI ((btV M L H N n j : Nat) : Int)), h4), ?_, hj, R4, c4, fr4⟩
        rw [if_pos (by rw [Bool.eq_false_iff.mpr oo]; simpa using lt)]
        try simp only
        rw [hd_22_26]
        simp (disch := omega) only [x_6_0, x_6_1, x_79_2_3_d0, x_79_2_3_d1, x_79_2_3_d2, x_79_2_3_d3, x_79_2_3_d4, x_34, x_4_2, x_38_117, x_38_134, x_38_135, x_7_3_I, x_7_3_A, x_7_3_U, x_1, x_79_3_3_d0, x_79_3_3_d1, x_79_3_3_d2, x_79_3_3_d3, x_79_3_3_d4, x_80_1_d0, x_80_1_d1, x_80_1_d2, x_80_1_d3, x_80_1_d4, x_7_4_I, x_7_4_A, x_7_4_U, x_7_5_I, x_7_5_A, x_7_5_U, x_61, x_4_5, x_65, x_79_4_7_d0, x_79_4_7_d1, x_79_4_7_d2, x_79_4_7_d3, x_79_4_7_d4, x_69, x_39_117, x_39_134, x_39_135, x_7_6_I, x_7_6_A, x_7_6_U, x_4_6, x_4_4, x_10_5_I, x_10_5_A, x_10_5_U, x_60, x_4_3, x_82, cb_ri, cb_rl, cb_rv, cb_th, cb_ite, ps_s, ps_n, u_22_0, u_22_94, u_22_100, tn, q35, oc, f1, d1, d2, Int.reduceEq, Int.reduceLT, Int.reduceLE, reduceIte, Int.reduceAdd, Int.reduceSub, Int.reduceMul, Int.reduceNeg, Int.reduceToNat, Bool.false_eq_true, eq_self, if_pos, if_neg, ci, w32_id]
      · refine ⟨((j, aI ((btV M L H N n j : Nat) : Int)), h4), ?_, hj, R4, c4, fr4⟩
        rw [if_neg (by rw [Bool.eq_false_iff.mpr oo]; simpa using lt)]
        try simp only
        rw [hd_22_26]
        simp (disch := omega) only [x_6_0, x_6_1, x_79_2_3_d0, x_79_2_3_d1, x_79_2_3_d2, x_79_2_3_d3, x_79_2_3_d4, x_34, x_4_2, x_38_117, x_38_134, x_38_135, x_7_3_I, x_7_3_A, x_7_3_U, x_1, x_79_3_3_d0, x_79_3_3_d1, x_79_3_3_d2, x_79_3_3_d3, x_79_3_3_d4, x_80_1_d0, x_80_1_d1, x_80_1_d2, x_80_1_d3, x_80_1_d4, x_7_4_I, x_7_4_A, x_7_4_U, x_7_5_I, x_7_5_A, x_7_5_U, x_61, x_4_5, x_65, x_79_4_7_d0, x_79_4_7_d1, x_79_4_7_d2, x_79_4_7_d3, x_79_4_7_d4, x_69, x_39_117, x_39_134, x_39_135, x_7_6_I, x_7_6_A, x_7_6_U, x_4_6, x_4_4, x_10_5_I, x_10_5_A, x_10_5_U, x_60, x_4_3, x_82, cb_ri, cb_rl, cb_rv, cb_th, cb_ite, ps_s, ps_n, u_22_0, u_22_94, u_22_100, tn, q35, oc, f1, d1, d2, Int.reduceEq, Int.reduceLT, Int.reduceLE, reduceIte, Int.reduceAdd, Int.reduceSub, Int.reduceMul, Int.reduceNeg, Int.reduceToNat, Bool.false_eq_true, eq_self, if_pos, if_neg, ci, w32_id]
  · rintro ⟨⟨c, v6⟩, q⟩ ⟨i0, i1, i2, i3⟩
    simp only at i3 ⊢
    refine ⟨q, ?_, i3⟩
    rw [hd_22_26]
    simp (disch := omega) only [x_6_0, x_6_1, x_79_2_3_d0, x_79_2_3_d1, x_79_2_3_d2, x_79_2_3_d3, x_79_2_3_d4, x_34, x_4_2, x_38_117, x_38_134, x_38_135, x_7_3_I, x_7_3_A, x_7_3_U, x_1, x_79_3_3_d0, x_79_3_3_d1, x_79_3_3_d2, x_79_3_3_d3, x_79_3_3_d4, x_80_1_d0, x_80_1_d1, x_80_1_d2, x_80_1_d3, x_80_1_d4, x_7_4_I, x_7_4_A, x_7_4_U, x_7_5_I, x_7_5_A, x_7_5_U, x_61, x_4_5, x_65, x_79_4_7_d0, x_79_4_7_d1, x_79_4_7_d2, x_79_4_7_d3, x_79_4_7_d4, x_69, x_39_117, x_39_134, x_39_135, x_7_6_I, x_7_6_A, x_7_6_U, x_4_6, x_4_4, x_10_5_I, x_10_5_A, x_10_5_U, x_60, x_4_3, x_82, cb_ri, cb_rl, cb_rv, cb_th, cb_ite, ps_s, ps_n, u_22_0, u_22_94, u_22_100, Int.reduceEq, Int.reduceLT, Int.reduceLE, reduceIte, Int.reduceAdd, Int.reduceSub, Int.reduceMul, Int.reduceNeg, Int.reduceToNat, Bool.false_eq_true, eq_self, if_pos, if_neg]
  · refine ⟨hown, ?_, fun n' hn' => ?_, fun tt kk i hf => ?_⟩
    · simp only; rw [eo]; exact RN_fr (fun t i a b => b3 t s i (by unfold lvFr; omega)) R1
    · simp only; rw [eo, b3 _ _ _ (by unfold lvFr; omega)]; exact a2 n' hn'
    · try simp only
      unfold btFr miFr at hf
      rw [b3 _ _ _ (fun z => hf (Or.inl (Or.inr z))), a3 _ _ _ (fun z => hf (Or.inl (Or.inl z)))]
