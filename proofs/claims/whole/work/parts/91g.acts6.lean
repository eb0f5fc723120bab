/-! IMAGE AND BACK. -/
theorem copy746 {F : Nat → Hp → Option Rs} (a b : Nat) (hab : a ≠ b) (g : Hp) (hs : ∀ i p, i < 746 → (∀ tt k j, ¬ (k = 0 ∧ tt = a) → p tt k j = g tt k j) → F i p = F (i + 1) (hset p a 0 i (g b 0 i))) : ∃ p, F 0 g = F 746 p ∧ (∀ j, j < 746 → p a 0 j = g b 0 j) ∧ (∀ j, 746 ≤ j → p a 0 j = g a 0 j) ∧ ∀ tt k j, ¬ (k = 0 ∧ tt = a) → p tt k j = g tt k j := by
  refine loop_p (S := Hp) (F := F)
    (I := fun i p => (∀ j, j < i → p a 0 j = g b 0 j) ∧ (∀ j, 746 ≤ j → p a 0 j = g a 0 j) ∧ ∀ tt k j, ¬ (k = 0 ∧ tt = a) → p tt k j = g tt k j)
    (Q := fun r => ∃ p, r = F 746 p ∧ (∀ j, j < 746 → p a 0 j = g b 0 j) ∧ (∀ j, 746 ≤ j → p a 0 j = g a 0 j) ∧ ∀ tt k j, ¬ (k = 0 ∧ tt = a) → p tt k j = g tt k j) (N := 746) ?_ ?_ g ⟨fun j hj => by omega, fun _ _ => rfl, fun _ _ _ _ => rfl⟩
  · rintro i p hi ⟨i1, i2, i3⟩
    refine ⟨hset p a 0 i (g b 0 i), hs i p hi i3, fun j hj => ?_, fun j hj => by rw [hs_i (by omega)]; exact i2 j hj, fun tt k j hf => by rw [hs_o (by omega)]; exact i3 tt k j hf⟩
    by_cases c : j = i
    · rw [c, hs_eq]
    · rw [hs_i c]; exact i1 j (by omega)
  · rintro p i
    exact ⟨p, rfl, i⟩
theorem RS_746 {h : Hp} {k : Nat} {M M' : Nat → Int} {H N : Nat} (e : ∀ i, i < 746 → M' i = M i) (R : RS h k M H N) : RS h k M' H N := RS_mem (fun i h1 _ _ => e i (by omega)) R
theorem GM_746 {M M' : Nat → Int} {H N : Nat} (e : ∀ i, i < 746 → M' i = M i) (G : GM M H N) : GM M' H N := GM_mem (fun i h1 _ _ => e i (by omega)) G
theorem LawR_cp {h h' : Hp} {k k' : Nat} {M M' : Nat → Int} (c : CP h h' k k' tgW) (e : ∀ i, i < 746 → M' i = M i) (R : LawR h k M) : LawR h' k' M' := by
  obtain ⟨L, W, hL, h3⟩ := R
  exact ⟨L, LawW_cp c W, LM_l e hL, by rw [c.2.1 113 1 0 (by simp [tgW]) (by omega), h3, e 1 (by omega)]⟩
/-- an act with no answer that never throws -/
def AGw (C R : Hp → Option Rs) (h : Hp) : Prop := ∃ (h1 h2 : Hp), C h = rv h1 ∧ R h1 = rv h2 ∧ (∃ H N, INV h2 H N) ∧ (∀ j, h2 22 0 j = h 22 0 j) ∧ h2 27 0 0 = h 27 0 0
theorem ag_image (lc lr H N : Nat) (h : Hp) (I : INV h H N) : AGw (fun h => cl (lc + 80) 145 [aA 11 0] h) (fun h => cl (lr + 80) 310 [aA 12 0] h) h := by
  obtain ⟨⟨r1, r2, r3⟩, ⟨en, t1, t2, t3, t4⟩, im, ⟨S, nw, p1, p2, p3, p4, p5, p6⟩, f, ad⟩ := I
  obtain ⟨ha, c1, c2⟩ := copyFrom_c (lc + 77) 0 2 h (by omega)
  obtain ⟨hb, d1, d2⟩ := lawCopy_c (lc + 78) 0 1 ha (by omega)
  let hc : Hp := hset hb 185 0 0 1
  have ka := cpS c2
  have kb := cpW d2
  have o : ∀ tt k j, ¬ (stFr 2 tt k ∨ (k = 1 ∧ 104 ≤ tt ∧ tt ≤ 113) ∨ (k = 0 ∧ tt = 185)) → hc tt k j = h tt k j := fun tt k j hf => by
    show hset hb 185 0 0 1 tt k j = _
    rw [hs_o (fun z => hf (Or.inr (Or.inr (by omega)))), kb tt k j (fun z => hf (Or.inr (Or.inl z))), ka tt k j (fun z => hf (Or.inl z))]
  have o1 : ∀ tt j, 186 ≤ tt → hc tt 0 j = h tt 0 j := fun tt j ht => o tt 0 j (by unfold stFr; omega)
  obtain ⟨p, m1, m2, m3, m4⟩ := copy746 (F := fun i q => run (lr + 79) 310 7 [aA 12 0, aI (i : Int)] [] q) 188 187 (by omega) (hset hc 186 0 0 0) (fun i p hi hp => by
    have e : p 187 0 i = hset hc 186 0 0 0 187 0 i := hp _ _ _ (by omega)
    try simp only
    rw [hd_310_7]
    simp (disch := omega) only [x_6_0, x_1, x_36, x_7_1_I, x_7_1_A, x_7_1_U, x_61, x_4_1, x_65, x_34, x_38_187, x_38_188, x_39_187, x_39_188, x_10_1_I, x_10_1_A, x_10_1_U, x_60, x_37, x_83, u_310_0, u_310_32, tn, e, Int.reduceEq, Int.reduceLT, Int.reduceLE, reduceIte, Int.reduceAdd, Int.reduceSub, Int.reduceMul, Int.reduceNeg, Int.reduceToNat, Bool.false_eq_true, eq_self, if_pos, if_neg, ci, w32_id])
  let h2 : Hp := hset p 189 0 0 1
  have tot : ∀ tt k j, ¬ (stFr 2 tt k ∨ (k = 1 ∧ 104 ≤ tt ∧ tt ≤ 113) ∨ (k = 0 ∧ (tt = 185 ∨ tt = 186 ∨ tt = 188 ∨ tt = 189))) → h2 tt k j = h tt k j := fun tt k j hf => by
    have n1 : ¬ stFr 2 tt k := fun z => hf (Or.inl z)
    have n2 : ¬ (k = 1 ∧ 104 ≤ tt ∧ tt ≤ 113) := fun z => hf (Or.inr (Or.inl z))
    have n3 : ¬ (k = 0 ∧ (tt = 185 ∨ tt = 186 ∨ tt = 188 ∨ tt = 189)) := fun z => hf (Or.inr (Or.inr z))
    show hset p 189 0 0 1 tt k j = _
    rw [hs_o (by omega), m4 tt k j (by omega), hs_o (by omega)]
    exact o tt k j (fun z => z.elim n1 (fun z => z.elim n2 (fun z => n3 (by omega))))
  have cc : ∀ tt k j, tt < 185 → h2 tt k j = hb tt k j := fun tt k j ht => by
    show hset p 189 0 0 1 tt k j = _
    rw [hs_o (by omega), m4 tt k j (by omega), hs_o (by omega)]
    exact hs_o (by omega)
  have m7 : h2 187 0 = h 187 0 := funext (fun j => tot _ _ _ (by unfold stFr stTag; omega))
  have m8 : ∀ j, j < 746 → h2 188 0 j = h 187 0 j := fun j hj => by
    show hset p 189 0 0 1 188 0 j = _
    rw [hs_t (by omega), m2 j hj, hs_t (by omega), o1 _ _ (by omega)]
  have am : ∀ a, actM h2 a = actM h a := fun a => funext (fun j => by unfold actM; rw [m7, tot 191 0 _ (by unfold stFr stTag; omega)])
  have hi : ∀ tt j, tt ≤ 184 ∨ tt = 187 ∨ 190 ≤ tt → h2 tt 0 j = h tt 0 j := fun tt j ht => tot _ _ _ (by unfold stFr; omega)
  have e85 : h2 185 0 0 = 1 := by
    show hset p 189 0 0 1 185 0 0 = 1
    rw [hs_t (by omega), m4 _ _ _ (by omega), hs_t (by omega)]
    exact hs_eq _ _ _ _ _
  have Z : INV h2 H N := by
    refine ⟨⟨by rw [m7]; exact RS_e (fun t i ht => hi t i (by unfold stTag at ht; omega)) r1, by rw [m7]; exact r2, by rw [m7]; exact LawR_e (fun tt j ht => hi tt j (by omega)) (fun _ _ => rfl) r3⟩, ⟨en, t1, by rw [hi _ _ (by omega)]; exact t2, by rw [hi _ _ (by omega)]; exact t3, fun j hj => by rw [hi 193 _ (by omega), hi 148 _ (by omega)]; exact t4 j hj⟩, ⟨by rw [e85]; exact (hs_eq _ _ _ _ _).symm, Or.inr ⟨e85, H, N, ?_, GM_746 m8 r2, ?_⟩⟩, ⟨S, nw, by rw [hi _ _ (by omega)]; exact p1, by rw [hi _ _ (by omega)]; exact p2, p3, by rw [hi _ _ (by omega)]; exact p4, p5, fun a ha => ?_⟩, by rw [hi _ _ (by omega), hi _ _ (by omega)]; exact f, by rw [hi _ _ (by omega)]; exact ad⟩
    · refine RS_746 m8 (RS_e (fun t i ht => ?_) (RS_cp c2 r1))
      unfold stTag at ht
      rw [cc t 2 i (by omega)]
      exact kb _ _ _ (by omega)
    · have l1 : LawR ha 0 (h 187 0) := LawR_e (fun tt j ht => ka tt 0 j (by unfold stFr; omega)) (fun _ _ => rfl) r3
      have l2 : LawR hb 1 (h2 188 0) := LawR_cp d2 m8 l1
      exact LawR_e (fun tt j ht => cc tt 1 j (by omega)) (fun _ _ => rfl) l2
    · obtain ⟨H2, N2, q1, q2, q3, q4⟩ := p6 a ha
      rw [am, m7]
      exact ⟨H2, N2, RS_e (fun t i ht => tot t _ i (by unfold stFr; omega)) q1, q2, q3, q4⟩
  refine ⟨hc, h2, ?_, ?_, ⟨H, N, Z⟩, fun j => hi _ _ (by omega), hi _ _ (by omega)⟩
  · show cl (lc + 80) _ _ _ = _
    rw [in_145]
    simp (disch := omega) only [x_6_0, x_35_2, x_35_0, x_79_2_7_d0, x_79_2_7_d1, x_79_2_7_d2, x_79_2_7_d3, x_79_2_7_d4, x_35_1, x_79_2_1_d0, x_79_2_1_d1, x_79_2_1_d2, x_79_2_1_d3, x_79_2_1_d4, x_1, x_37, x_83, cb_ri, cb_rl, cb_rv, cb_th, cb_ite, ps_s, ps_n, u_145_0, c1, d1, Int.reduceEq, Int.reduceLT, Int.reduceLE, reduceIte, Int.reduceAdd, Int.reduceSub, Int.reduceMul, Int.reduceNeg, Int.reduceToNat, Bool.false_eq_true, eq_self, if_pos, if_neg]
    rfl
  · have m1 : run (lr + 79) 310 7 [aA 12 0, aI 0] [] (hset hc 186 0 0 0) = run (lr + 79) 310 7 [aA 12 0, aI ((746 : Nat) : Int)] [] p := m1
    show cl (lr + 80) _ _ _ = _
    rw [in_310]
    simp (disch := omega) only [x_6_0, x_1, x_36, x_7_1_I, x_7_1_A, x_7_1_U, x_61, x_4_1, x_65, x_34, x_38_187, x_38_188, x_39_187, x_39_188, x_10_1_I, x_10_1_A, x_10_1_U, x_60, x_37, x_83, u_310_0, u_310_32, Int.reduceEq, Int.reduceLT, Int.reduceLE, reduceIte, Int.reduceAdd, Int.reduceSub, Int.reduceMul, Int.reduceNeg, Int.reduceToNat, Bool.false_eq_true, eq_self, if_pos, if_neg]
    rw [m1, hd_310_7]
    simp (disch := omega) only [x_6_0, x_1, x_36, x_7_1_I, x_7_1_A, x_7_1_U, x_61, x_4_1, x_65, x_34, x_38_187, x_38_188, x_39_187, x_39_188, x_10_1_I, x_10_1_A, x_10_1_U, x_60, x_37, x_83, u_310_0, u_310_32, Int.reduceEq, Int.reduceLT, Int.reduceLE, reduceIte, Int.reduceAdd, Int.reduceSub, Int.reduceMul, Int.reduceNeg, Int.reduceToNat, Bool.false_eq_true, eq_self, if_pos, if_neg]
    rfl
theorem ag_back (lc lr H N : Nat) (h : Hp) (I : INV h H N) : AGp (fun h => cl (lc + 80) 146 [aA 11 0] h) (fun h => cl (lr + 80) 311 [aA 12 0] h) h := by
  obtain ⟨⟨r1, r2, r3⟩, tp, ⟨i1, i2⟩, ⟨S, nw, p1, p2, p3, p4, p5, p6⟩, f, ad⟩ := I
  have I : INV h H N := ⟨⟨r1, r2, r3⟩, tp, ⟨i1, i2⟩, ⟨S, nw, p1, p2, p3, p4, p5, p6⟩, f, ad⟩
  rcases i2 with z | ⟨z, H2, N2, y1, y2, y3⟩
  · refine AGp_q I (v := 0) ⟨h, ?_, Sm_r _ _⟩ (fun g s J => ⟨hset g 186 0 0 0, ?_, rsc_186 g 0⟩)
    · show cl (lc + 80) _ _ _ = _
      rw [in_146]
      simp (disch := omega) only [x_6_0, x_33, x_69, x_1, x_85, x_35_0, x_35_2, x_79_2_7_d0, x_79_2_7_d1, x_79_2_7_d2, x_79_2_7_d3, x_79_2_7_d4, x_35_1, x_79_2_1_d0, x_79_2_1_d1, x_79_2_1_d2, x_79_2_1_d3, x_79_2_1_d4, x_79_1_5_d0, x_79_1_5_d1, x_79_1_5_d2, x_79_1_5_d3, x_79_1_5_d4, cb_ri, cb_rl, cb_rv, cb_th, cb_ite, ps_s, ps_n, u_146_0, u_146_9, z, Int.reduceEq, Int.reduceLT, Int.reduceLE, reduceIte, Int.reduceAdd, Int.reduceSub, Int.reduceMul, Int.reduceNeg, Int.reduceToNat, Bool.false_eq_true, eq_self, if_pos, if_neg]
    · have a : hset g 186 0 0 0 189 0 0 = 0 := by rw [hs_t (by omega), s _ _ _ (by unfold scr csc rsc stTag; omega), ← i1]; exact z
      show cl (lr + 80) _ _ _ = _
      rw [in_311]
      simp (disch := omega) only [x_6_0, x_1, x_36, x_33, x_69, x_85, x_7_1_I, x_7_1_A, x_7_1_U, x_61, x_4_1, x_65, x_34, x_38_187, x_38_188, x_39_187, x_39_188, x_10_1_I, x_10_1_A, x_10_1_U, x_60, u_311_0, u_311_14, u_311_41, a, Int.reduceEq, Int.reduceLT, Int.reduceLE, reduceIte, Int.reduceAdd, Int.reduceSub, Int.reduceMul, Int.reduceNeg, Int.reduceToNat, Bool.false_eq_true, eq_self, if_pos, if_neg]
  · obtain ⟨ha, c1, c2⟩ := copyFrom_c (lc + 77) 2 0 h (by omega)
    obtain ⟨hb, d1, d2⟩ := lawCopy_c (lc + 78) 1 0 ha (by omega)
    let hc : Hp := hset hb 126 0 0 0
    have fg : cl (lc + 79) 39 [aA 5 0] hb = rv hc := by
      show cl ((lc + 78) + 1) _ _ _ = _
      rw [in_39]
      simp (disch := omega) only [x_6_0, x_1, x_36, x_83, u_39_0, Int.reduceEq, Int.reduceLT, Int.reduceLE, reduceIte, Int.reduceAdd, Int.reduceSub, Int.reduceMul, Int.reduceNeg, Int.reduceToNat, Bool.false_eq_true, eq_self, if_pos, if_neg]
      rfl
    have ka := cpS c2
    have kb := cpW d2
    have o : ∀ tt k j, ¬ (stFr 0 tt k ∨ (k = 0 ∧ ((104 ≤ tt ∧ tt ≤ 113) ∨ tt = 126))) → hc tt k j = h tt k j := fun tt k j hf => by
      show hset hb 126 0 0 0 tt k j = _
      rw [hs_o (fun z => hf (Or.inr (by omega))), kb tt k j (fun z => hf (Or.inr (by omega))), ka tt k j (fun z => hf (Or.inl z))]
    have o1 : ∀ tt j, 186 ≤ tt → hc tt 0 j = h tt 0 j := fun tt j ht => o tt 0 j (by unfold stFr stTag; omega)
    obtain ⟨p, m1, m2, m3, m4⟩ := copy746 (F := fun i q => run (lr + 79) 311 16 [aA 12 0, aI (i : Int)] [] q) 187 188 (by omega) (hset hc 186 0 0 0) (fun i p hi hp => by
      have e : p 188 0 i = hset hc 186 0 0 0 188 0 i := hp _ _ _ (by omega)
      try simp only
      rw [hd_311_16]
      simp (disch := omega) only [x_6_0, x_1, x_36, x_33, x_69, x_85, x_7_1_I, x_7_1_A, x_7_1_U, x_61, x_4_1, x_65, x_34, x_38_187, x_38_188, x_39_187, x_39_188, x_10_1_I, x_10_1_A, x_10_1_U, x_60, u_311_0, u_311_14, u_311_41, tn, e, Int.reduceEq, Int.reduceLT, Int.reduceLE, reduceIte, Int.reduceAdd, Int.reduceSub, Int.reduceMul, Int.reduceNeg, Int.reduceToNat, Bool.false_eq_true, eq_self, if_pos, if_neg, ci, w32_id])
    let h2 : Hp := hset p 192 0 0 0
    have tot : ∀ tt k j, ¬ (stFr 0 tt k ∨ (k = 0 ∧ ((104 ≤ tt ∧ tt ≤ 113) ∨ tt = 126 ∨ tt = 186 ∨ tt = 187 ∨ tt = 192))) → h2 tt k j = h tt k j := fun tt k j hf => by
      have n1 : ¬ stFr 0 tt k := fun z => hf (Or.inl z)
      have n3 : ¬ (k = 0 ∧ ((104 ≤ tt ∧ tt ≤ 113) ∨ tt = 126 ∨ tt = 186 ∨ tt = 187 ∨ tt = 192)) := fun z => hf (Or.inr z)
      show hset p 192 0 0 0 tt k j = _
      rw [hs_o (by omega), m4 tt k j (by omega), hs_o (by omega)]
      exact o tt k j (fun z => z.elim n1 (fun z => n3 (by omega)))
    have cc : ∀ tt k j, tt < 186 → h2 tt k j = hc tt k j := fun tt k j ht => by
      show hset p 192 0 0 0 tt k j = _
      rw [hs_o (by omega), m4 tt k j (by omega), hs_o (by omega)]
    have m7 : ∀ j, j < 746 → h2 187 0 j = h 188 0 j := fun j hj => by
      show hset p 192 0 0 0 187 0 j = _
      rw [hs_t (by omega), m2 j hj, hs_t (by omega), o1 _ _ (by omega)]
    have Z : INV h2 H2 N2 := by
      refine INV_of I (fun tt k j hf => tot tt k j (fun z => hf ?_)) ?_ (GM_746 m7 y2) ?_ (PastR_0 (nw := nw) ?_ (hs_eq _ _ _ _ _) (by rw [tot _ _ _ (by unfold stFr stTag; omega)]; exact p4) p5) (by rw [tot _ _ _ (by unfold stFr stTag; omega), tot _ _ _ (by unfold stFr stTag; omega)]; exact f)
      · rcases z with z | z
        · exact Or.inl z
        · by_cases c : tt = 186
          · exact Or.inr (Or.inr (scr_m (by unfold rsc; omega)))
          · exact Or.inr (Or.inl (by omega))
      · refine RS_746 m7 (RS_e (fun t i ht => ?_) (RS_cp c2 y1))
        unfold stTag at ht
        rw [cc t 0 i (by omega)]
        show hset hb 126 0 0 0 t 0 i = _
        rw [hs_o (by omega)]
        exact kb _ _ _ (by omega)
      · have l1 : LawR ha 1 (h 188 0) := LawR_e (fun tt j ht => ka tt 1 j (by unfold stFr; omega)) (fun _ _ => rfl) y3
        have l2 : LawR hb 0 (h2 187 0) := LawR_cp d2 m7 l1
        refine LawR_e (fun tt j ht => ?_) (fun _ _ => rfl) l2
        rw [cc tt 0 j (by omega)]
        exact hs_o (by omega)
      · rw [cc _ _ _ (by omega)]; exact hs_eq _ _ _ _ _
    refine ⟨1, hc, h2, ?_, ?_, ⟨H2, N2, Z⟩, fun j => tot _ _ _ (by unfold stFr stTag; omega), tot _ _ _ (by unfold stFr stTag; omega)⟩
    · show cl (lc + 80) _ _ _ = _
      rw [in_146]
      simp (disch := omega) only [x_6_0, x_33, x_69, x_1, x_85, x_35_0, x_35_2, x_79_2_7_d0, x_79_2_7_d1, x_79_2_7_d2, x_79_2_7_d3, x_79_2_7_d4, x_35_1, x_79_2_1_d0, x_79_2_1_d1, x_79_2_1_d2, x_79_2_1_d3, x_79_2_1_d4, x_79_1_5_d0, x_79_1_5_d1, x_79_1_5_d2, x_79_1_5_d3, x_79_1_5_d4, cb_ri, cb_rl, cb_rv, cb_th, cb_ite, ps_s, ps_n, u_146_0, u_146_9, z, c1, d1, fg, Int.reduceEq, Int.reduceLT, Int.reduceLE, reduceIte, Int.reduceAdd, Int.reduceSub, Int.reduceMul, Int.reduceNeg, Int.reduceToNat, Bool.false_eq_true, eq_self, if_pos, if_neg]
    · have m1 : run (lr + 79) 311 16 [aA 12 0, aI 0] [] (hset hc 186 0 0 0) = run (lr + 79) 311 16 [aA 12 0, aI ((746 : Nat) : Int)] [] p := m1
      have a : hset hc 186 0 0 0 189 0 0 = 1 := by rw [hs_t (by omega), o1 _ _ (by omega), ← i1]; exact z
      show cl (lr + 80) _ _ _ = _
      rw [in_311]
      simp (disch := omega) only [x_6_0, x_1, x_36, x_33, x_69, x_85, x_7_1_I, x_7_1_A, x_7_1_U, x_61, x_4_1, x_65, x_34, x_38_187, x_38_188, x_39_187, x_39_188, x_10_1_I, x_10_1_A, x_10_1_U, x_60, u_311_0, u_311_14, u_311_41, a, Int.reduceEq, Int.reduceLT, Int.reduceLE, reduceIte, Int.reduceAdd, Int.reduceSub, Int.reduceMul, Int.reduceNeg, Int.reduceToNat, Bool.false_eq_true, eq_self, if_pos, if_neg]
      rw [m1, hd_311_16]
      simp (disch := omega) only [x_6_0, x_1, x_36, x_33, x_69, x_85, x_7_1_I, x_7_1_A, x_7_1_U, x_61, x_4_1, x_65, x_34, x_38_187, x_38_188, x_39_187, x_39_188, x_10_1_I, x_10_1_A, x_10_1_U, x_60, u_311_0, u_311_14, u_311_41, Int.reduceEq, Int.reduceLT, Int.reduceLE, reduceIte, Int.reduceAdd, Int.reduceSub, Int.reduceMul, Int.reduceNeg, Int.reduceToNat, Bool.false_eq_true, eq_self, if_pos, if_neg]
      rfl
/-! COUNT. -/
theorem sw8D : swD 8 = 209 := id rfl
theorem sw8T : swT 8 = [(0, 72), (1, 80), (2, 88), (3, 96), (4, 104), (5, 112), (6, 120), (7, 128), (8, 138), (9, 148), (10, 158), (11, 168), (12, 190), (13, 201)] := id rfl
theorem stBits {M : Nat → Int} {N c : Nat} (hN : N ≤ 14) (hc : c < 16384) (e : ∀ n, n < N → c.testBit n = !(stB M n)) : iand (ishl 1 (N : Int) - 1) (ixor (c : Int) (-1)) = ((bsN (stB M) N : Nat) : Int) := by
  have h2 : 2 ^ N ≤ 2 ^ 14 := Nat.pow_le_pow_right (by omega) hN
  have h3 : 0 < 2 ^ N := Nat.pow_pos (by omega)
  have e1 : ishl 1 (N : Int) - 1 = ((2 ^ N - 1 : Nat) : Int) := by rw [ishl_1 N (by omega)]; omega
  rw [e1, iandn_n (by omega) (by omega)]
  congr 1
  apply Nat.eq_of_testBit_eq
  intro i
  rw [bsN_bit, Nat.testBit_xor, Nat.testBit_and, Nat.testBit_two_pow_sub_one]
  by_cases ci : i < N
  · rw [e i ci, decide_eq_true ci]; cases stB M i <;> rfl
  · rw [decide_eq_false ci]; rfl
def cnW (M : Nat → Int) (S : Int) (N : Nat) (x : Int) : Int := if x = 0 then M 3 else if x = 1 then M 4 else if x = 2 then M 0 else if x = 3 then M 1 else if 4 ≤ x ∧ x ≤ 10 then M (1 + x.toNat) else if x = 11 then ((bsN (stB M) N : Nat) : Int) else if x = 12 then M 12 else if x = 13 then S else -1
theorem count_m (lv N : Nat) (x S : Int) (h : Hp) (h4 : h 187 0 4 = (N : Int)) (hN : N ≤ 14) (hS : h 192 0 0 = S) : cl (lv + 3) 312 [aA 12 0, aI x] h = ri (cnW (h 187 0) S N x) (hset h 186 0 0 0) := by
  have ii := isIn_c (lv + 1) x 4 10 (hset h 186 0 0 0)
  have gm : ∀ j, (hset h 186 0 0 0) 187 0 j = h 187 0 j := fun j => hs_t (by omega)
  have g2 : (hset h 186 0 0 0) 192 0 0 = S := by rw [← hS]; exact hs_t (by omega)
  have lp : run (lv + 2) 312 102 [aA 12 0, aI x, aI 0, aI 0] [] (hset h 186 0 0 0) = ri (if x = 11 then ((bsN (stB (h 187 0)) N : Nat) : Int) else -1) (hset h 186 0 0 0) := by
    refine loop_up (F := fun i => run (lv + 2) 312 102 [aA 12 0, aI x, aI ((bsN (stB (h 187 0)) i : Nat) : Int), aI (i : Int)] [] (hset h 186 0 0 0)) (N := N) ?_ ?_ 0 (by omega)
    · intro i hi
      have st := stands_c lv i (hset h 186 0 0 0) (by omega)
      have g7 : (hset h 186 0 0 0) 187 0 = h 187 0 := funext gm
      rw [g7] at st
      show run _ _ _ _ _ _ = run _ _ _ _ _ _
      rw [hd_312_102]
      cases c : stB (h 187 0) i with
      | true =>
        rw [c, if_pos rfl] at st
        rw [bs_s _ c]
        simp (disch := omega) only [x_6_0, x_1, x_36, x_4_1, x_69, x_34, x_38_187, x_82, x_63, x_80_3_d0, x_80_3_d1, x_80_3_d2, x_80_3_d3, x_80_3_d4, x_68, x_11, x_12, x_33, x_7_2_I, x_7_2_A, x_7_2_U, x_7_3_I, x_7_3_A, x_7_3_U, x_61, x_4_3, x_65, x_4_2, x_79_2_12_d0, x_79_2_12_d1, x_79_2_12_d2, x_79_2_12_d3, x_79_2_12_d4, x_20, x_60, x_18, x_10_3_I, x_10_3_A, x_10_3_U, cb_ri, cb_rl, cb_rv, cb_th, cb_ite, ps_s, ps_n, u_312_0, u_312_16, u_312_28, u_312_40, u_312_52, u_312_73, u_312_87, u_312_98, u_312_127, u_312_128, u_312_136, u_312_146, u_312_147, gm, h4, st, bs_or, Int.reduceEq, Int.reduceLT, Int.reduceLE, reduceIte, Int.reduceAdd, Int.reduceSub, Int.reduceMul, Int.reduceNeg, Int.reduceToNat, Bool.false_eq_true, eq_self, if_pos, if_neg, ci, w32_id]
      | false =>
        rw [c, if_neg Bool.false_ne_true] at st
        rw [bs_f _ c]
        have z := bs_z (P := stB (h 187 0)) (n := i) (by omega)
        simp (disch := omega) only [x_6_0, x_1, x_36, x_4_1, x_69, x_34, x_38_187, x_82, x_63, x_80_3_d0, x_80_3_d1, x_80_3_d2, x_80_3_d3, x_80_3_d4, x_68, x_11, x_12, x_33, x_7_2_I, x_7_2_A, x_7_2_U, x_7_3_I, x_7_3_A, x_7_3_U, x_61, x_4_3, x_65, x_4_2, x_79_2_12_d0, x_79_2_12_d1, x_79_2_12_d2, x_79_2_12_d3, x_79_2_12_d4, x_20, x_60, x_18, x_10_3_I, x_10_3_A, x_10_3_U, cb_ri, cb_rl, cb_rv, cb_th, cb_ite, ps_s, ps_n, u_312_0, u_312_16, u_312_28, u_312_40, u_312_52, u_312_73, u_312_87, u_312_98, u_312_127, u_312_128, u_312_136, u_312_146, u_312_147, gm, h4, st, z, Int.reduceEq, Int.reduceLT, Int.reduceLE, reduceIte, Int.reduceAdd, Int.reduceSub, Int.reduceMul, Int.reduceNeg, Int.reduceToNat, Bool.false_eq_true, eq_self, if_pos, if_neg, ci, w32_id]
    · show run _ _ _ _ _ _ = _
      rw [hd_312_102]
      by_cases c : x = 11
      · rw [if_pos c]
        simp (disch := omega) only [x_6_0, x_1, x_36, x_4_1, x_69, x_34, x_38_187, x_82, x_63, x_80_3_d0, x_80_3_d1, x_80_3_d2, x_80_3_d3, x_80_3_d4, x_68, x_11, x_12, x_33, x_7_2_I, x_7_2_A, x_7_2_U, x_7_3_I, x_7_3_A, x_7_3_U, x_61, x_4_3, x_65, x_4_2, x_79_2_12_d0, x_79_2_12_d1, x_79_2_12_d2, x_79_2_12_d3, x_79_2_12_d4, x_20, x_60, x_18, x_10_3_I, x_10_3_A, x_10_3_U, cb_ri, cb_rl, cb_rv, cb_th, cb_ite, ps_s, ps_n, u_312_0, u_312_16, u_312_28, u_312_40, u_312_52, u_312_73, u_312_87, u_312_98, u_312_127, u_312_128, u_312_136, u_312_146, u_312_147, gm, h4, Int.reduceEq, Int.reduceLT, Int.reduceLE, reduceIte, Int.reduceAdd, Int.reduceSub, Int.reduceMul, Int.reduceNeg, Int.reduceToNat, Bool.false_eq_true, eq_self, if_pos, if_neg]
      · rw [if_neg c]
        simp (disch := omega) only [x_6_0, x_1, x_36, x_4_1, x_69, x_34, x_38_187, x_82, x_63, x_80_3_d0, x_80_3_d1, x_80_3_d2, x_80_3_d3, x_80_3_d4, x_68, x_11, x_12, x_33, x_7_2_I, x_7_2_A, x_7_2_U, x_7_3_I, x_7_3_A, x_7_3_U, x_61, x_4_3, x_65, x_4_2, x_79_2_12_d0, x_79_2_12_d1, x_79_2_12_d2, x_79_2_12_d3, x_79_2_12_d4, x_20, x_60, x_18, x_10_3_I, x_10_3_A, x_10_3_U, cb_ri, cb_rl, cb_rv, cb_th, cb_ite, ps_s, ps_n, u_312_0, u_312_16, u_312_28, u_312_40, u_312_52, u_312_73, u_312_87, u_312_98, u_312_127, u_312_128, u_312_136, u_312_146, u_312_147, gm, h4, Int.reduceEq, Int.reduceLT, Int.reduceLE, reduceIte, Int.reduceAdd, Int.reduceSub, Int.reduceMul, Int.reduceNeg, Int.reduceToNat, Bool.false_eq_true, eq_self, if_pos, if_neg]
  rw [in_312]
  unfold cnW
  by_cases c0 : x = 0
  · rw [if_pos c0]
    simp (disch := omega) only [x_6_0, x_1, x_36, x_4_1, x_69, x_34, x_38_187, x_82, x_63, x_80_3_d0, x_80_3_d1, x_80_3_d2, x_80_3_d3, x_80_3_d4, x_68, x_11, x_12, x_33, x_7_2_I, x_7_2_A, x_7_2_U, x_7_3_I, x_7_3_A, x_7_3_U, x_61, x_4_3, x_65, x_4_2, x_79_2_12_d0, x_79_2_12_d1, x_79_2_12_d2, x_79_2_12_d3, x_79_2_12_d4, x_20, x_60, x_18, x_10_3_I, x_10_3_A, x_10_3_U, cb_ri, cb_rl, cb_rv, cb_th, cb_ite, ps_s, ps_n, u_312_0, u_312_16, u_312_28, u_312_40, u_312_52, u_312_73, u_312_87, u_312_98, u_312_127, u_312_128, u_312_136, u_312_146, u_312_147, gm, Int.reduceEq, Int.reduceLT, Int.reduceLE, reduceIte, Int.reduceAdd, Int.reduceSub, Int.reduceMul, Int.reduceNeg, Int.reduceToNat, Bool.false_eq_true, eq_self, if_pos, if_neg]
  rw [if_neg c0]
  by_cases c1 : x = 1
  · rw [if_pos c1]
    simp (disch := omega) only [x_6_0, x_1, x_36, x_4_1, x_69, x_34, x_38_187, x_82, x_63, x_80_3_d0, x_80_3_d1, x_80_3_d2, x_80_3_d3, x_80_3_d4, x_68, x_11, x_12, x_33, x_7_2_I, x_7_2_A, x_7_2_U, x_7_3_I, x_7_3_A, x_7_3_U, x_61, x_4_3, x_65, x_4_2, x_79_2_12_d0, x_79_2_12_d1, x_79_2_12_d2, x_79_2_12_d3, x_79_2_12_d4, x_20, x_60, x_18, x_10_3_I, x_10_3_A, x_10_3_U, cb_ri, cb_rl, cb_rv, cb_th, cb_ite, ps_s, ps_n, u_312_0, u_312_16, u_312_28, u_312_40, u_312_52, u_312_73, u_312_87, u_312_98, u_312_127, u_312_128, u_312_136, u_312_146, u_312_147, gm, Int.reduceEq, Int.reduceLT, Int.reduceLE, reduceIte, Int.reduceAdd, Int.reduceSub, Int.reduceMul, Int.reduceNeg, Int.reduceToNat, Bool.false_eq_true, eq_self, if_pos, if_neg]
  rw [if_neg c1]
  by_cases c2 : x = 2
  · rw [if_pos c2]
    simp (disch := omega) only [x_6_0, x_1, x_36, x_4_1, x_69, x_34, x_38_187, x_82, x_63, x_80_3_d0, x_80_3_d1, x_80_3_d2, x_80_3_d3, x_80_3_d4, x_68, x_11, x_12, x_33, x_7_2_I, x_7_2_A, x_7_2_U, x_7_3_I, x_7_3_A, x_7_3_U, x_61, x_4_3, x_65, x_4_2, x_79_2_12_d0, x_79_2_12_d1, x_79_2_12_d2, x_79_2_12_d3, x_79_2_12_d4, x_20, x_60, x_18, x_10_3_I, x_10_3_A, x_10_3_U, cb_ri, cb_rl, cb_rv, cb_th, cb_ite, ps_s, ps_n, u_312_0, u_312_16, u_312_28, u_312_40, u_312_52, u_312_73, u_312_87, u_312_98, u_312_127, u_312_128, u_312_136, u_312_146, u_312_147, gm, Int.reduceEq, Int.reduceLT, Int.reduceLE, reduceIte, Int.reduceAdd, Int.reduceSub, Int.reduceMul, Int.reduceNeg, Int.reduceToNat, Bool.false_eq_true, eq_self, if_pos, if_neg]
  rw [if_neg c2]
  by_cases c3 : x = 3
  · rw [if_pos c3]
    simp (disch := omega) only [x_6_0, x_1, x_36, x_4_1, x_69, x_34, x_38_187, x_82, x_63, x_80_3_d0, x_80_3_d1, x_80_3_d2, x_80_3_d3, x_80_3_d4, x_68, x_11, x_12, x_33, x_7_2_I, x_7_2_A, x_7_2_U, x_7_3_I, x_7_3_A, x_7_3_U, x_61, x_4_3, x_65, x_4_2, x_79_2_12_d0, x_79_2_12_d1, x_79_2_12_d2, x_79_2_12_d3, x_79_2_12_d4, x_20, x_60, x_18, x_10_3_I, x_10_3_A, x_10_3_U, cb_ri, cb_rl, cb_rv, cb_th, cb_ite, ps_s, ps_n, u_312_0, u_312_16, u_312_28, u_312_40, u_312_52, u_312_73, u_312_87, u_312_98, u_312_127, u_312_128, u_312_136, u_312_146, u_312_147, gm, Int.reduceEq, Int.reduceLT, Int.reduceLE, reduceIte, Int.reduceAdd, Int.reduceSub, Int.reduceMul, Int.reduceNeg, Int.reduceToNat, Bool.false_eq_true, eq_self, if_pos, if_neg]
  rw [if_neg c3]
  by_cases c4 : 4 ≤ x ∧ x ≤ 10
  · rw [if_pos c4]
    rw [if_pos c4] at ii
    have e : (5 + x - 4).toNat = 1 + x.toNat := by omega
    simp (disch := omega) only [x_6_0, x_1, x_36, x_4_1, x_69, x_34, x_38_187, x_82, x_63, x_80_3_d0, x_80_3_d1, x_80_3_d2, x_80_3_d3, x_80_3_d4, x_68, x_11, x_12, x_33, x_7_2_I, x_7_2_A, x_7_2_U, x_7_3_I, x_7_3_A, x_7_3_U, x_61, x_4_3, x_65, x_4_2, x_79_2_12_d0, x_79_2_12_d1, x_79_2_12_d2, x_79_2_12_d3, x_79_2_12_d4, x_20, x_60, x_18, x_10_3_I, x_10_3_A, x_10_3_U, cb_ri, cb_rl, cb_rv, cb_th, cb_ite, ps_s, ps_n, u_312_0, u_312_16, u_312_28, u_312_40, u_312_52, u_312_73, u_312_87, u_312_98, u_312_127, u_312_128, u_312_136, u_312_146, u_312_147, ii, e, gm, Int.reduceEq, Int.reduceLT, Int.reduceLE, reduceIte, Int.reduceAdd, Int.reduceSub, Int.reduceMul, Int.reduceNeg, Int.reduceToNat, Bool.false_eq_true, eq_self, if_pos, if_neg, w32_id]
  rw [if_neg c4]
  rw [if_neg c4] at ii
  by_cases c12 : x = 12
  · rw [if_neg (show ¬ x = 11 by omega), if_pos c12]
    simp (disch := omega) only [x_6_0, x_1, x_36, x_4_1, x_69, x_34, x_38_187, x_82, x_63, x_80_3_d0, x_80_3_d1, x_80_3_d2, x_80_3_d3, x_80_3_d4, x_68, x_11, x_12, x_33, x_7_2_I, x_7_2_A, x_7_2_U, x_7_3_I, x_7_3_A, x_7_3_U, x_61, x_4_3, x_65, x_4_2, x_79_2_12_d0, x_79_2_12_d1, x_79_2_12_d2, x_79_2_12_d3, x_79_2_12_d4, x_20, x_60, x_18, x_10_3_I, x_10_3_A, x_10_3_U, cb_ri, cb_rl, cb_rv, cb_th, cb_ite, ps_s, ps_n, u_312_0, u_312_16, u_312_28, u_312_40, u_312_52, u_312_73, u_312_87, u_312_98, u_312_127, u_312_128, u_312_136, u_312_146, u_312_147, ii, gm, Int.reduceEq, Int.reduceLT, Int.reduceLE, reduceIte, Int.reduceAdd, Int.reduceSub, Int.reduceMul, Int.reduceNeg, Int.reduceToNat, Bool.false_eq_true, eq_self, if_pos, if_neg]
  by_cases c13 : x = 13
  · rw [if_neg (show ¬ x = 11 by omega), if_neg c12, if_pos c13]
    simp (disch := omega) only [x_6_0, x_1, x_36, x_4_1, x_69, x_34, x_38_187, x_82, x_63, x_80_3_d0, x_80_3_d1, x_80_3_d2, x_80_3_d3, x_80_3_d4, x_68, x_11, x_12, x_33, x_7_2_I, x_7_2_A, x_7_2_U, x_7_3_I, x_7_3_A, x_7_3_U, x_61, x_4_3, x_65, x_4_2, x_79_2_12_d0, x_79_2_12_d1, x_79_2_12_d2, x_79_2_12_d3, x_79_2_12_d4, x_20, x_60, x_18, x_10_3_I, x_10_3_A, x_10_3_U, cb_ri, cb_rl, cb_rv, cb_th, cb_ite, ps_s, ps_n, u_312_0, u_312_16, u_312_28, u_312_40, u_312_52, u_312_73, u_312_87, u_312_98, u_312_127, u_312_128, u_312_136, u_312_146, u_312_147, ii, g2, Int.reduceEq, Int.reduceLT, Int.reduceLE, reduceIte, Int.reduceAdd, Int.reduceSub, Int.reduceMul, Int.reduceNeg, Int.reduceToNat, Bool.false_eq_true, eq_self, if_pos, if_neg]
  · have : (if x = 11 then ((bsN (stB (h 187 0)) N : Nat) : Int) else if x = 12 then h 187 0 12 else if x = 13 then S else -1) = if x = 11 then ((bsN (stB (h 187 0)) N : Nat) : Int) else -1 := by
      by_cases c11 : x = 11
      · rw [if_pos c11, if_pos c11]
      · rw [if_neg c11, if_neg c11, if_neg c12, if_neg c13]
    rw [this, ← lp]
    simp (disch := omega) only [x_6_0, x_1, x_36, x_4_1, x_69, x_34, x_38_187, x_82, x_63, x_80_3_d0, x_80_3_d1, x_80_3_d2, x_80_3_d3, x_80_3_d4, x_68, x_11, x_12, x_33, x_7_2_I, x_7_2_A, x_7_2_U, x_7_3_I, x_7_3_A, x_7_3_U, x_61, x_4_3, x_65, x_4_2, x_79_2_12_d0, x_79_2_12_d1, x_79_2_12_d2, x_79_2_12_d3, x_79_2_12_d4, x_20, x_60, x_18, x_10_3_I, x_10_3_A, x_10_3_U, cb_ri, cb_rl, cb_rv, cb_th, cb_ite, ps_s, ps_n, u_312_0, u_312_16, u_312_28, u_312_40, u_312_52, u_312_73, u_312_87, u_312_98, u_312_127, u_312_128, u_312_136, u_312_146, u_312_147, ii, Int.reduceEq, Int.reduceLT, Int.reduceLE, reduceIte, Int.reduceAdd, Int.reduceSub, Int.reduceMul, Int.reduceNeg, Int.reduceToNat, Bool.false_eq_true, eq_self, if_pos, if_neg]
theorem count_c (lv H N : Nat) (x : Int) (h : Hp) (I : INV h H N) : cl (lv + 1) 147 [aA 11 0, aI x] h = ri (cnW (h 187 0) (h 192 0 0) N x) h := by
  obtain ⟨⟨⟨q1, q2⟩, ⟨q3, q4, ⟨c, q5, q6, q7⟩, -⟩, ⟨x1, x2, x3, x4, x5, x6⟩, ⟨nl, Sl, -, -, l3, l4, -⟩⟩, ⟨⟨g3, -⟩, ⟨g4, -⟩, -⟩, ⟨L, W, hL, w3⟩⟩ := I.1
  obtain ⟨S, nw, p1, p2, -⟩ := I.2.2.2.1
  have b := stBits q4 q6 q7
  have y0 : h 137 0 0 = h 187 0 8 := x6 0 (by omega)
  have y1 : h 137 0 1 = h 187 0 9 := x6 1 (by omega)
  have y2 : h 137 0 2 = h 187 0 10 := x6 2 (by omega)
  have y3 : h 137 0 3 = h 187 0 11 := x6 3 (by omega)
  have hp : 2 ^ N ≤ 2 ^ 14 := Nat.pow_le_pow_right (by omega) q4
  have hp0 : 0 < 2 ^ N := Nat.pow_pos (by omega)
  have sh := ishl_1 N (by omega)
  rw [sh] at b
  rw [in_147]
  by_cases r : 0 ≤ x ∧ x ≤ 13
  · have : x = 0 ∨ x = 1 ∨ x = 2 ∨ x = 3 ∨ x = 4 ∨ x = 5 ∨ x = 6 ∨ x = 7 ∨ x = 8 ∨ x = 9 ∨ x = 10 ∨ x = 11 ∨ x = 12 ∨ x = 13 := by omega
    rcases this with rfl | rfl | rfl | rfl | rfl | rfl | rfl | rfl | rfl | rfl | rfl | rfl | rfl | rfl
    · simp (disch := omega) only [x_4_1, x_76, x_6_0, x_35_0, x_33, x_82, x_34, x_1, x_38_137, x_20, x_12, x_19, x_17, sw_n, sw_c, u_147_0, u_147_72, u_147_80, u_147_88, u_147_96, u_147_104, u_147_112, u_147_120, u_147_128, u_147_138, u_147_148, u_147_158, u_147_168, u_147_190, u_147_201, u_147_209, sw8D, sw8T, q1, ← g3, Int.reduceEq, Int.reduceLT, Int.reduceLE, reduceIte, Int.reduceAdd, Int.reduceSub, Int.reduceMul, Int.reduceNeg, Int.reduceToNat, Bool.false_eq_true, eq_self, if_pos, if_neg]; rfl
    · simp (disch := omega) only [x_4_1, x_76, x_6_0, x_35_0, x_33, x_82, x_34, x_1, x_38_137, x_20, x_12, x_19, x_17, sw_n, sw_c, u_147_0, u_147_72, u_147_80, u_147_88, u_147_96, u_147_104, u_147_112, u_147_120, u_147_128, u_147_138, u_147_148, u_147_158, u_147_168, u_147_190, u_147_201, u_147_209, sw8D, sw8T, q3, ← g4, Int.reduceEq, Int.reduceLT, Int.reduceLE, reduceIte, Int.reduceAdd, Int.reduceSub, Int.reduceMul, Int.reduceNeg, Int.reduceToNat, Bool.false_eq_true, eq_self, if_pos, if_neg]; rfl
    · simp (disch := omega) only [x_4_1, x_76, x_6_0, x_35_0, x_33, x_82, x_34, x_1, x_38_137, x_20, x_12, x_19, x_17, sw_n, sw_c, u_147_0, u_147_72, u_147_80, u_147_88, u_147_96, u_147_104, u_147_112, u_147_120, u_147_128, u_147_138, u_147_148, u_147_158, u_147_168, u_147_190, u_147_201, u_147_209, sw8D, sw8T, x1, Int.reduceEq, Int.reduceLT, Int.reduceLE, reduceIte, Int.reduceAdd, Int.reduceSub, Int.reduceMul, Int.reduceNeg, Int.reduceToNat, Bool.false_eq_true, eq_self, if_pos, if_neg]; rfl
    · simp (disch := omega) only [x_4_1, x_76, x_6_0, x_35_0, x_33, x_82, x_34, x_1, x_38_137, x_20, x_12, x_19, x_17, sw_n, sw_c, u_147_0, u_147_72, u_147_80, u_147_88, u_147_96, u_147_104, u_147_112, u_147_120, u_147_128, u_147_138, u_147_148, u_147_158, u_147_168, u_147_190, u_147_201, u_147_209, sw8D, sw8T, w3, Int.reduceEq, Int.reduceLT, Int.reduceLE, reduceIte, Int.reduceAdd, Int.reduceSub, Int.reduceMul, Int.reduceNeg, Int.reduceToNat, Bool.false_eq_true, eq_self, if_pos, if_neg]; rfl
    · simp (disch := omega) only [x_4_1, x_76, x_6_0, x_35_0, x_33, x_82, x_34, x_1, x_38_137, x_20, x_12, x_19, x_17, sw_n, sw_c, u_147_0, u_147_72, u_147_80, u_147_88, u_147_96, u_147_104, u_147_112, u_147_120, u_147_128, u_147_138, u_147_148, u_147_158, u_147_168, u_147_190, u_147_201, u_147_209, sw8D, sw8T, x2, Int.reduceEq, Int.reduceLT, Int.reduceLE, reduceIte, Int.reduceAdd, Int.reduceSub, Int.reduceMul, Int.reduceNeg, Int.reduceToNat, Bool.false_eq_true, eq_self, if_pos, if_neg]; rfl
    · simp (disch := omega) only [x_4_1, x_76, x_6_0, x_35_0, x_33, x_82, x_34, x_1, x_38_137, x_20, x_12, x_19, x_17, sw_n, sw_c, u_147_0, u_147_72, u_147_80, u_147_88, u_147_96, u_147_104, u_147_112, u_147_120, u_147_128, u_147_138, u_147_148, u_147_158, u_147_168, u_147_190, u_147_201, u_147_209, sw8D, sw8T, x3, Int.reduceEq, Int.reduceLT, Int.reduceLE, reduceIte, Int.reduceAdd, Int.reduceSub, Int.reduceMul, Int.reduceNeg, Int.reduceToNat, Bool.false_eq_true, eq_self, if_pos, if_neg]; rfl
    · simp (disch := omega) only [x_4_1, x_76, x_6_0, x_35_0, x_33, x_82, x_34, x_1, x_38_137, x_20, x_12, x_19, x_17, sw_n, sw_c, u_147_0, u_147_72, u_147_80, u_147_88, u_147_96, u_147_104, u_147_112, u_147_120, u_147_128, u_147_138, u_147_148, u_147_158, u_147_168, u_147_190, u_147_201, u_147_209, sw8D, sw8T, x4, Int.reduceEq, Int.reduceLT, Int.reduceLE, reduceIte, Int.reduceAdd, Int.reduceSub, Int.reduceMul, Int.reduceNeg, Int.reduceToNat, Bool.false_eq_true, eq_self, if_pos, if_neg]; rfl
    · simp (disch := omega) only [x_4_1, x_76, x_6_0, x_35_0, x_33, x_82, x_34, x_1, x_38_137, x_20, x_12, x_19, x_17, sw_n, sw_c, u_147_0, u_147_72, u_147_80, u_147_88, u_147_96, u_147_104, u_147_112, u_147_120, u_147_128, u_147_138, u_147_148, u_147_158, u_147_168, u_147_190, u_147_201, u_147_209, sw8D, sw8T, tn, y0, Int.reduceEq, Int.reduceLT, Int.reduceLE, reduceIte, Int.reduceAdd, Int.reduceSub, Int.reduceMul, Int.reduceNeg, Int.reduceToNat, Bool.false_eq_true, eq_self, if_pos, if_neg]; rfl
    · simp (disch := omega) only [x_4_1, x_76, x_6_0, x_35_0, x_33, x_82, x_34, x_1, x_38_137, x_20, x_12, x_19, x_17, sw_n, sw_c, u_147_0, u_147_72, u_147_80, u_147_88, u_147_96, u_147_104, u_147_112, u_147_120, u_147_128, u_147_138, u_147_148, u_147_158, u_147_168, u_147_190, u_147_201, u_147_209, sw8D, sw8T, tn, y1, Int.reduceEq, Int.reduceLT, Int.reduceLE, reduceIte, Int.reduceAdd, Int.reduceSub, Int.reduceMul, Int.reduceNeg, Int.reduceToNat, Bool.false_eq_true, eq_self, if_pos, if_neg]; rfl
    · simp (disch := omega) only [x_4_1, x_76, x_6_0, x_35_0, x_33, x_82, x_34, x_1, x_38_137, x_20, x_12, x_19, x_17, sw_n, sw_c, u_147_0, u_147_72, u_147_80, u_147_88, u_147_96, u_147_104, u_147_112, u_147_120, u_147_128, u_147_138, u_147_148, u_147_158, u_147_168, u_147_190, u_147_201, u_147_209, sw8D, sw8T, tn, y2, Int.reduceEq, Int.reduceLT, Int.reduceLE, reduceIte, Int.reduceAdd, Int.reduceSub, Int.reduceMul, Int.reduceNeg, Int.reduceToNat, Bool.false_eq_true, eq_self, if_pos, if_neg]; rfl
    · simp (disch := omega) only [x_4_1, x_76, x_6_0, x_35_0, x_33, x_82, x_34, x_1, x_38_137, x_20, x_12, x_19, x_17, sw_n, sw_c, u_147_0, u_147_72, u_147_80, u_147_88, u_147_96, u_147_104, u_147_112, u_147_120, u_147_128, u_147_138, u_147_148, u_147_158, u_147_168, u_147_190, u_147_201, u_147_209, sw8D, sw8T, tn, y3, Int.reduceEq, Int.reduceLT, Int.reduceLE, reduceIte, Int.reduceAdd, Int.reduceSub, Int.reduceMul, Int.reduceNeg, Int.reduceToNat, Bool.false_eq_true, eq_self, if_pos, if_neg]; rfl
    · simp (disch := omega) only [x_4_1, x_76, x_6_0, x_35_0, x_33, x_82, x_34, x_1, x_38_137, x_20, x_12, x_19, x_17, sw_n, sw_c, u_147_0, u_147_72, u_147_80, u_147_88, u_147_96, u_147_104, u_147_112, u_147_120, u_147_128, u_147_138, u_147_148, u_147_158, u_147_168, u_147_190, u_147_201, u_147_209, sw8D, sw8T, q3, q5, sh, w32_id, b, Int.reduceEq, Int.reduceLT, Int.reduceLE, reduceIte, Int.reduceAdd, Int.reduceSub, Int.reduceMul, Int.reduceNeg, Int.reduceToNat, Bool.false_eq_true, eq_self, if_pos, if_neg]; rfl
    · simp (disch := omega) only [x_4_1, x_76, x_6_0, x_35_0, x_33, x_82, x_34, x_1, x_38_137, x_20, x_12, x_19, x_17, sw_n, sw_c, u_147_0, u_147_72, u_147_80, u_147_88, u_147_96, u_147_104, u_147_112, u_147_120, u_147_128, u_147_138, u_147_148, u_147_158, u_147_168, u_147_190, u_147_201, u_147_209, sw8D, sw8T, l3, ← l4, Int.reduceEq, Int.reduceLT, Int.reduceLE, reduceIte, Int.reduceAdd, Int.reduceSub, Int.reduceMul, Int.reduceNeg, Int.reduceToNat, Bool.false_eq_true, eq_self, if_pos, if_neg]; rfl
    · simp (disch := omega) only [x_4_1, x_76, x_6_0, x_35_0, x_33, x_82, x_34, x_1, x_38_137, x_20, x_12, x_19, x_17, sw_n, sw_c, u_147_0, u_147_72, u_147_80, u_147_88, u_147_96, u_147_104, u_147_112, u_147_120, u_147_128, u_147_138, u_147_148, u_147_158, u_147_168, u_147_190, u_147_201, u_147_209, sw8D, sw8T, p1, ← p2, Int.reduceEq, Int.reduceLT, Int.reduceLE, reduceIte, Int.reduceAdd, Int.reduceSub, Int.reduceMul, Int.reduceNeg, Int.reduceToNat, Bool.false_eq_true, eq_self, if_pos, if_neg]; rfl
  · have e : cnW (h 187 0) (h 192 0 0) N x = -1 := by
      unfold cnW
      rw [if_neg (by omega), if_neg (by omega), if_neg (by omega), if_neg (by omega), if_neg (by omega), if_neg (by omega), if_neg (by omega), if_neg (by omega)]
    rw [e]
    simp (disch := omega) only [x_4_1, x_76, x_6_0, x_35_0, x_33, x_82, x_34, x_1, x_38_137, x_20, x_12, x_19, x_17, sw_n, sw_c, u_147_0, u_147_72, u_147_80, u_147_88, u_147_96, u_147_104, u_147_112, u_147_120, u_147_128, u_147_138, u_147_148, u_147_158, u_147_168, u_147_190, u_147_201, u_147_209, sw8D, sw8T, Int.reduceEq, Int.reduceLT, Int.reduceLE, reduceIte, Int.reduceAdd, Int.reduceSub, Int.reduceMul, Int.reduceNeg, Int.reduceToNat, Bool.false_eq_true, eq_self, if_pos, if_neg]
theorem ag_count (lc lr H N : Nat) (x : Int) (h : Hp) (I : INV h H N) : AGp (fun h => cl (lc + 80) 147 [aA 11 0, aI x] h) (fun h => cl (lr + 80) 312 [aA 12 0, aI x] h) h :=
  AGp_q I ⟨h, count_c (lc + 79) H N x h I, Sm_r _ _⟩ (fun g s J => ⟨_, by rw [← Sm_187 s scr_187]; exact count_m (lr + 77) N x (h 192 0 0) g J.1.2.1.2.1.1 J.1.2.1.2.1.2.1 (s _ _ _ (by unfold scr csc rsc stTag; omega)), rsc_186 g 0⟩)
