/-! SWAP, TURN, SEED, UNDO, IMAGE, BACK, COUNT. -/
theorem cpS {h h' : Hp} {k k' : Nat} (c : CP h h' k k' tgS) : ∀ tt kk j, ¬ stFr k' tt kk → h' tt kk j = h tt kk j := fun tt kk j hf => by
  obtain ⟨c1, -, c3⟩ := c
  by_cases hk : kk = k'
  · subst hk
    refine c3 tt j (fun n hm => hf ⟨rfl, ?_⟩)
    unfold tgS tgL tgH at hm
    unfold stTag
    simp at hm
    omega
  · exact c1 tt kk j hk
theorem cpW {h h' : Hp} {k k' : Nat} (c : CP h h' k k' tgW) : ∀ tt kk j, ¬ (kk = k' ∧ 104 ≤ tt ∧ tt ≤ 113) → h' tt kk j = h tt kk j := fun tt kk j hf => by
  obtain ⟨c1, -, c3⟩ := c
  by_cases hk : kk = k'
  · subst hk
    refine c3 tt j (fun n hm => hf ⟨rfl, ?_⟩)
    unfold tgW at hm
    simp at hm
    omega
  · exact c1 tt kk j hk
def ofFr (tt k : Nat) : Prop := stFr 0 tt k ∨ (k = 0 ∧ ((104 ≤ tt ∧ tt ≤ 113) ∨ tt = 125 ∨ tt = 126 ∨ tt = 184 ∨ tt = 187 ∨ tt = 191 ∨ tt = 192 ∨ tt = 198)) ∨ scr tt k
theorem INV_of {h h' : Hp} {H N H' N' : Nat} (I : INV h H N) (fr : ∀ tt k j, ¬ ofFr tt k → h' tt k j = h tt k j) (R : RS h' 0 (h' 187 0) H' N') (G : GM (h' 187 0) H' N') (W : LawR h' 0 (h' 187 0)) (P : PastR h') (f : h' 184 0 0 = h' 198 0 0) : INV h' H' N' := by
  obtain ⟨⟨r1, r2, r3⟩, ⟨en, t1, t2, t3, t4⟩, ⟨i1, i2⟩, -, -, ad⟩ := I
  have st : ∀ k, k ≠ 0 → k ≠ 1 → ∀ t i, stTag t → h' t k i = h t k i := fun k h0 h1 t i ht => fr t k i (by unfold stTag at ht; unfold ofFr stFr scr csc rsc stTag; omega)
  have hi : ∀ tt k j, tt = 148 ∨ tt = 149 ∨ tt = 185 ∨ tt = 188 ∨ tt = 189 ∨ tt = 193 ∨ tt = 194 ∨ tt = 206 → k = 0 → h' tt k j = h tt k j := fun tt k j ht hk => fr tt k j (by unfold ofFr stFr scr csc rsc stTag; omega)
  have m8 : h' 188 0 = h 188 0 := funext (fun j => hi _ _ _ (by omega) rfl)
  have lw : ∀ tt j, (104 ≤ tt ∧ tt ≤ 106) ∨ tt = 109 ∨ tt = 110 ∨ tt = 113 → h' tt 1 j = h tt 1 j := fun tt j ht => fr tt 1 j (by unfold ofFr stFr scr csc rsc stTag; omega)
  refine ⟨⟨R, G, W⟩, ⟨en, t1, by rw [hi _ _ _ (by omega) rfl]; exact t2, by rw [hi _ _ _ (by omega) rfl]; exact t3, fun j hj => by rw [hi 193 _ _ (by omega) rfl, hi 148 _ _ (by omega) rfl]; exact t4 j hj⟩, ⟨by rw [hi 185 _ _ (by omega) rfl, hi 189 _ _ (by omega) rfl]; exact i1, ?_⟩, P, f, by rw [hi _ _ _ (by omega) rfl]; exact ad⟩
  rw [hi 185 _ _ (by omega) rfl, m8]
  rcases i2 with y | ⟨y1, H2, N2, y2, y3, y4⟩
  · exact Or.inl y
  · exact Or.inr ⟨y1, H2, N2, RS_e (st 2 (by omega) (by omega)) y2, y3, LawR_e lw (fun _ _ => rfl) y4⟩
theorem PastR_0 {h' : Hp} {nw : Nat} (a : h' 126 0 0 = 0) (b : h' 192 0 0 = 0) (c : h' 125 0 0 = (nw : Int)) (d : nw < 12) : PastR h' := ⟨0, nw, a, b, by omega, c, d, fun a ha => by omega⟩
theorem INV_now {h h' : Hp} {H N H' N' : Nat} (I : INV h H N) (fr : ∀ tt k j, ¬ (stFr 0 tt k ∨ (k = 0 ∧ tt = 187) ∨ scr tt k) → h' tt k j = h tt k j) (R : RS h' 0 (h' 187 0) H' N') (G : GM (h' 187 0) H' N') (m : ∀ j, j = 1 ∨ j = 2 ∨ 346 ≤ j → h' 187 0 j = h 187 0 j) : INV h' H' N' := by
  have hi : ∀ tt k j, tt = 125 ∨ tt = 126 ∨ tt = 184 ∨ tt = 191 ∨ tt = 192 ∨ tt = 198 → k = 0 → h' tt k j = h tt k j := fun tt k j ht hk => fr tt k j (by unfold stFr scr csc rsc stTag; omega)
  refine INV_of I (fun tt k j hf => fr tt k j (fun z => hf ?_)) R G (LawR_e (fun tt j ht => fr tt 0 j (by unfold stFr scr csc rsc stTag; omega)) m I.1.2.2) ?_ (by rw [hi _ _ _ (by omega) rfl, hi _ _ _ (by omega) rfl]; exact I.2.2.2.2.1)
  · rcases z with z | z | z
    · exact Or.inl z
    · exact Or.inr (Or.inl ⟨z.1, by omega⟩)
    · exact Or.inr (Or.inr z)
  · obtain ⟨S, nw, p1, p2, p3, p4, p5, p6⟩ := I.2.2.2.1
    have am : ∀ a, actM h' a = actM h a := fun a => funext (fun j => by
      unfold actM
      by_cases c : j < 346
      · rw [if_pos c, if_pos c]; exact hi _ _ _ (by omega) rfl
      · rw [if_neg c, if_neg c]; exact m j (by omega))
    refine ⟨S, nw, by rw [hi _ _ _ (by omega) rfl]; exact p1, by rw [hi _ _ _ (by omega) rfl]; exact p2, p3, by rw [hi _ _ _ (by omega) rfl]; exact p4, p5, fun a ha => ?_⟩
    obtain ⟨H2, N2, q1, q2, q3, q4⟩ := p6 a ha
    rw [am, m 1 (by omega), m 2 (by omega)]
    exact ⟨H2, N2, RS_e (fun t i ht => fr t _ i (by unfold stTag at ht; unfold stFr scr csc rsc stTag; omega)) q1, q2, q3, q4⟩
/-- with no answer -/
def AGv (T : Nat → Nat) (C R : Hp → Option Rs) (h : Hp) : Prop := (∃ h1 : Hp, C h = rv h1 ∧ ∃ h2 : Hp, R h1 = rv h2 ∧ h2 186 0 0 = 0 ∧ (∃ H N, INV h2 H N) ∧ (∀ j, h2 22 0 j = h 22 0 j) ∧ h2 27 0 0 = h 27 0 0) ∨ ∃ (e : Nat) (h1 : Hp), C h = th e h1 ∧ 0 < T e ∧ ∃ (h2 : Hp), R h1 = rv h2 ∧ h2 186 0 0 = (T e : Int) ∧ (∃ H N, INV h2 H N) ∧ (∀ j, h2 22 0 j = h 22 0 j) ∧ h2 27 0 0 = h 27 0 0
theorem AGv_e {T : Nat → Nat} {C R : Hp → Option Rs} {h : Hp} {H N : Nat} (I : INV h H N) (e : Nat) (hT : 0 < T e) (c : C h = th e h) (r : ∃ h2, R h = rv h2 ∧ h2 186 0 0 = (T e : Int) ∧ Sm rsc h h2) : AGv T C R h := by
  obtain ⟨h2, r1, r3, r2⟩ := r
  have s2 : Sm scr h h2 := Sm_w (fun _ _ => scr_m) r2
  exact Or.inr ⟨e, h, c, hT, h2, r1, r3, ⟨H, N, INV_scr s2 I⟩, fun j => s2 _ _ _ (by unfold scr csc rsc stTag; omega), s2 _ _ _ (by unfold scr csc rsc stTag; omega)⟩
theorem ag_swap (lc lr H N : Nat) (p w : Int) (h : Hp) (I : INV h H N) : AGv t20 (fun h => cl (lc + 80) 100 [aA 11 0, aI p, aI w] h) (fun h => cl (lr + 80) 247 [aA 12 0, aI p, aI w] h) h := by
  have hH := I.1.2.1.1.2.1
  have cp := checkHand_c (lc + 78) H p h I.1.1.1.1
  have cw := checkHand_c (lc + 78) H w h I.1.1.1.1
  have ip := inH I (lr + 77) p
  have iw := inH I (lr + 77) w
  by_cases c1 : 0 ≤ p ∧ p < H
  · rw [if_pos c1] at cp ip
    by_cases c2 : 0 ≤ w ∧ w < H
    · rw [if_pos c2] at cw iw
      obtain ⟨x, rfl⟩ := Int.eq_ofNat_of_zero_le c1.1
      obtain ⟨y, rfl⟩ := Int.eq_ofNat_of_zero_le c2.1
      have hx : x < H := by omega
      have hy : y < H := by omega
      have ex := (I.1.1.1.2.2.2 x hx).1
      have ey := (I.1.1.1.2.2.2 y hy).1
      have itx : ∀ g : Hp, g 187 0 = h 187 0 → cl (lr + 79) 173 [aA 12 0, aI (x : Int), aI 0] g = ri (h 187 0 (14 + 6 * x)) g := fun g g7 => by have := its_c (lr + 78) x 0 g (by omega) (by omega); rw [g7] at this; exact this
      have ity : ∀ g : Hp, g 187 0 = h 187 0 → cl (lr + 79) 173 [aA 12 0, aI (y : Int), aI 0] g = ri (h 187 0 (14 + 6 * y)) g := fun g g7 => by have := its_c (lr + 78) y 0 g (by omega) (by omega); rw [g7] at this; exact this
      by_cases d : h 187 0 (14 + 6 * x) = h 187 0 (14 + 6 * y)
      · have g7 := h186_m h 0
        have itx := itx _ g7
        have ity := ity _ g7
        refine AGv_e I 0 (by decide) ?_ ⟨hset (hset h 186 0 0 0) 186 0 0 2, ?_, hs_eq _ _ _ _ _, Sm_t (rsc_186 _ _) (rsc_186 _ 2)⟩
        · show cl (lc + 80) _ _ _ = _
          rw [in_100]
          simp (disch := omega) only [x_6_0, x_4_1, x_79_2_11_d0, x_79_2_11_d1, x_79_2_11_d2, x_79_2_11_d3, x_79_2_11_d4, x_4_2, x_35_0, x_34, x_38_129, x_63, x_84, x_79_2_5_d0, x_79_2_5_d1, x_79_2_5_d2, x_79_2_5_d3, x_79_2_5_d4, x_79_3_7_d0, x_79_3_7_d1, x_79_3_7_d2, x_79_3_7_d3, x_79_3_7_d4, x_83, cb_ri, cb_rl, cb_rv, cb_th, cb_ite, ps_s, ps_n, u_100_0, u_100_42, cp, cw, tn, ex, ey, d, Int.reduceEq, Int.reduceLT, Int.reduceLE, reduceIte, Int.reduceAdd, Int.reduceSub, Int.reduceMul, Int.reduceNeg, Int.reduceToNat, Bool.false_eq_true, eq_self, if_pos, if_neg]
        · show cl (lr + 80) _ _ _ = _
          rw [in_247]
          simp (disch := omega) only [x_6_0, x_4_1, x_79_2_12_d0, x_79_2_12_d1, x_79_2_12_d2, x_79_2_12_d3, x_79_2_12_d4, x_68, x_4_2, x_69, x_61, x_1, x_60, x_36, x_33, x_73, x_83, x_79_3_12_d0, x_79_3_12_d1, x_79_3_12_d2, x_79_3_12_d3, x_79_3_12_d4, x_63, x_13, x_11, x_7_3_I, x_7_3_A, x_7_3_U, x_4_3, x_79_4_12_d0, x_79_4_12_d1, x_79_4_12_d2, x_79_4_12_d3, x_79_4_12_d4, cb_ri, cb_rl, cb_rv, cb_th, cb_ite, ps_s, ps_n, u_247_0, u_247_17, u_247_21, u_247_22, u_247_33, u_247_53, u_247_54, u_247_65, ip, iw, hs_eq, itx, ity, d, Int.reduceEq, Int.reduceLT, Int.reduceLE, reduceIte, Int.reduceAdd, Int.reduceSub, Int.reduceMul, Int.reduceNeg, Int.reduceToNat, Bool.false_eq_true, eq_self, if_pos, if_neg]
      · have hne : x ≠ y := fun z => d (by rw [z])
        obtain ⟨⟨r1, r2, r3⟩, tp, im, ⟨S, nw, p1, p2, p3, p4, p5, p6⟩, f, ad⟩ := I
        have I : INV h H N := ⟨⟨r1, r2, r3⟩, tp, im, ⟨S, nw, p1, p2, p3, p4, p5, p6⟩, f, ad⟩
        obtain ⟨hr, k1, k2, k3, k4, k5, k6⟩ := remember_c (lc + 76) H N S nw h (h 187 0) r1 p1 p3 p4 p5
        have ch := changePlayers_c (lc + 78) 0 x y (h 187 0 (14 + 6 * x)) (h 187 0 (14 + 6 * y)) hr (by omega) (by omega) (k5.1.2.2.2 x hx).1 (k5.1.2.2.2 y hy).1 hne
        let h1 : Hp := hset (hset hr 129 0 x (h 187 0 (14 + 6 * y))) 129 0 y (h 187 0 (14 + 6 * x))
        have R1 : RS h1 0 (upM (upM (h 187 0) (14 + 6 * x) (h 187 0 (14 + 6 * y))) (14 + 6 * y) (h 187 0 (14 + 6 * x))) H N := RS_hd (f := 0) _ (by omega) hy (RS_hd (f := 0) _ (by omega) hx k5)
        have o0 : ∀ tt k j, ¬ stFr 0 tt k → h1 tt k j = hr tt k j := fun tt k j hf => by
          unfold stFr stTag at hf
          show hset (hset hr 129 0 x _) 129 0 y _ tt k j = _
          rw [hs_o (by omega), hs_o (by omega)]
        have tot : ∀ tt k j, ¬ (stFr 0 tt k ∨ reFr nw tt k ∨ csc tt k) → h1 tt k j = h tt k j := fun tt k j hf => by
          rw [o0 tt k j (fun z => hf (Or.inl z))]; exact k6 tt k j (fun z => hf (Or.inr (Or.inl z)))
        have o1 : ∀ tt j, 187 ≤ tt → h1 tt 0 j = h tt 0 j := fun tt j ht => tot tt 0 j (by unfold reFr stFr csc stTag; omega)
        have h17 : h1 187 0 = h 187 0 := funext (fun j => o1 _ _ (by omega))
        let g : Hp := hset (hset h1 186 0 0 0) 186 0 0 0
        have gg : g = hset h1 186 0 0 0 := hs_hs _ _ _ _ _ _
        have s : Sm (fun tt k => rsc tt k ∨ (tt = 25 ∧ k = 0)) h1 g := fun tt k j hf => by
          have n1 : ¬ rsc tt k := fun z => hf (Or.inl z)
          unfold rsc at n1
          rw [gg, hs_o (by omega)]
        have g192 : g 192 0 0 = (S : Int) := by rw [s _ _ _ (by unfold rsc; omega), o1 _ _ (by omega)]; exact p2
        have g7 : g 187 0 = h 187 0 := funext (fun j => by rw [s _ _ _ (by unfold rsc; omega), o1 _ _ (by omega)])
        obtain ⟨g', b1, b2, b3, b4, b5⟩ := sets_m (lr + 77) S (14 + 6 * x) (h 187 0 (14 + 6 * y)) g g192 p3 (by omega)
        rw [g7] at b1
        have g'7 : g' 187 0 = h 187 0 := by rw [← g7]; funext j; exact b5 _ _ _ (by omega)
        let h2 : Hp := hset (hset g' 187 0 (14 + 6 * x) (h 187 0 (14 + 6 * y))) 187 0 (14 + 6 * y) (h 187 0 (14 + 6 * x))
        have z7 : h2 187 0 = upM (upM (h 187 0) (14 + 6 * x) (h 187 0 (14 + 6 * y))) (14 + 6 * y) (h 187 0 (14 + 6 * x)) := by
          show hset (hset g' 187 0 _ _) 187 0 _ _ 187 0 = _
          rw [hs_187, hs_187, g'7]
        have gx := (r2.1.2.2 x hx).1
        have gy := (r2.1.2.2 y hy).1
        have G2 : GM (h2 187 0) H N := by rw [z7]; exact GM_pl hy gx (GM_pl hx gy r2)
        obtain ⟨j1, j2, j3⟩ := AG_act (h2 := h2) (H' := H) (N' := N) I p1 p4 tot (by rw [o0 _ _ _ (by unfold stFr stTag; omega)]; exact k2) (by rw [o0 _ _ _ (by unfold stFr stTag; omega)]; exact k3) (RS_e (fun t i _ => o0 t _ i (by unfold stFr; omega)) k4) s b2 b3 b4 b5 (fun tt k j hf => by show hset (hset g' 187 0 _ _) 187 0 _ _ tt k j = _; rw [hs_o (by omega), hs_o (by omega)]) (by rw [z7]; exact R1) G2 (fun j hj => by rw [z7, up_ne (by omega), up_ne (by omega)])
        refine Or.inl ⟨h1, ?_, h2, ?_, ?_, j1, j2, j3⟩
        · show cl (lc + 80) _ _ _ = _
          rw [in_100]
          simp (disch := omega) only [x_6_0, x_4_1, x_79_2_11_d0, x_79_2_11_d1, x_79_2_11_d2, x_79_2_11_d3, x_79_2_11_d4, x_4_2, x_35_0, x_34, x_38_129, x_63, x_84, x_79_2_5_d0, x_79_2_5_d1, x_79_2_5_d2, x_79_2_5_d3, x_79_2_5_d4, x_79_3_7_d0, x_79_3_7_d1, x_79_3_7_d2, x_79_3_7_d3, x_79_3_7_d4, x_83, cb_ri, cb_rl, cb_rv, cb_th, cb_ite, ps_s, ps_n, u_100_0, u_100_42, cp, cw, tn, ex, ey, d, k1, ch, Int.reduceEq, Int.reduceLT, Int.reduceLE, reduceIte, Int.reduceAdd, Int.reduceSub, Int.reduceMul, Int.reduceNeg, Int.reduceToNat, Bool.false_eq_true, eq_self, if_pos, if_neg]
          rfl
        · have ip := isHand_c (lr + 77) H (x : Int) h1 (by rw [h17]; exact r2.1.1) hH
          have iw := isHand_c (lr + 77) H (y : Int) h1 (by rw [h17]; exact r2.1.1) hH
          rw [if_pos c1] at ip
          rw [if_pos c2] at iw
          have q7 : hset h1 186 0 0 0 187 0 = h 187 0 := by rw [h186_m]; exact h17
          have itx := itx _ q7
          have ity := ity _ q7
          have q7' : hset (hset h1 186 0 0 0) 186 0 0 0 187 0 = h 187 0 := by rw [h186_m]; exact q7
          have ity' := ‹∀ g : Hp, g 187 0 = h 187 0 → cl (lr + 79) 173 [aA 12 0, aI (y : Int), aI 0] g = ri (h 187 0 (14 + 6 * y)) g› _ q7'
          have e : ((14 : Int) + 6 * (x : Int) + 0) = ((14 + 6 * x : Nat) : Int) := by omega
          have ly : cl (lr + 79) 174 [aA 12 0, aI (y : Int), aI 0, aI (h 187 0 (14 + 6 * x))] (hset g' 187 0 (14 + 6 * x) (h 187 0 (14 + 6 * y))) = rv h2 := lays_c (lr + 78) y 0 _ _ (by omega) (by omega)
          have b1 : cl (lr + 79) 240 [aA 12 0, aI ((14 + 6 * x : Nat) : Int), aI (h 187 0 (14 + 6 * y))] (hset (hset h1 186 0 0 0) 186 0 0 0) = _ := b1
          show cl (lr + 80) _ _ _ = _
          rw [in_247]
          have e1 : ((14 : Int) + 6 * (x : Int)) = ((14 + 6 * x : Nat) : Int) := by omega
          simp (disch := omega) only [x_6_0, x_4_1, x_79_2_12_d0, x_79_2_12_d1, x_79_2_12_d2, x_79_2_12_d3, x_79_2_12_d4, x_68, x_4_2, x_69, x_61, x_1, x_60, x_36, x_33, x_73, x_83, x_79_3_12_d0, x_79_3_12_d1, x_79_3_12_d2, x_79_3_12_d3, x_79_3_12_d4, x_63, x_13, x_11, x_7_3_I, x_7_3_A, x_7_3_U, x_4_3, x_79_4_12_d0, x_79_4_12_d1, x_79_4_12_d2, x_79_4_12_d3, x_79_4_12_d4, cb_ri, cb_rl, cb_rv, cb_th, cb_ite, ps_s, ps_n, u_247_0, u_247_17, u_247_21, u_247_22, u_247_33, u_247_53, u_247_54, u_247_65, ip, iw, hs_eq, itx, ity, ity', d, e, e1, Int.add_zero, b1, ly, Int.reduceEq, Int.reduceLT, Int.reduceLE, reduceIte, Int.reduceAdd, Int.reduceSub, Int.reduceMul, Int.reduceNeg, Int.reduceToNat, Bool.false_eq_true, eq_self, if_pos, if_neg, w32_id]
        · show hset (hset g' 187 0 _ _) 187 0 _ _ 186 0 0 = 0
          rw [hs_t (by omega), hs_t (by omega), b5 _ _ _ (by omega)]
          exact hs_eq _ _ _ _ _
    · rw [if_neg c2] at cw iw
      refine AGv_e I 2 (by decide) ?_ ⟨hset h 186 0 0 1, ?_, hs_eq _ _ _ _ _, rsc_186 _ 1⟩
      · show cl (lc + 80) _ _ _ = _
        rw [in_100]
        simp (disch := omega) only [x_6_0, x_4_1, x_79_2_11_d0, x_79_2_11_d1, x_79_2_11_d2, x_79_2_11_d3, x_79_2_11_d4, x_4_2, x_35_0, x_34, x_38_129, x_63, x_84, x_79_2_5_d0, x_79_2_5_d1, x_79_2_5_d2, x_79_2_5_d3, x_79_2_5_d4, x_79_3_7_d0, x_79_3_7_d1, x_79_3_7_d2, x_79_3_7_d3, x_79_3_7_d4, x_83, cb_ri, cb_rl, cb_rv, cb_th, cb_ite, ps_s, ps_n, u_100_0, u_100_42, cp, cw, Int.reduceEq, Int.reduceLT, Int.reduceLE, reduceIte, Int.reduceAdd, Int.reduceSub, Int.reduceMul, Int.reduceNeg, Int.reduceToNat, Bool.false_eq_true, eq_self, if_pos, if_neg]
      · show cl (lr + 80) _ _ _ = _
        rw [in_247]
        simp (disch := omega) only [x_6_0, x_4_1, x_79_2_12_d0, x_79_2_12_d1, x_79_2_12_d2, x_79_2_12_d3, x_79_2_12_d4, x_68, x_4_2, x_69, x_61, x_1, x_60, x_36, x_33, x_73, x_83, x_79_3_12_d0, x_79_3_12_d1, x_79_3_12_d2, x_79_3_12_d3, x_79_3_12_d4, x_63, x_13, x_11, x_7_3_I, x_7_3_A, x_7_3_U, x_4_3, x_79_4_12_d0, x_79_4_12_d1, x_79_4_12_d2, x_79_4_12_d3, x_79_4_12_d4, cb_ri, cb_rl, cb_rv, cb_th, cb_ite, ps_s, ps_n, u_247_0, u_247_17, u_247_21, u_247_22, u_247_33, u_247_53, u_247_54, u_247_65, ip, iw, hs_eq, Int.reduceEq, Int.reduceLT, Int.reduceLE, reduceIte, Int.reduceAdd, Int.reduceSub, Int.reduceMul, Int.reduceNeg, Int.reduceToNat, Bool.false_eq_true, eq_self, if_pos, if_neg]
  · rw [if_neg c1] at cp ip
    refine AGv_e I 2 (by decide) ?_ ⟨hset h 186 0 0 1, ?_, hs_eq _ _ _ _ _, rsc_186 _ 1⟩
    · show cl (lc + 80) _ _ _ = _
      rw [in_100]
      simp (disch := omega) only [x_6_0, x_4_1, x_79_2_11_d0, x_79_2_11_d1, x_79_2_11_d2, x_79_2_11_d3, x_79_2_11_d4, x_4_2, x_35_0, x_34, x_38_129, x_63, x_84, x_79_2_5_d0, x_79_2_5_d1, x_79_2_5_d2, x_79_2_5_d3, x_79_2_5_d4, x_79_3_7_d0, x_79_3_7_d1, x_79_3_7_d2, x_79_3_7_d3, x_79_3_7_d4, x_83, cb_ri, cb_rl, cb_rv, cb_th, cb_ite, ps_s, ps_n, u_100_0, u_100_42, cp, Int.reduceEq, Int.reduceLT, Int.reduceLE, reduceIte, Int.reduceAdd, Int.reduceSub, Int.reduceMul, Int.reduceNeg, Int.reduceToNat, Bool.false_eq_true, eq_self, if_pos, if_neg]
    · show cl (lr + 80) _ _ _ = _
      rw [in_247]
      simp (disch := omega) only [x_6_0, x_4_1, x_79_2_12_d0, x_79_2_12_d1, x_79_2_12_d2, x_79_2_12_d3, x_79_2_12_d4, x_68, x_4_2, x_69, x_61, x_1, x_60, x_36, x_33, x_73, x_83, x_79_3_12_d0, x_79_3_12_d1, x_79_3_12_d2, x_79_3_12_d3, x_79_3_12_d4, x_63, x_13, x_11, x_7_3_I, x_7_3_A, x_7_3_U, x_4_3, x_79_4_12_d0, x_79_4_12_d1, x_79_4_12_d2, x_79_4_12_d3, x_79_4_12_d4, cb_ri, cb_rl, cb_rv, cb_th, cb_ite, ps_s, ps_n, u_247_0, u_247_17, u_247_21, u_247_22, u_247_33, u_247_53, u_247_54, u_247_65, ip, hs_eq, Int.reduceEq, Int.reduceLT, Int.reduceLE, reduceIte, Int.reduceAdd, Int.reduceSub, Int.reduceMul, Int.reduceNeg, Int.reduceToNat, Bool.false_eq_true, eq_self, if_pos, if_neg]
theorem ag_seed (lc lr H N : Nat) (v : Int) (h : Hp) (I : INV h H N) : AGp (fun h => cl (lc + 80) 143 [aA 11 0, aI v] h) (fun h => cl (lr + 80) 308 [aA 12 0, aI v] h) h := by
  have e : h 147 0 0 = h 187 0 13 := I.1.1.2.2.1.2.2.2.2.1
  have e2 : hset (hset h 147 0 0 v) 186 0 0 0 187 0 13 = h 187 0 13 := by rw [hs_t (by omega), hs_t (by omega)]
  let h2 : Hp := hset (hset (hset h 147 0 0 v) 186 0 0 0) 187 0 13 v
  have z7 : h2 187 0 = upM (h 187 0) 13 v := by
    show hset (hset (hset h 147 0 0 v) 186 0 0 0) 187 0 13 v 187 0 = _
    rw [hs_187, h186_m]; congr 1
  have fr : ∀ tt k j, ¬ (stFr 0 tt k ∨ (k = 0 ∧ tt = 187) ∨ scr tt k) → h2 tt k j = h tt k j := fun tt k j hf => by
    have n1 : ¬ stFr 0 tt k := fun z => hf (Or.inl z)
    have n2 : ¬ rsc tt k := fun z => hf (Or.inr (Or.inr (scr_m z)))
    unfold stFr stTag at n1
    unfold rsc at n2
    show hset (hset (hset h 147 0 0 v) 186 0 0 0) 187 0 13 v tt k j = _
    rw [hs_o (by omega), hs_o (by omega), hs_o (by omega)]
  refine ⟨h 187 0 13, hset h 147 0 0 v, h2, ?_, ?_, ⟨H, N, INV_now I fr ?_ (by rw [z7]; exact GM_sd I.1.2.1) (fun j hj => by rw [z7, up_ne (by omega)])⟩, fun j => fr _ _ _ (by unfold stFr scr csc rsc stTag; omega), fr _ _ _ (by unfold stFr scr csc rsc stTag; omega)⟩
  · show cl (lc + 80) _ _ _ = _
    rw [in_143]
    simp (disch := omega) only [x_6_0, x_35_0, x_33, x_7_2_I, x_7_2_A, x_7_2_U, x_4_1, x_36, x_4_2, x_82, u_143_0, e, Int.reduceEq, Int.reduceLT, Int.reduceLE, reduceIte, Int.reduceAdd, Int.reduceSub, Int.reduceMul, Int.reduceNeg, Int.reduceToNat, Bool.false_eq_true, eq_self, if_pos, if_neg]
  · show cl (lr + 80) _ _ _ = _
    rw [in_308]
    simp (disch := omega) only [x_6_0, x_1, x_36, x_34, x_38_187, x_7_2_I, x_7_2_A, x_7_2_U, x_4_1, x_39_187, x_4_2, x_82, u_308_0, e2, tn, Int.reduceEq, Int.reduceLT, Int.reduceLE, reduceIte, Int.reduceAdd, Int.reduceSub, Int.reduceMul, Int.reduceNeg, Int.reduceToNat, Bool.false_eq_true, eq_self, if_pos, if_neg]
    rfl
  · rw [z7]
    refine RS_e (fun t i ht => ?_) (RS_x (t := 147) (j := 13) v (by omega) I.1.1)
    unfold stTag at ht
    show hset (hset (hset h 147 0 0 v) 186 0 0 0) 187 0 13 v t 0 i = _
    rw [hs_o (by omega), hs_o (by omega)]
