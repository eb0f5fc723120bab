/-! WHAT THE LAW SAYS OF A HAND AND A NOTE (the class). -/
def fN (a b c d e f g h i : Int) (j : Nat) : Int := if j = 0 then a else if j = 1 then b else if j = 2 then c else if j = 3 then d else if j = 4 then e else if j = 5 then f else if j = 6 then g else if j = 7 then h else if j = 8 then i else 0
/-- what the names mean for a hand with these values, at a note, on a beat -/
def nmV (M : Nat → Int) (i : Int) (tired player at' : Int) (n : Nat) (b : Int) : Nat → Int := fN i (M (50 + 4 * n + 1)) (M (50 + 4 * n + 2)) tired player b (M 6) (if M (50 + 4 * n + 1) < at' then 1 else 0) (if M (50 + 4 * n + 1) < 32 then 1 else 0)
def nmH (M : Nat → Int) (i n : Nat) (b : Int) : Nat → Int := nmV M (i : Int) (M (14 + 6 * i + 4)) (M (14 + 6 * i)) (M (14 + 6 * i + 1)) n b
def nmT (M : Nat → Int) (n : Nat) (b : Int) : Nat → Int := fN 6 (M (50 + 4 * n + 1)) (M (50 + 4 * n + 2)) 0 3 b (M 6) 0 (if M (50 + 4 * n + 1) < 32 then 1 else 0)
def rchV (M : Nat → Int) (L : List LN) (i n : Nat) (b : Int) : Int := max 0 (M (14 + 6 * i + 2) + gainS (nmH M i n b) L)
def canB (M : Nat → Int) (L : List LN) (i n : Nat) (b : Int) : Bool := !bdB M i && decide (M (50 + 4 * n + 2) ≤ M (14 + 6 * i + 3) - M (14 + 6 * i + 4) / 10) && decide ((if M (50 + 4 * n + 1) - M (14 + 6 * i + 1) < 0 then -(M (50 + 4 * n + 1) - M (14 + 6 * i + 1)) else M (50 + 4 * n + 1) - M (14 + 6 * i + 1)) ≤ rchV M L i n b)
def takB (M : Nat → Int) (L : List LN) (n : Nat) (b : Int) : Bool := decide (tkL L = 0) || takeS (nmT M n b) L
theorem fN_ok {a b c d e f g h i : Int} (h1 : 0 ≤ a ∧ a ≤ 1000000) (h2 : 0 ≤ b ∧ b ≤ 1000000) (h3 : 0 ≤ c ∧ c ≤ 1000000) (h4 : 0 ≤ d ∧ d ≤ 1000000) (h5 : 0 ≤ e ∧ e ≤ 1000000) (h6 : 0 ≤ f ∧ f ≤ 1000000) (h7 : 0 ≤ g ∧ g ≤ 1000000) (h8 : 0 ≤ h ∧ h ≤ 1) (h9 : 0 ≤ i ∧ i ≤ 1) : FOk (fN a b c d e f g h i) := by
  refine ⟨?_, h8.2, h9.2⟩
  intro j
  unfold fN
  repeat' split
  all_goals omega
theorem nmH_ok {M : Nat → Int} {H N i n : Nat} {b : Int} (G : GM M H N) (hi : i < H) (hn : n < N) (hb : 0 ≤ b ∧ b ≤ 100) : FOk (nmH M i n b) := by
  have a := G.1.2.2 i hi
  have c := G.2.1.2.2.1 n hn
  have d := G.2.2.2.2.1
  have e := G.1.2.1
  refine fN_ok ?_ ?_ ?_ ?_ ?_ ?_ ?_ ?_ ?_
  all_goals first
    | omega
    | (split <;> omega)
theorem nmT_ok {M : Nat → Int} {H N n : Nat} {b : Int} (G : GM M H N) (hn : n < N) (hb : 0 ≤ b ∧ b ≤ 100) : FOk (nmT M n b) := by
  have c := G.2.1.2.2.1 n hn
  have d := G.2.2.2.2.1
  refine fN_ok ?_ ?_ ?_ ?_ ?_ ?_ ?_ ?_ ?_
  all_goals first
    | omega
    | (split <;> omega)
theorem idiv_10 : ∀ n : Nat, n < 100 → idiv (n : Int) 10 = ((n / 10 : Nat) : Int) := by decide +kernel
theorem LawW_same {h h' : Hp} {k k' : Nat} {L : List LN} (e : ∀ tt kk i, ¬ lwFr k' tt kk → h' tt kk i = h tt kk i) (W : LawW h k L) : LawW h' k L := by
  obtain ⟨W1, W2, W3, W4, W5⟩ := W
  refine ⟨?_, ?_, ?_, ?_, W5⟩
  · rw [e _ _ _ (by unfold lwFr; omega)]; exact W1
  · rw [e _ _ _ (by unfold lwFr; omega)]; exact W2
  · intro i hi; rw [e _ _ _ (by unfold lwFr; omega), e _ _ _ (by unfold lwFr; omega)]; exact W3 i hi
  · intro i hi; rw [e _ _ _ (by unfold lwFr; omega)]; exact W4 i hi
theorem RS_lw {h h' : Hp} {k k' : Nat} {M : Nat → Int} {H N : Nat} (e : ∀ tt kk i, ¬ lwFr k' tt kk → h' tt kk i = h tt kk i) (R : RS h k M H N) : RS h' k M H N :=
  RS_same (fun t ht => by funext i; exact e t k i (by unfold lwFr; unfold stTag at ht; omega)) R
theorem reachOf_k (lv k s i n H N : Nat) (M : Nat → Int) (h : Hp) (L : List LN) (R : RS h s M H N) (G : GM M H N) (W : LawW h k L) (hi : i < H) (hn : n < N) :
    ∃ h', cl (lv + 2) 10 [aA 1 k, aA 7 s, aI (i : Int), aI (n : Int)] h = ri (rchV M L i n (M (50 + 4 * n))) h' ∧ ∀ tt kk j, ¬ lwFr k tt kk → h' tt kk j = h tt kk j := by
  obtain ⟨RHh, RNn, RXx, -⟩ := R
  obtain ⟨r1, r2, -, r3⟩ := RHh
  obtain ⟨s1, s2, -, s3⟩ := RNn
  obtain ⟨p1, p2, p3, p4, p5⟩ := r3 i hi
  obtain ⟨q1, q2, q3⟩ := s3 n hn
  have x6 := RXx.2.2.1
  have gi := G.1.2.2 i hi
  have gn := G.2.1.2.2.1 n hn
  have hO := nmH_ok (b := M (50 + 4 * n)) G hi hn (by omega)
  let h0 : Hp := hset (hset (hset (hset h 107 k 0 (i : Int)) 107 k 3 (M (14 + 6 * i + 4))) 107 k 4 (M (14 + 6 * i))) 107 k 7 (if M (50 + 4 * n + 1) < M (14 + 6 * i + 1) then 1 else 0)
  have same : ∀ tt kk j, ¬ lwFr k tt kk → h0 tt kk j = h tt kk j := by
    intro tt kk j hf
    unfold lwFr at hf
    show hset _ _ _ _ _ _ _ _ = _
    rw [hs_o (by omega), hs_o (by omega), hs_o (by omega), hs_o (by omega)]
  have W' := LawW_same same W
  obtain ⟨h', w1, w2, w3, w4⟩ := work_c lv k s n (nmH M i n (M (50 + 4 * n))) h0 L W' hO (by omega) (by simp [h0, hset, nmH, nmV, fN]) (by rw [same _ _ _ (by unfold lwFr; omega), q2]; rfl) (by rw [same _ _ _ (by unfold lwFr; omega), q3]; rfl) (by simp [h0, hset, nmH, nmV, fN]) (by simp [h0, hset, nmH, nmV, fN]) (by rw [same _ _ _ (by unfold lwFr; omega), q1]; rfl) (by rw [same _ _ _ (by unfold lwFr; omega), x6]; rfl) (by simp [h0, hset, nmH, nmV, fN]) (by rw [same _ _ _ (by unfold lwFr; omega), q2]; rfl)
  have hall : ∀ tt kk j, ¬ lwFr k tt kk → h' tt kk j = h tt kk j := fun tt kk j hf => by rw [w4 tt kk j hf, same tt kk j hf]
  refine ⟨h', ?_, hall⟩
  have z1 : h' 131 s i = M (14 + 6 * i + 2) := by rw [hall _ _ _ (by unfold lwFr; omega)]; exact p3
  have gb := gainS_b (nmH M i n (M (50 + 4 * n))) L W.2.2.2.2.2.2
  have hl := W.2.2.2.2.1
  rw [in_10]
  unfold rchV
  by_cases c : M (50 + 4 * n + 1) < M (14 + 6 * i + 1)
  · have e0 : h0 = hset (hset (hset (hset h 107 k 0 (i : Int)) 107 k 3 (M (14 + 6 * i + 4))) 107 k 4 (M (14 + 6 * i))) 107 k 7 1 := by show hset _ _ _ _ _ = _; rw [if_pos c]
    rw [e0] at w1
    simp (disch := omega) only [x_4_2, x_70, x_6_1, x_33, x_65, x_4_3, x_64, x_61, x_1, x_82, x_6_0, x_34, x_39_107, x_39_129, x_39_130, x_39_131, x_39_133, x_39_135, x_38_107, x_38_129, x_38_130, x_38_131, x_38_133, x_38_135, x_60, x_79_3_1_d0, x_79_3_1_d1, x_79_3_1_d2, x_79_3_1_d3, x_79_3_1_d4, x_11, x_80_2_d0, x_80_2_d1, x_80_2_d2, x_80_2_d3, x_80_2_d4, cb_ri, cb_rl, cb_rv, cb_th, cb_ite, ps_s, ps_n, u_10_0, u_10_24, u_10_26, u_10_82, u_10_83, r1, s1, p1, p2, p3, p5, q2, c, hs_t, tn, w1, w2, z1, w32_id, max_c, Int.reduceEq, Int.reduceLT, Int.reduceLE, reduceIte, Int.reduceAdd, Int.reduceSub, Int.reduceMul, Int.reduceNeg, Int.reduceToNat, Bool.false_eq_true, eq_self, if_pos, if_neg]
  · have e0 : h0 = hset (hset (hset (hset h 107 k 0 (i : Int)) 107 k 3 (M (14 + 6 * i + 4))) 107 k 4 (M (14 + 6 * i))) 107 k 7 0 := by show hset _ _ _ _ _ = _; rw [if_neg c]
    rw [e0] at w1
    simp (disch := omega) only [x_4_2, x_70, x_6_1, x_33, x_65, x_4_3, x_64, x_61, x_1, x_82, x_6_0, x_34, x_39_107, x_39_129, x_39_130, x_39_131, x_39_133, x_39_135, x_38_107, x_38_129, x_38_130, x_38_131, x_38_133, x_38_135, x_60, x_79_3_1_d0, x_79_3_1_d1, x_79_3_1_d2, x_79_3_1_d3, x_79_3_1_d4, x_11, x_80_2_d0, x_80_2_d1, x_80_2_d2, x_80_2_d3, x_80_2_d4, cb_ri, cb_rl, cb_rv, cb_th, cb_ite, ps_s, ps_n, u_10_0, u_10_24, u_10_26, u_10_82, u_10_83, r1, s1, p1, p2, p3, p5, q2, c, hs_t, tn, w1, w2, z1, w32_id, max_c, Int.reduceEq, Int.reduceLT, Int.reduceLE, reduceIte, Int.reduceAdd, Int.reduceSub, Int.reduceMul, Int.reduceNeg, Int.reduceToNat, Bool.false_eq_true, eq_self, if_pos, if_neg]
