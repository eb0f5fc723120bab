def tgW : List (Nat × Nat) := [(113, 1), (110, 1), (109, 1), (106, 12), (105, 12), (104, 400)]
theorem lawCopy_c (lv k k' : Nat) (h : Hp) (hk : ¬ k = k') : ∃ h', cl (lv + 1) 5 [aA 1 k', aA 1 k] h = rv h' ∧ CP h h' k k' tgW := by
  rw [in_5]
  simp (disch := omega) only [x_6_1, x_34, x_1, x_6_0, x_50_104, x_50_105, x_50_106, x_33, x_36, x_83, u_5_0, Int.reduceEq, Int.reduceLT, Int.reduceLE, reduceIte, Int.reduceAdd, Int.reduceSub, Int.reduceMul, Int.reduceNeg, Int.reduceToNat, Bool.false_eq_true, eq_self, if_pos, if_neg]
  refine ⟨_, rfl, ?_⟩
  have c1 := CP_c (CP_c (CP_c (CP_0 h k k') hk 104 400 rfl) hk 105 12 rfl) hk 106 12 rfl
  have c2 := CP_s c1 109 (v := _) (c1.1 109 k 0 hk) rfl
  have c3 := CP_s c2 110 (v := _) (c2.1 110 k 0 hk) rfl
  exact CP_s c3 113 (c3.1 113 k 0 hk) rfl
theorem LawW_cp {h h' : Hp} {k k' : Nat} {L : List LN} (c : CP h h' k k' tgW) (W : LawW h k L) : LawW h' k' L := by
  obtain ⟨-, c2, -⟩ := c
  obtain ⟨W1, W2, W3, W4, W5, W6, W7⟩ := W
  refine ⟨?_, ?_, ?_, ?_, W5, W6, W7⟩
  · rw [c2 110 1 0 (by simp [tgW]) (by omega)]; exact W1
  · rw [c2 109 1 0 (by simp [tgW]) (by omega)]; exact W2
  · intro i hi; rw [c2 105 12 i (by simp [tgW]) (by omega), c2 106 12 i (by simp [tgW]) (by omega)]; exact W3 i hi
  · intro i hi; rw [c2 104 400 i (by simp [tgW]) (by omega)]; exact W4 i hi
