/-- a line that can be worked out -/
def LnG (x : LN) : Prop := (∀ c ∈ x.2.2.1, okCd c) ∧ x.1 ≤ 2 ∧ 0 ≤ x.2.1 ∧ x.2.1 ≤ 40 ∧ ∀ F, FOk F → exs F x.2.2.1 [] = some [if x.2.2.2 F = true then 1 else 0]
theorem pCond_ev {t : Nat → Int} {e q : Nat} (he : e ≤ 400) (hq : q ≤ e) {a : CB2} {r : Nat} (h : pCond t e q = .inr (a, r)) : (∀ c ∈ a.1, okCd c) ∧ ∀ F, FOk F → exs F a.1 [] = some [if a.2 F = true then 1 else 0] := by
  unfold pCond at h
  by_cases h1 : isW t e q wIf = true
  · rw [if_pos h1] at h
    have hn := nxt_b t (isW_lt hq h1 (by decide))
    have v := fun F (hF : FOk F) => pAny_ev (t := t) (F := F) (pAtom_len (t := t) 6) (pAtom_ev hF he 6) _ hn.2
    rw [h] at v
    refine ⟨?_, fun F hF => (v F hF).2 [] (by decide)⟩
    exact (v (fun _ => 0) ⟨fun _ => ⟨by show (0:Int) ≤ 0; decide, by show (0:Int) ≤ 1000000; decide⟩, by show (0:Int) ≤ 1; decide, by show (0:Int) ≤ 1; decide⟩).1
  · rw [if_neg h1] at h
    cases h
    refine ⟨?_, fun F hF => rfl⟩
    intro c hc
    simp only [List.mem_cons, List.not_mem_nil, or_false] at hc
    rw [hc]; unfold okCd; omega
theorem pLine_ev {t : Nat → Int} {e p : Nat} (he : e ≤ 400) (hp : p ≤ e) {x : LN} {q : Nat} (h : pLine t e p = .inr (x, q)) : LnG x := by
  have hkv : knd t e p = -1 ∨ knd t e p = 0 ∨ knd t e p = 1 ∨ knd t e p = 2 := by
    unfold knd
    split
    · simp
    · split
      · simp
      · split <;> simp
  unfold pLine at h
  by_cases hk : knd t e p = -1
  · rw [if_pos hk] at h; cases h
  rw [if_neg hk] at h
  have hm := nxt_le t hp
  by_cases h2 : knd t e p = 2
  · simp only [h2, if_pos] at h
    cases hc : pCond t e (nxt t e p) with
    | inl f => rw [hc] at h; cases h
    | inr z =>
      obtain ⟨a, r⟩ := z
      rw [hc] at h
      cases h
      have v := pCond_ev he hm hc
      exact ⟨v.1, by show (2:Nat) ≤ 2; decide, by show (0:Int) ≤ 0; decide, by show (0:Int) ≤ 40; decide, v.2⟩
  · simp only [h2, if_false] at h
    cases hu : pNum t e (nxt t e p) 40 with
    | inl f => rw [hu] at h; cases h
    | inr y =>
      obtain ⟨w, s⟩ := y
      rw [hu] at h
      have hs := pNum_len hm hu
      dsimp only at h
      cases hc : pCond t e s with
      | inl f => rw [hc] at h; cases h
      | inr z =>
        obtain ⟨a, r⟩ := z
        rw [hc] at h
        cases h
        have v := pCond_ev he hs.2.1 hc
        exact ⟨v.1, by show (knd t e p).toNat ≤ 2; omega, hs.2.2.2.2.1, hs.2.2.2.2.2, v.2⟩
theorem pLaw_ev {t : Nat → Int} {e : Nat} (he : e ≤ 400) : ∀ (n : Nat) (L : List LN) (p : Nat), p ≤ e → (∀ x ∈ L, LnG x) → match pLaw t e n L p with
    | .inl _ => True
    | .inr L' => ∀ x ∈ L', LnG x := by
  intro n
  induction n with
  | zero => intro L p hp h; trivial
  | succ n ih =>
    intro L p hp h
    unfold pLaw
    cases hq : pLine t e p with
    | inl f => trivial
    | inr z =>
      obtain ⟨x, q⟩ := z
      have g := pLine_ev he hp hq
      have hb := pLine_len hp hq
      have hL : ∀ y ∈ L ++ [x], LnG y := by
        intro y hy
        simp only [List.mem_append, List.mem_cons, List.not_mem_nil, or_false] at hy
        rcases hy with hy | hy
        · exact h y hy
        · rw [hy]; exact g
      dsimp only
      by_cases h1 : q = e
      · rw [if_pos h1]; exact hL
      · rw [if_neg h1]
        by_cases h2 : isC t e q 59 = true
        · rw [if_pos h2]; exact ih _ _ (nxt_le t hb.2.1) hL
        · rw [if_neg h2]; trivial
theorem lawOf_ev {t : Nat → Int} {e : Nat} (he : e ≤ 400) {L : List LN} (h : lawOf t e = .inr L) : ∀ x ∈ L, LnG x := by
  unfold lawOf at h
  by_cases h1 : sk t e 0 = e
  · rw [if_pos h1] at h; cases h; intro x hx; cases hx
  · rw [if_neg h1] at h
    have v := pLaw_ev (t := t) he 12 [] (sk t e 0) (sk_b t (Nat.zero_le e)).2 (fun x hx => by cases hx)
    rw [h] at v
    exact v
