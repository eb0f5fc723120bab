/-! WHAT THE CODES COMPUTE, purely. -/
def op2 (c x y : Int) : Int := if c = 10 then w32 (x + y) else if c = 11 then (if x < y then 1 else 0) else if c = 12 then (if x > y then 1 else 0) else if c = 13 then iand x y else ior x y
def st1 (F : Nat → Int) (c : Int) (s : List Int) : Option (List Int) := if c < 9 ∨ 16 ≤ c then (if s.length < 20 then some ((if 16 ≤ c then c - 16 else F c.toNat) :: s) else none) else if c = 9 then (match s with
    | x :: s => some (w32 (1 - x) :: s)
    | _ => none) else (match s with
    | y :: x :: s => some (op2 c x y :: s)
    | _ => none)
def exs (F : Nat → Int) : List Int → List Int → Option (List Int)
  | [], s => some s
  | c :: cs, s => match st1 F c s with
    | none => none
    | some s' => exs F cs s'
theorem exs_a (F : Nat → Int) : ∀ (a b s : List Int), exs F (a ++ b) s = match exs F a s with
    | none => none
    | some s' => exs F b s' := by
  intro a
  induction a with
  | nil => intro b s; rfl
  | cons c a ih =>
    intro b s
    show (match st1 F c s with | none => none | some s' => exs F (a ++ b) s') = match (match st1 F c s with | none => none | some s' => exs F a s') with | none => none | some s' => exs F b s'
    cases st1 F c s with
    | none => rfl
    | some s' => exact ih b s'
def okCd (c : Int) : Prop := 0 ≤ c ∧ c ≤ 1015 ∧ c ≠ 15
def FOk (F : Nat → Int) : Prop := (∀ i, 0 ≤ F i ∧ F i ≤ 1000000) ∧ F 7 ≤ 1 ∧ F 8 ≤ 1
def GNm (F : Nat → Int) (a : CN) (D : Nat) : Prop := (∀ c ∈ a.1, okCd c) ∧ 0 ≤ a.2 F ∧ a.2 F ≤ 1000000 * (a.1.length : Int) ∧ ∀ s, s.length + D ≤ 20 → exs F a.1 s = some (a.2 F :: s)
def GBl (F : Nat → Int) (a : CB2) (D : Nat) : Prop := (∀ c ∈ a.1, okCd c) ∧ ∀ s, s.length + D ≤ 20 → exs F a.1 s = some ((if a.2 F = true then 1 else 0) :: s)
theorem st1_push {F : Nat → Int} {op : Int} (h0 : 0 ≤ op) (h1 : op < 9 ∨ 16 ≤ op) {s : List Int} (hs : s.length < 20) : st1 F op s = some (dn F op :: s) := by
  unfold st1 dn
  rw [if_pos h1, if_pos hs]
theorem pPart_op {t : Nat → Int} {e p : Nat} {op : Int} {q : Nat} (hp : p ≤ e) (h : pPart t e p = .inr (op, q)) : okCd op ∧ (op < 9 ∨ 16 ≤ op) := by
  unfold pPart at h
  unfold okCd
  split at h
  · cases hn : pNum t e p 999 with
    | inl f => rw [hn] at h; cases h
    | inr z =>
      obtain ⟨v, r⟩ := z
      rw [hn] at h
      cases h
      have := pNum_len hp hn
      omega
  · split at h
    · cases h
    · rename_i hc
      cases h
      unfold nmAt at hc ⊢
      split
      · omega
      split
      · omega
      split
      · omega
      split
      · omega
      split
      · omega
      split
      · omega
      split
      · omega
      rename_i c1 c2 c3 c4 c5 c6 c7
      rw [if_neg c1, if_neg c2, if_neg c3, if_neg c4, if_neg c5, if_neg c6, if_neg c7] at hc
      exact absurd rfl hc
theorem dn_b {F : Nat → Int} (hF : FOk F) {op : Int} (h : okCd op) : 0 ≤ dn F op ∧ dn F op ≤ 1000000 := by
  unfold dn okCd at *
  have := hF.1 op.toNat
  split <;> omega
theorem pSumL_ev {t : Nat → Int} {e : Nat} {F : Nat → Int} (hF : FOk F) (he : e ≤ 400) : ∀ (n : Nat) (a : CN) (p : Nat), p ≤ e → a.1.length ≤ p → GNm F a 2 → match pSumL t e n a p with
    | .inl _ => True
    | .inr (b, _) => GNm F b 2 := by
  intro n
  induction n with
  | zero => intro a p h1 h2 h3; exact h3
  | succ n ih =>
    intro a p h1 h2 h3
    unfold pSumL
    by_cases hc : isC t e p 43 = true
    · rw [if_pos hc]
      have hn := nxt_b t (isC_lt hc)
      cases hq : pPart t e (nxt t e p) with
      | inl f => trivial
      | inr z =>
        obtain ⟨op, q⟩ := z
        have hl := pPart_len hn.2 hq
        have ho := pPart_op hn.2 hq
        have hd := dn_b hF ho.1
        have hw : w32 (a.2 F + dn F op) = a.2 F + dn F op := w32_id (by have := h3.2.1; omega) (by have := h3.2.2.1; omega)
        refine ih _ q hl.2 (by simp only [List.length_append, List.length_cons, List.length_nil]; omega) ⟨?_, ?_, ?_, ?_⟩
        · intro c hc
          simp only [List.mem_append, List.mem_cons, List.not_mem_nil, or_false] at hc
          rcases hc with hc | hc | hc
          · exact h3.1 c hc
          · rw [hc]; exact ho.1
          · rw [hc]; unfold okCd; omega
        · show 0 ≤ w32 (a.2 F + dn F op)
          rw [hw]
          have := h3.2.1
          omega
        · show w32 (a.2 F + dn F op) ≤ _
          rw [hw]
          have := h3.2.2.1
          simp only [List.length_append, List.length_cons, List.length_nil]
          omega
        · intro s hs
          show exs F (a.1 ++ [op, 10]) s = some (w32 (a.2 F + dn F op) :: s)
          rw [exs_a, h3.2.2.2 s hs]
          show exs F [op, 10] (a.2 F :: s) = _
          unfold exs
          rw [st1_push ho.1.1 ho.2 (by simp only [List.length_cons]; omega)]
          show exs F [10] (dn F op :: a.2 F :: s) = _
          show some (op2 10 (a.2 F) (dn F op) :: s) = _
          unfold op2
          rw [if_pos rfl]
    · rw [if_neg hc]; exact h3
theorem pSum_ev {t : Nat → Int} {e p : Nat} {F : Nat → Int} (hF : FOk F) (he : e ≤ 400) (hp : p ≤ e) : match pSum t e p with
    | .inl _ => True
    | .inr (b, _) => GNm F b 2 := by
  unfold pSum
  cases hq : pPart t e p with
  | inl f => trivial
  | inr z =>
    obtain ⟨op, q⟩ := z
    have hl := pPart_len hp hq
    have ho := pPart_op hp hq
    have hd := dn_b hF ho.1
    refine pSumL_ev hF he _ ([op], fun F => dn F op) q hl.2 (by simp; omega) ⟨?_, hd.1, ?_, ?_⟩
    · intro c hc
      simp only [List.mem_cons, List.not_mem_nil, or_false] at hc
      rw [hc]; exact ho.1
    · show dn F op ≤ _
      simp only [List.length_cons, List.length_nil]
      omega
    · intro s hs
      show exs F [op] s = some (dn F op :: s)
      unfold exs
      rw [st1_push ho.1.1 ho.2 (by omega)]
      rfl
theorem pPlain_ev {t : Nat → Int} {e p : Nat} {F : Nat → Int} (hF : FOk F) (he : e ≤ 400) (hp : p ≤ e) : match pPlain t e p with
    | .inl _ => True
    | .inr (b, _) => GBl F b 3 := by
  have one : ∀ i : Nat, (i = 7 ∨ i = 8) → GBl F ([(i : Int)], fun F => decide (F i ≠ 0)) 3 := by
    intro i hi
    refine ⟨?_, ?_⟩
    · intro c hc
      simp only [List.mem_cons, List.not_mem_nil, or_false] at hc
      rw [hc]; unfold okCd; omega
    · intro s hs
      show exs F [(i : Int)] s = _
      unfold exs
      rw [st1_push (by omega) (by omega) (by omega)]
      show some (dn F (i : Int) :: s) = _
      have e1 : dn F (i : Int) = F i := by unfold dn; rw [if_neg (by omega), tn]
      rw [e1]
      have b := hF.1 i
      have b1 : F i ≤ 1 := by rcases hi with hi | hi <;> rw [hi]; exact hF.2.1; exact hF.2.2
      by_cases z : F i = 0
      · simp [z]
      · have : F i = 1 := by omega
        simp [this]
  unfold pPlain
  by_cases h1 : isW t e p wLeft = true
  · rw [if_pos h1]; exact one 7 (Or.inl rfl)
  rw [if_neg h1]
  by_cases h2 : isW t e p wLow = true
  · rw [if_pos h2]; exact one 8 (Or.inr rfl)
  rw [if_neg h2]
  have v1 := pSum_ev (t := t) hF he hp
  have l1 := pSum_len (t := t) hp
  cases hs : pSum t e p with
  | inl f => trivial
  | inr z =>
    obtain ⟨a, q⟩ := z
    rw [hs] at v1 l1
    have l1 : p + a.1.length ≤ q ∧ p < q ∧ q ≤ e := l1
    dsimp only at v1 ⊢
    by_cases h3 : isC t e q 60 = true ∨ isC t e q 62 = true
    · rw [if_pos h3]
      have hqe : q < e := by rcases h3 with h3 | h3 <;> exact isC_lt h3
      have hn := nxt_b t hqe
      have v2 := pSum_ev (t := t) hF he hn.2
      cases hu : pSum t e (nxt t e q) with
      | inl f => trivial
      | inr y =>
        obtain ⟨b, r⟩ := y
        rw [hu] at v2
        dsimp only at v2 ⊢
        refine ⟨?_, ?_⟩
        · intro c hc
          simp only [List.mem_append, List.mem_cons, List.not_mem_nil, or_false] at hc
          rcases hc with (hc | hc) | hc
          · exact v1.1 c hc
          · exact v2.1 c hc
          · rw [hc]; unfold okCd; split <;> omega
        · intro s hs
          show exs F (a.1 ++ b.1 ++ [if isC t e q 60 = true then 11 else 12]) s = _
          rw [exs_a, exs_a, v1.2.2.2 s (by omega)]
          dsimp only
          rw [v2.2.2.2 (a.2 F :: s) (by simp only [List.length_cons]; omega)]
          by_cases h4 : isC t e q 60 = true
          · simp only [h4, if_pos, decide_eq_true_eq]
            rfl
          · simp only [h4, if_false, decide_eq_true_eq, Bool.false_eq_true]
            rfl
    · rw [if_neg h3]; trivial
theorem pLoop_ev {t : Nat → Int} {e : Nat} {F : Nat → Int} {X : Nat → PR CB2} {w : List Int} {op : Int} {g : Bool → Bool → Bool} {D : Nat} (hw : 1 ≤ w.length) (hop : op = 13 ∨ op = 14) (hg : ∀ a b : Bool, op2 op (if a = true then 1 else 0) (if b = true then 1 else 0) = if g a b = true then 1 else 0)
    (hN : ∀ p, p ≤ e → LenOk (X p) e p) (hX : ∀ p, p ≤ e → match X p with | .inl _ => True | .inr (b, _) => GBl F b D) : ∀ (n : Nat) (a : CB2) (p : Nat), p ≤ e → GBl F a (D + 1) → match pLoop t e X w op g n a p with
    | .inl _ => True
    | .inr (b, _) => GBl F b (D + 1) := by
  intro n
  induction n with
  | zero => intro a p h1 h2; exact h2
  | succ n ih =>
    intro a p h1 h2
    unfold pLoop
    by_cases hc : isW t e p w = true
    · rw [if_pos hc]
      have hn := nxt_b t (isW_lt h1 hc hw)
      have v := hX _ hn.2
      have l := hN _ hn.2
      cases hq : X (nxt t e p) with
      | inl f => trivial
      | inr z =>
        obtain ⟨b, q⟩ := z
        rw [hq] at v l
        have l : nxt t e p + b.1.length ≤ q ∧ nxt t e p < q ∧ q ≤ e := l
        dsimp only at v ⊢
        refine ih _ q l.2.2 ⟨?_, ?_⟩
        · intro c hc
          simp only [List.mem_append, List.mem_cons, List.not_mem_nil, or_false] at hc
          rcases hc with (hc | hc) | hc
          · exact h2.1 c hc
          · exact v.1 c hc
          · rw [hc]; unfold okCd; omega
        · intro s hs
          show exs F (a.1 ++ b.1 ++ [op]) s = _
          rw [exs_a, exs_a, h2.2 s hs]
          dsimp only
          rw [v.2 _ (by simp only [List.length_cons]; omega)]
          dsimp only
          have e1 : exs F [op] ((if b.2 F = true then 1 else 0) :: (if a.2 F = true then 1 else 0) :: s) = some (op2 op (if a.2 F = true then 1 else 0) (if b.2 F = true then 1 else 0) :: s) := by
            rcases hop with ho | ho <;> subst ho <;> rfl
          rw [e1, hg]
    · rw [if_neg hc]; exact h2
theorem pSeq_ev {t : Nat → Int} {e : Nat} {F : Nat → Int} {X : Nat → PR CB2} {w : List Int} {op : Int} {g : Bool → Bool → Bool} {D : Nat} (hw : 1 ≤ w.length) (hop : op = 13 ∨ op = 14) (hg : ∀ a b : Bool, op2 op (if a = true then 1 else 0) (if b = true then 1 else 0) = if g a b = true then 1 else 0)
    (hN : ∀ p, p ≤ e → LenOk (X p) e p) (hX : ∀ p, p ≤ e → match X p with | .inl _ => True | .inr (b, _) => GBl F b D) (p : Nat) (hp : p ≤ e) : match pSeq t e X w op g p with
    | .inl _ => True
    | .inr (b, _) => GBl F b (D + 1) := by
  have v := hX p hp
  have l := hN p hp
  unfold pSeq
  cases hq : X p with
  | inl f => trivial
  | inr z =>
    obtain ⟨a, q⟩ := z
    rw [hq] at v l
    have l : p + a.1.length ≤ q ∧ p < q ∧ q ≤ e := l
    exact pLoop_ev hw hop hg hN hX _ a q l.2.2 ⟨v.1, fun s hs => v.2 s (by omega)⟩
theorem pAny_ev {t : Nat → Int} {e : Nat} {F : Nat → Int} {X : Nat → PR CB2} {D : Nat} (hN : ∀ p, p ≤ e → LenOk (X p) e p) (hX : ∀ p, p ≤ e → match X p with | .inl _ => True | .inr (b, _) => GBl F b D) (p : Nat) (hp : p ≤ e) : match pAny t e X p with
    | .inl _ => True
    | .inr (b, _) => GBl F b (D + 2) :=
  pSeq_ev (by decide) (Or.inr rfl) (by decide) (fun p hp => pSeq_len (by decide) hN p hp) (fun p hp => pSeq_ev (by decide) (Or.inl rfl) (by decide) hN hX p hp) p hp
theorem pAtom_ev {t : Nat → Int} {e : Nat} {F : Nat → Int} (hF : FOk F) (he : e ≤ 400) : ∀ (d p : Nat), p ≤ e → match pAtom t e d p with
    | .inl _ => True
    | .inr (b, _) => GBl F b (2 * d + 3) := by
  intro d
  induction d with
  | zero =>
    intro p hp
    unfold pAtom
    by_cases hc : isW t e p wNot = true ∨ isC t e p 40 = true
    · rw [if_pos hc]; trivial
    · rw [if_neg hc]; exact pPlain_ev hF he hp
  | succ d ih =>
    intro p hp
    unfold pAtom
    by_cases h1 : isW t e p wNot = true
    · rw [if_pos h1]
      have hn := nxt_b t (isW_lt hp h1 (by decide))
      have v := ih _ hn.2
      cases hq : pAtom t e d (nxt t e p) with
      | inl f => trivial
      | inr z =>
        obtain ⟨a, q⟩ := z
        rw [hq] at v
        dsimp only at v ⊢
        refine ⟨?_, ?_⟩
        · intro c hc
          simp only [List.mem_append, List.mem_cons, List.not_mem_nil, or_false] at hc
          rcases hc with hc | hc
          · exact v.1 c hc
          · rw [hc]; unfold okCd; omega
        · intro s hs
          show exs F (a.1 ++ [9]) s = _
          rw [exs_a, v.2 s (by omega)]
          dsimp only
          by_cases hb : a.2 F = true
          · simp only [hb, Bool.not_true, Bool.false_eq_true, if_true, if_false]; rfl
          · rw [Bool.not_eq_true] at hb; simp only [hb, Bool.not_false, Bool.false_eq_true, if_true, if_false]; rfl
    · rw [if_neg h1]
      by_cases h2 : isC t e p 40 = true
      · rw [if_pos h2]
        have hn := nxt_b t (isC_lt h2)
        have v := pAny_ev (t := t) (F := F) (pAtom_len (t := t) d) ih _ hn.2
        cases hq : pAny t e (pAtom t e d) (nxt t e p) with
        | inl f => trivial
        | inr z =>
          obtain ⟨a, q⟩ := z
          rw [hq] at v
          dsimp only at v ⊢
          split
          · rename_i hx
            split at hx
            · cases hx
            · cases hx
              trivial
          · rename_i hx
            split at hx
            · cases hx
              exact ⟨v.1, fun s hs => v.2 s (by omega)⟩
            · cases hx
      · rw [if_neg h2]
        have v := pPlain_ev (t := t) hF he hp
        cases hq : pPlain t e p with
        | inl f => trivial
        | inr z =>
          obtain ⟨a, q⟩ := z
          rw [hq] at v
          exact ⟨v.1, fun s hs => v.2 s (by omega)⟩
