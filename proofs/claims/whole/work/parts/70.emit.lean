/-! THE LAW's TEXT (the class's reader): codes are emitted. -/
def emH (h : Hp) (cs : List Int) : Hp := fun tt k i => if tt = 104 ∧ k = 2 ∧ i < cs.length then cs.getD i 0 else if tt = 109 ∧ k = 2 ∧ i = 0 then (cs.length : Int) else h tt k i
noncomputable def LT (h : Hp) (cs : List Int) (t : Nat → Int) (e p : Nat) : Hp := tpH (emH h cs) t e p
def Bt (h : Hp) (t : Nat → Int) (e : Nat) : Prop := h 148 0 = t ∧ h 152 0 0 = (e : Int) ∧ e ≤ 400
theorem em_t {h : Hp} {cs : List Int} {tt : Nat} (ht : tt ≠ 104 ∧ tt ≠ 109) : emH h cs tt = h tt := by funext k i; unfold emH; rw [if_neg (fun z => ht.1 z.1), if_neg (fun z => ht.2 z.1)]
theorem LT_TA {h : Hp} {cs : List Int} {t : Nat → Int} {e p : Nat} (B : Bt h t e) (hp : p ≤ e) : TA (LT h cs t e p) t e p :=
  TA_tp (by rw [em_t (by omega)]; exact B.1) (by rw [em_t (by omega)]; exact B.2.1) B.2.2 hp
theorem LT_tp (h : Hp) (cs : List Int) (t : Nat → Int) (e p q : Nat) : tpH (LT h cs t e p) t e q = LT h cs t e q := tp_tp _ _ _ _ _
theorem emit_c (lv : Nat) (h : Hp) (cs : List Int) (t : Nat → Int) (e p : Nat) (op : Int) (hl : cs.length < 400) : cl (lv + 1) 7 [aA 1 2, aI op] (LT h cs t e p) = rv (LT h (cs ++ [op]) t e p) := by
  have e1 : LT h cs t e p 109 2 0 = (cs.length : Int) := by
    unfold LT; rw [tp_tag (by omega)]; unfold emH; rw [if_neg (by omega), if_pos (by omega)]
  rw [in_7]
  simp (disch := omega) only [x_6_0, x_33, x_1, x_65, x_34, x_4_1, x_39_104, x_47_I, x_47_A, x_11, x_36, x_61, x_83, u_7_0, u_7_30, e1, hs_t, tn, Int.reduceEq, Int.reduceLT, Int.reduceLE, reduceIte, Int.reduceAdd, Int.reduceSub, Int.reduceMul, Int.reduceNeg, Int.reduceToNat, Bool.false_eq_true, eq_self, if_pos, if_neg, w32_id]
  congr 1
  funext tt k i
  by_cases hR : tpR tt k i
  · rw [hs_o (by unfold tpR at hR; omega), hs_o (by unfold tpR at hR; omega)]
    unfold LT tpH
    rw [if_pos hR, if_pos hR]
  · unfold LT
    rw [tp_o hR]
    by_cases c1 : tt = 109 ∧ k = 2 ∧ i = 0
    · rw [c1.1, c1.2.1, c1.2.2, hs_eq]
      unfold emH
      rw [if_neg (by omega), if_pos (by omega), List.length_append]
      rfl
    · rw [hs_o c1]
      by_cases c2 : tt = 104 ∧ k = 2 ∧ i = cs.length
      · rw [c2.1, c2.2.1, c2.2.2, hs_eq]
        unfold emH
        rw [if_pos ⟨rfl, rfl, by rw [List.length_append, List.length_singleton]; omega⟩]
        simp
      · rw [hs_o c2, tp_o hR]
        unfold emH
        by_cases c3 : tt = 104 ∧ k = 2 ∧ i < cs.length
        · rw [if_pos c3, if_pos ⟨c3.1, c3.2.1, by rw [List.length_append]; omega⟩, List.getD_eq_getElem?_getD, List.getD_eq_getElem?_getD, List.getElem?_append_left c3.2.2]
        · rw [if_neg c3, if_neg c1, if_neg (fun z => by rw [List.length_append, List.length_singleton] at z; omega), if_neg c1]
/-- how a reading method ends -/
def PRes {β : Type} (r : Option Rs) (x : PR (List Int × β)) (h : Hp) (cs : List Int) (t : Nat → Int) (e : Nat) : Prop := match x with
  | .inl f => ∃ cs', r = ri 0 (hset (LT h cs' t e f) 150 0 0 (f : Int))
  | .inr (a, q) => r = ri 1 (LT h (cs ++ a.1) t e q)
/-- what was read went on, and there is a byte for each code -/
def LenOk {β : Type} (x : PR (List Int × β)) (e p : Nat) : Prop := match x with
  | .inl _ => True
  | .inr (a, q) => p + a.1.length ≤ q ∧ p < q ∧ q ≤ e
theorem isW_lt {t : Nat → Int} {e p : Nat} {w : List Int} (hp : p ≤ e) (h : isW t e p w = true) (hw : 1 ≤ w.length) : p < e := by
  unfold isW at h
  simp only [Bool.and_eq_true, decide_eq_true_eq] at h
  have := (wE_b t hp).2
  omega
theorem isC_lt {t : Nat → Int} {e p : Nat} {c : Int} (h : isC t e p c = true) : p < e := by
  unfold isC at h
  simp only [decide_eq_true_eq] at h
  exact h.1
theorem pNum_len {t : Nat → Int} {e p : Nat} {hi v : Int} {q : Nat} (hp : p ≤ e) (h : pNum t e p hi = .inr (v, q)) : p < q ∧ q ≤ e ∧ p < e ∧ q = nxt t e p ∧ 0 ≤ v ∧ v ≤ hi := by
  unfold pNum at h
  split at h
  · rename_i hc
    cases h
    have h1 := dE_b t hp
    have hlt : p < e := by omega
    have := nxt_b t hlt
    exact ⟨this.1, this.2, hlt, rfl, (nu_b hp hc.1.1 hc.1.2).1, hc.2⟩
  · cases h
theorem nmAt_lt {t : Nat → Int} {e p : Nat} (hp : p ≤ e) (h : ¬ nmAt t e p = -1) : p < e := by
  unfold nmAt at h
  by_cases h1 : isW t e p wHand = true
  · exact isW_lt hp h1 (by decide)
  rw [if_neg h1] at h
  by_cases h1 : isW t e p wKey = true
  · exact isW_lt hp h1 (by decide)
  rw [if_neg h1] at h
  by_cases h1 : isW t e p wHard = true
  · exact isW_lt hp h1 (by decide)
  rw [if_neg h1] at h
  by_cases h1 : isW t e p wTired = true
  · exact isW_lt hp h1 (by decide)
  rw [if_neg h1] at h
  by_cases h1 : isW t e p wPlayer = true
  · exact isW_lt hp h1 (by decide)
  rw [if_neg h1] at h
  by_cases h1 : isW t e p wBeat = true
  · exact isW_lt hp h1 (by decide)
  rw [if_neg h1] at h
  by_cases h1 : isW t e p wPage = true
  · exact isW_lt hp h1 (by decide)
  rw [if_neg h1] at h
  exact absurd rfl h
theorem pPart_len {t : Nat → Int} {e p : Nat} {op : Int} {q : Nat} (hp : p ≤ e) (h : pPart t e p = .inr (op, q)) : p < q ∧ q ≤ e := by
  unfold pPart at h
  split at h
  · cases hn : pNum t e p 999 with
    | inl f => rw [hn] at h; cases h
    | inr z =>
      obtain ⟨v, r⟩ := z
      rw [hn] at h
      cases h
      have := pNum_len hp hn
      exact ⟨this.1, this.2.1⟩
  · split at h
    · cases h
    · rename_i hc
      cases h
      exact nxt_b t (nmAt_lt hp hc)
theorem pSumL_len {t : Nat → Int} {e : Nat} : ∀ (n : Nat) (a : CN) (p p0 : Nat), p ≤ e → p0 + a.1.length ≤ p → p0 < p → LenOk (pSumL t e n a p) e p0 := by
  intro n
  induction n with
  | zero => intro a p p0 h1 h2 h3; exact ⟨h2, h3, h1⟩
  | succ n ih =>
    intro a p p0 h1 h2 h3
    unfold pSumL
    by_cases hc : isC t e p 43 = true
    · rw [if_pos hc]
      have hlt := isC_lt hc
      have hn := nxt_b t hlt
      cases hq : pPart t e (nxt t e p) with
      | inl f => trivial
      | inr z =>
        obtain ⟨op, q⟩ := z
        have := pPart_len hn.2 hq
        refine ih _ q p0 this.2 ?_ (by omega)
        simp only [List.length_append, List.length_cons, List.length_nil]
        omega
    · rw [if_neg hc]; exact ⟨h2, h3, h1⟩
theorem pSum_len {t : Nat → Int} {e p : Nat} (hp : p ≤ e) : LenOk (pSum t e p) e p := by
  unfold pSum
  cases hq : pPart t e p with
  | inl f => trivial
  | inr z =>
    obtain ⟨op, q⟩ := z
    have := pPart_len hp hq
    exact pSumL_len _ _ q p this.2 (by simp; omega) this.1
theorem pPlain_len {t : Nat → Int} {e p : Nat} (hp : p ≤ e) : LenOk (pPlain t e p) e p := by
  unfold pPlain
  by_cases h1 : isW t e p wLeft = true
  · rw [if_pos h1]
    have := nxt_b t (isW_lt hp h1 (by decide))
    exact ⟨by simp; omega, this.1, this.2⟩
  · rw [if_neg h1]
    by_cases h2 : isW t e p wLow = true
    · rw [if_pos h2]
      have := nxt_b t (isW_lt hp h2 (by decide))
      exact ⟨by simp; omega, this.1, this.2⟩
    · rw [if_neg h2]
      have l1 := pSum_len (t := t) hp
      cases hs : pSum t e p with
      | inl f => trivial
      | inr z =>
        obtain ⟨a, q⟩ := z
        rw [hs] at l1
        obtain ⟨b1, b2, b3⟩ := l1
        simp only
        by_cases h3 : isC t e q 60 = true ∨ isC t e q 62 = true
        · rw [if_pos h3]
          have hlt : q < e := by rcases h3 with h3 | h3 <;> exact isC_lt h3
          have hn := nxt_b t hlt
          have l2 := pSum_len (t := t) hn.2
          cases hs2 : pSum t e (nxt t e q) with
          | inl f => trivial
          | inr z2 =>
            obtain ⟨b, r⟩ := z2
            rw [hs2] at l2
            obtain ⟨c1, c2, c3⟩ := l2
            refine ⟨?_, by omega, c3⟩
            simp only [List.length_append, List.length_cons, List.length_nil]
            omega
        · rw [if_neg h3]; trivial
theorem pLoop_len {t : Nat → Int} {e : Nat} {X : Nat → PR CB2} {w : List Int} {op : Int} {g : Bool → Bool → Bool} (hw : 1 ≤ w.length) (hX : ∀ p, p ≤ e → LenOk (X p) e p) : ∀ (n : Nat) (a : CB2) (p p0 : Nat), p ≤ e → p0 + a.1.length ≤ p → p0 < p → LenOk (pLoop t e X w op g n a p) e p0 := by
  intro n
  induction n with
  | zero => intro a p p0 h1 h2 h3; exact ⟨h2, h3, h1⟩
  | succ n ih =>
    intro a p p0 h1 h2 h3
    unfold pLoop
    by_cases hc : isW t e p w = true
    · rw [if_pos hc]
      have hn := nxt_b t (isW_lt h1 hc hw)
      have l1 := hX (nxt t e p) hn.2
      cases hq : X (nxt t e p) with
      | inl f => trivial
      | inr z =>
        obtain ⟨b, q⟩ := z
        rw [hq] at l1
        obtain ⟨c1, c2, c3⟩ := l1
        refine ih _ q p0 c3 ?_ (by omega)
        simp only [List.length_append, List.length_cons, List.length_nil]
        omega
    · rw [if_neg hc]; exact ⟨h2, h3, h1⟩
theorem pSeq_len {t : Nat → Int} {e : Nat} {X : Nat → PR CB2} {w : List Int} {op : Int} {g : Bool → Bool → Bool} (hw : 1 ≤ w.length) (hX : ∀ p, p ≤ e → LenOk (X p) e p) (p : Nat) (hp : p ≤ e) : LenOk (pSeq t e X w op g p) e p := by
  unfold pSeq
  have l1 := hX p hp
  cases hq : X p with
  | inl f => trivial
  | inr z =>
    obtain ⟨a, q⟩ := z
    rw [hq] at l1
    obtain ⟨c1, c2, c3⟩ := l1
    exact pLoop_len hw hX _ a q p c3 c1 c2
theorem pAny_len {t : Nat → Int} {e : Nat} {X : Nat → PR CB2} (hX : ∀ p, p ≤ e → LenOk (X p) e p) (p : Nat) (hp : p ≤ e) : LenOk (pAny t e X p) e p := pSeq_len (by decide) (fun p hp => pSeq_len (by decide) hX p hp) p hp
theorem pAtom_len {t : Nat → Int} {e : Nat} : ∀ (d p : Nat), p ≤ e → LenOk (pAtom t e d p) e p := by
  intro d
  induction d with
  | zero =>
    intro p hp
    unfold pAtom
    split
    · trivial
    · exact pPlain_len hp
  | succ d ih =>
    intro p hp
    unfold pAtom
    by_cases h1 : isW t e p wNot = true
    · rw [if_pos h1]
      have hn := nxt_b t (isW_lt hp h1 (by decide))
      have l1 := ih (nxt t e p) hn.2
      cases hq : pAtom t e d (nxt t e p) with
      | inl f => trivial
      | inr z =>
        obtain ⟨a, q⟩ := z
        rw [hq] at l1
        obtain ⟨c1, c2, c3⟩ := l1
        refine ⟨?_, by omega, c3⟩
        simp only [List.length_append, List.length_cons, List.length_nil]
        omega
    · rw [if_neg h1]
      by_cases h2 : isC t e p 40 = true
      · rw [if_pos h2]
        have hn := nxt_b t (isC_lt h2)
        have l1 := pAny_len (t := t) ih (nxt t e p) hn.2
        cases hq : pAny t e (pAtom t e d) (nxt t e p) with
        | inl f => trivial
        | inr z =>
          obtain ⟨a, q⟩ := z
          rw [hq] at l1
          obtain ⟨c1, c2, c3⟩ := l1
          simp only
          by_cases h3 : isC t e q 41 = true
          · rw [if_pos h3]
            have hn2 := nxt_b t (isC_lt h3)
            exact ⟨by omega, by omega, hn2.2⟩
          · rw [if_neg h3]; trivial
      · rw [if_neg h2]; exact pPlain_len hp
