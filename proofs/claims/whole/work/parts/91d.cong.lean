/-! A TEXT COUNTS UP TO ITS END ONLY. -/
def TL (t t' : Nat → Int) (e : Nat) : Prop := ∀ i, i < e → t i = t' i
theorem allB_congr {P Q : Nat → Bool} : ∀ {n : Nat}, (∀ i, i < n → P i = Q i) → allB P n = allB Q n := by
  intro n
  induction n with
  | zero => intro _; rfl
  | succ n ih =>
    intro h
    simp only [allB, ih (fun i hi => h i (by omega)), h n (by omega)]
section
variable {t t' : Nat → Int} {e : Nat}
theorem skD_l : ∀ d p, (∀ i, i < p + d → t i = t' i) → skD t d p = skD t' d p := by
  intro d
  induction d with
  | zero => intro p _; rfl
  | succ d ih =>
    intro p h
    show (if t p = 32 then skD t d (p + 1) else p) = if t' p = 32 then skD t' d (p + 1) else p
    rw [h p (by omega), ih (p + 1) (fun i hi => h i (by omega))]
theorem runD_l (P : Int → Bool) : ∀ d p, (∀ i, i < p + d → t i = t' i) → runD P t d p = runD P t' d p := by
  intro d
  induction d with
  | zero => intro p _; rfl
  | succ d ih =>
    intro p h
    show (if P (t p) = true then runD P t d (p + 1) else p) = if P (t' p) = true then runD P t' d (p + 1) else p
    rw [h p (by omega), ih (p + 1) (fun i hi => h i (by omega))]
theorem sk_l (h : TL t t' e) : sk t e = sk t' e := funext (fun p => by
  unfold sk
  by_cases c : p ≤ e
  · exact skD_l _ _ (fun i hi => h i (by omega))
  · rw [show e - p = 0 by omega]; rfl)
theorem run_l (P : Int → Bool) (h : TL t t' e) (p : Nat) : runD P t (e - p) p = runD P t' (e - p) p := by
  by_cases c : p ≤ e
  · exact runD_l P _ _ (fun i hi => h i (by omega))
  · rw [show e - p = 0 by omega]; rfl
theorem wE_l (h : TL t t' e) : wE t e = wE t' e := funext (fun p => run_l isL h p)
theorem dE_l (h : TL t t' e) : dE t e = dE t' e := funext (fun p => run_l isD h p)
theorem nv_l (p : Nat) : ∀ n, (∀ i, i < p + n → t i = t' i) → nv t p n = nv t' p n := by
  intro n
  induction n with
  | zero => intro _; rfl
  | succ n ih =>
    intro h
    show 10 * nv t p n + t (p + n) - 48 = 10 * nv t' p n + t' (p + n) - 48
    rw [ih (fun i hi => h i (by omega)), h (p + n) (by omega)]
theorem isC_l (h : TL t t' e) : isC t e = isC t' e := funext (fun p => funext (fun c => by
  unfold isC
  by_cases d : p < e
  · rw [h p d]
  · simp [d]))
theorem isW_l (h : TL t t' e) : isW t e = isW t' e := funext (fun p => funext (fun w => by
  unfold isW
  rw [wE_l h]
  by_cases d : wE t' e p = p + w.length
  · congr 1
    refine allB_congr (fun i hi => ?_)
    by_cases c : p ≤ e
    · have := wE_b t' c
      rw [h (p + i) (by omega)]
    · exfalso
      unfold wE at d
      rw [show e - p = 0 by omega] at d
      have : p = p + w.length := d
      omega
  · rw [decide_eq_false d]; rfl))
theorem tE_l (h : TL t t' e) : tE t e = tE t' e := funext (fun p => by
  unfold tE
  rw [wE_l h, dE_l h]
  by_cases d : p < e
  · rw [if_pos d, if_pos d, h p d]
  · rw [if_neg d, if_neg d])
theorem nxt_l (h : TL t t' e) : nxt t e = nxt t' e := funext (fun p => by unfold nxt; rw [sk_l h, tE_l h])
theorem pNum_l (h : TL t t' e) : pNum t e = pNum t' e := funext (fun p => funext (fun hi => by
  have : nv t p (dE t' e p - p) = nv t' p (dE t' e p - p) := by
    by_cases c : p ≤ e
    · have := dE_b t' c
      exact nv_l p _ (fun i hi => h i (by omega))
    · unfold dE
      rw [show e - p = 0 by omega]
      rw [show runD isD t' 0 p - p = 0 from Nat.sub_self p]
      rfl
  unfold pNum
  rw [dE_l h, nxt_l h, this]))
theorem nmAt_l (h : TL t t' e) : nmAt t e = nmAt t' e := funext (fun p => by unfold nmAt; rw [isW_l h])
theorem pPart_l (h : TL t t' e) : pPart t e = pPart t' e := funext (fun p => by
  unfold pPart
  rw [pNum_l h, nmAt_l h, nxt_l h]
  by_cases d : p < e
  · rw [h p d]
  · have n1 : ¬ (p < e ∧ isD (t p) = true) := fun z => d z.1
    have n2 : ¬ (p < e ∧ isD (t' p) = true) := fun z => d z.1
    simp only [n1, n2, if_false])
theorem pSumL_l (h : TL t t' e) : ∀ n a p, pSumL t e n a p = pSumL t' e n a p := by
  intro n
  induction n with
  | zero => intro a p; rfl
  | succ n ih =>
    intro a p
    simp only [pSumL, isC_l h, pPart_l h, nxt_l h, ih]
theorem pSum_l (h : TL t t' e) : pSum t e = pSum t' e := funext (fun p => by
  unfold pSum
  simp only [pPart_l h, pSumL_l h])
theorem pPlain_l (h : TL t t' e) : pPlain t e = pPlain t' e := funext (fun p => by
  unfold pPlain
  simp only [isW_l h, nxt_l h, pSum_l h, isC_l h])
theorem pLoop_l (h : TL t t' e) (X : Nat → PR CB2) (w : List Int) (op : Int) (g : Bool → Bool → Bool) : ∀ n a p, pLoop t e X w op g n a p = pLoop t' e X w op g n a p := by
  intro n
  induction n with
  | zero => intro a p; rfl
  | succ n ih =>
    intro a p
    simp only [pLoop, isW_l h, nxt_l h, ih]
theorem pSeq_l (h : TL t t' e) : pSeq t e = pSeq t' e := by
  funext X w op g p
  unfold pSeq
  simp only [pLoop_l h]
theorem pAny_l (h : TL t t' e) : pAny t e = pAny t' e := by
  funext X p
  unfold pAny pAll
  rw [pSeq_l h]
theorem pAtom_l (h : TL t t' e) : ∀ d, pAtom t e d = pAtom t' e d := by
  intro d
  induction d with
  | zero => funext p; simp only [pAtom, isW_l h, isC_l h, pPlain_l h]
  | succ d ih => funext p; simp only [pAtom, isW_l h, isC_l h, pPlain_l h, nxt_l h, pAny_l h, ih]
theorem pLine_l (h : TL t t' e) : pLine t e = pLine t' e := by
  funext p
  have k : knd t e = knd t' e := funext (fun p => by unfold knd; rw [isW_l h])
  have c : pCond t e = pCond t' e := funext (fun p => by unfold pCond; rw [isW_l h, pAny_l h, pAtom_l h, nxt_l h])
  unfold pLine
  simp only [k, c, pNum_l h, nxt_l h]
theorem pLaw_l (h : TL t t' e) : ∀ n L p, pLaw t e n L p = pLaw t' e n L p := by
  intro n
  induction n with
  | zero => intro L p; rfl
  | succ n ih =>
    intro L p
    simp only [pLaw, pLine_l h, isC_l h, nxt_l h, ih]
theorem lawOf_l (h : TL t t' e) : lawOf t e = lawOf t' e := by
  unfold lawOf
  rw [sk_l h]
  simp only [pLaw_l h]
end
theorem LM_l {M M' : Nat → Int} {L : List LN} (e : ∀ j, j < 746 → M' j = M j) (hL : LM M L) : LM M' L := by
  rcases hL with ⟨a, b⟩ | ⟨a, n, b, c, d⟩
  · exact Or.inl ⟨by rw [e 1 (by omega)]; exact a, b⟩
  · exact Or.inr ⟨by rw [e 1 (by omega)]; exact a, n, by rw [e 2 (by omega)]; exact b, c, by rw [← d]; exact lawOf_l (fun i hi => e _ (by omega))⟩
