/-! TEXTS: signs, words and numbers, purely. A text is a function t and an end e. -/
def skD (t : Nat → Int) : Nat → Nat → Nat
  | 0, p => p
  | d + 1, p => if t p = 32 then skD t d (p + 1) else p
def sk (t : Nat → Int) (e p : Nat) : Nat := skD t (e - p) p
def runD (P : Int → Bool) (t : Nat → Int) : Nat → Nat → Nat
  | 0, p => p
  | d + 1, p => if P (t p) = true then runD P t d (p + 1) else p
def isL (c : Int) : Bool := decide (97 ≤ c ∧ c ≤ 122)
def isD (c : Int) : Bool := decide (48 ≤ c ∧ c ≤ 57)
def wE (t : Nat → Int) (e p : Nat) : Nat := runD isL t (e - p) p
def dE (t : Nat → Int) (e p : Nat) : Nat := runD isD t (e - p) p
theorem skD_b (t : Nat → Int) : ∀ d p, p ≤ skD t d p ∧ skD t d p ≤ p + d := by
  intro d
  induction d with
  | zero => intro p; exact ⟨Nat.le_refl _, Nat.le_refl _⟩
  | succ d ih =>
    intro p
    show p ≤ (if t p = 32 then skD t d (p + 1) else p) ∧ (if t p = 32 then skD t d (p + 1) else p) ≤ p + (d + 1)
    have := ih (p + 1)
    split <;> omega
theorem runD_b (P : Int → Bool) (t : Nat → Int) : ∀ d p, p ≤ runD P t d p ∧ runD P t d p ≤ p + d := by
  intro d
  induction d with
  | zero => intro p; exact ⟨Nat.le_refl _, Nat.le_refl _⟩
  | succ d ih =>
    intro p
    show p ≤ (if P (t p) = true then runD P t d (p + 1) else p) ∧ (if P (t p) = true then runD P t d (p + 1) else p) ≤ p + (d + 1)
    have := ih (p + 1)
    split <;> omega
theorem sk_b (t : Nat → Int) {e p : Nat} (h : p ≤ e) : p ≤ sk t e p ∧ sk t e p ≤ e := by have := skD_b t (e - p) p; unfold sk; omega
theorem wE_b (t : Nat → Int) {e p : Nat} (h : p ≤ e) : p ≤ wE t e p ∧ wE t e p ≤ e := by have := runD_b isL t (e - p) p; unfold wE; omega
theorem dE_b (t : Nat → Int) {e p : Nat} (h : p ≤ e) : p ≤ dE t e p ∧ dE t e p ≤ e := by have := runD_b isD t (e - p) p; unfold dE; omega
theorem sk_e (t : Nat → Int) (e : Nat) : sk t e e = e := by unfold sk; rw [Nat.sub_self]; rfl
theorem sk_32 (t : Nat → Int) {e p : Nat} (h : p < e) (h1 : t p = 32) : sk t e p = sk t e (p + 1) := by
  unfold sk
  rw [show e - p = (e - (p + 1)) + 1 by omega]
  show (if t p = 32 then _ else _) = _
  rw [if_pos h1]
theorem sk_n (t : Nat → Int) {e p : Nat} (h : p < e) (h1 : ¬ t p = 32) : sk t e p = p := by
  unfold sk
  rw [show e - p = (e - (p + 1)) + 1 by omega]
  show (if t p = 32 then _ else _) = _
  rw [if_neg h1]
theorem sk_stop (t : Nat → Int) {e p : Nat} (h : p ≤ e) : sk t e p = e ∨ ¬ t (sk t e p) = 32 := by
  have key : ∀ d p, e - p = d → p ≤ e → (sk t e p = e ∨ ¬ t (sk t e p) = 32) := by
    intro d
    induction d with
    | zero => intro p h1 h2; left; rw [show p = e by omega]; exact sk_e t e
    | succ d ih =>
      intro p h1 h2
      by_cases h3 : t p = 32
      · rw [sk_32 t (by omega) h3]; exact ih (p + 1) (by omega) (by omega)
      · right; rw [sk_n t (by omega) h3]; exact h3
  exact key _ p rfl h
theorem sk_sk (t : Nat → Int) {e p : Nat} (h : p ≤ e) : sk t e (sk t e p) = sk t e p := by
  rcases sk_stop t h with h1 | h1
  · rw [h1, sk_e]
  · have := sk_b t h
    by_cases h2 : sk t e p = e
    · rw [h2, sk_e]
    · exact sk_n t (by omega) h1
theorem runE (P : Int → Bool) (t : Nat → Int) (e : Nat) : runD P t (e - e) e = e := by rw [Nat.sub_self]; rfl
theorem run_y (P : Int → Bool) (t : Nat → Int) {e p : Nat} (h : p < e) (h1 : P (t p) = true) : runD P t (e - p) p = runD P t (e - (p + 1)) (p + 1) := by
  rw [show e - p = (e - (p + 1)) + 1 by omega]
  show (if P (t p) = true then _ else _) = _
  rw [if_pos h1]
theorem run_n (P : Int → Bool) (t : Nat → Int) {e p : Nat} (h1 : ¬ P (t p) = true) : runD P t (e - p) p = p := by
  cases hd : e - p with
  | zero => rfl
  | succ d => show (if P (t p) = true then _ else _) = _; rw [if_neg h1]
/-- the number of n figures from p on -/
def nv (t : Nat → Int) (p : Nat) : Nat → Int
  | 0 => 0
  | n + 1 => 10 * nv t p n + t (p + n) - 48
def isC (t : Nat → Int) (e p : Nat) (c : Int) : Bool := decide (p < e ∧ t p = c)
def isW (t : Nat → Int) (e p : Nat) (w : List Int) : Bool := decide (wE t e p = p + w.length) && allB (fun i => decide (t (p + i) = w.getD i 0)) w.length
/-- the end of what stands at p: a word, a number, a sign -/
def tE (t : Nat → Int) (e p : Nat) : Nat := if p < e then (if isL (t p) = true then wE t e p else if isD (t p) = true then dE t e p else p + 1) else p
def nxt (t : Nat → Int) (e p : Nat) : Nat := sk t e (tE t e p)
theorem tE_b (t : Nat → Int) {e p : Nat} (h : p < e) : p < tE t e p ∧ tE t e p ≤ e := by
  unfold tE
  rw [if_pos h]
  split
  · rename_i h1
    have := wE_b t (show p + 1 ≤ e by omega)
    have e1 : wE t e p = wE t e (p + 1) := run_y isL t h h1
    omega
  · split
    · rename_i h1
      have := dE_b t (show p + 1 ≤ e by omega)
      have e1 : dE t e p = dE t e (p + 1) := run_y isD t h h1
      omega
    · omega
theorem nxt_b (t : Nat → Int) {e p : Nat} (h : p < e) : p < nxt t e p ∧ nxt t e p ≤ e := by
  have h1 := tE_b t h
  have h2 := sk_b t h1.2
  unfold nxt
  omega
/-- a parse: the first wrong byte, or what was read and where the next thing stands -/
abbrev PR (α : Type) : Type := Nat ⊕ (α × Nat)
def pNum (t : Nat → Int) (e p : Nat) (hi : Int) : PR Int := if (p < dE t e p ∧ dE t e p ≤ p + 3) ∧ nv t p (dE t e p - p) ≤ hi then .inr (nv t p (dE t e p - p), nxt t e p) else .inl p
def wHand : List Int := [104, 97, 110, 100]
def wKey : List Int := [107, 101, 121]
def wHard : List Int := [104, 97, 114, 100]
def wTired : List Int := [116, 105, 114, 101, 100]
def wPlayer : List Int := [112, 108, 97, 121, 101, 114]
def wBeat : List Int := [98, 101, 97, 116]
def wPage : List Int := [112, 97, 103, 101]
def wLeft : List Int := [108, 101, 102, 116]
def wLow : List Int := [108, 111, 119]
def wNot : List Int := [110, 111, 116]
def wAnd : List Int := [97, 110, 100]
def wOr : List Int := [111, 114]
def wIf : List Int := [105, 102]
def wFar : List Int := [102, 97, 114]
def wNear : List Int := [110, 101, 97, 114]
def wTake : List Int := [116, 97, 107, 101]
/-- which name stands at p -/
def nmAt (t : Nat → Int) (e p : Nat) : Int := if isW t e p wHand = true then 0 else if isW t e p wKey = true then 1 else if isW t e p wHard = true then 2 else if isW t e p wTired = true then 3 else if isW t e p wPlayer = true then 4 else if isW t e p wBeat = true then 5 else if isW t e p wPage = true then 6 else -1
def pPart (t : Nat → Int) (e p : Nat) : PR Int := if p < e ∧ isD (t p) = true then (match pNum t e p 999 with
    | .inl f => .inl f
    | .inr (v, q) => .inr (16 + v, q)) else if nmAt t e p = -1 then .inl p else .inr (nmAt t e p, nxt t e p)
/-- what a part is worth -/
def dn (F : Nat → Int) (op : Int) : Int := if 16 ≤ op then op - 16 else F op.toNat
/-- a row of codes, and a number that it stands for -/
abbrev CN : Type := List Int × ((Nat → Int) → Int)
abbrev CB2 : Type := List Int × ((Nat → Int) → Bool)
def pSumL (t : Nat → Int) (e : Nat) : Nat → CN → Nat → PR CN
  | 0, a, p => .inr (a, p)
  | n + 1, a, p => if isC t e p 43 = true then (match pPart t e (nxt t e p) with
    | .inl f => .inl f
    | .inr (op, q) => pSumL t e n (a.1 ++ [op, 10], fun F => w32 (a.2 F + dn F op)) q) else .inr (a, p)
def pSum (t : Nat → Int) (e p : Nat) : PR CN := match pPart t e p with
  | .inl f => .inl f
  | .inr (op, q) => pSumL t e (e + 1 - q) ([op], fun F => dn F op) q
def pPlain (t : Nat → Int) (e p : Nat) : PR CB2 := if isW t e p wLeft = true then .inr (([7], fun F => decide (F 7 ≠ 0)), nxt t e p) else if isW t e p wLow = true then .inr (([8], fun F => decide (F 8 ≠ 0)), nxt t e p) else match pSum t e p with
  | .inl f => .inl f
  | .inr (a, q) => if isC t e q 60 = true ∨ isC t e q 62 = true then (match pSum t e (nxt t e q) with
    | .inl f => .inl f
    | .inr (b, r) => .inr ((a.1 ++ b.1 ++ [if isC t e q 60 = true then 11 else 12], fun F => if isC t e q 60 = true then decide (a.2 F < b.2 F) else decide (b.2 F < a.2 F)), r)) else .inl q
def pLoop (t : Nat → Int) (e : Nat) (X : Nat → PR CB2) (w : List Int) (op : Int) (g : Bool → Bool → Bool) : Nat → CB2 → Nat → PR CB2
  | 0, a, p => .inr (a, p)
  | n + 1, a, p => if isW t e p w = true then (match X (nxt t e p) with
    | .inl f => .inl f
    | .inr (b, q) => pLoop t e X w op g n (a.1 ++ b.1 ++ [op], fun F => g (a.2 F) (b.2 F)) q) else .inr (a, p)
def pSeq (t : Nat → Int) (e : Nat) (X : Nat → PR CB2) (w : List Int) (op : Int) (g : Bool → Bool → Bool) (p : Nat) : PR CB2 := match X p with
  | .inl f => .inl f
  | .inr (a, q) => pLoop t e X w op g (e + 1 - q) a q
def pAll (t : Nat → Int) (e : Nat) (X : Nat → PR CB2) : Nat → PR CB2 := pSeq t e X wAnd 13 (fun a b => a && b)
def pAny (t : Nat → Int) (e : Nat) (X : Nat → PR CB2) : Nat → PR CB2 := pSeq t e (pAll t e X) wOr 14 (fun a b => a || b)
/-- an atom that may have d more within it -/
def pAtom (t : Nat → Int) (e : Nat) : Nat → Nat → PR CB2
  | 0, p => if isW t e p wNot = true ∨ isC t e p 40 = true then .inl p else pPlain t e p
  | d + 1, p => if isW t e p wNot = true then (match pAtom t e d (nxt t e p) with
      | .inl f => .inl f
      | .inr (a, q) => .inr ((a.1 ++ [9], fun F => !(a.2 F)), q)) else if isC t e p 40 = true then (match pAny t e (pAtom t e d) (nxt t e p) with
      | .inl f => .inl f
      | .inr (a, q) => if isC t e q 41 = true then .inr (a, nxt t e q) else .inl q) else pPlain t e p
/-- a line: kind, amount, codes, condition -/
abbrev LN : Type := Nat × Int × CB2
def knd (t : Nat → Int) (e p : Nat) : Int := if isW t e p wFar = true then 0 else if isW t e p wNear = true then 1 else if isW t e p wTake = true then 2 else -1
def pCond (t : Nat → Int) (e p : Nat) : PR CB2 := if isW t e p wIf = true then pAny t e (pAtom t e 6) (nxt t e p) else .inr (([17], fun _ => true), p)
def pLine (t : Nat → Int) (e p : Nat) : PR LN := if knd t e p = -1 then .inl p else match (if knd t e p = 2 then .inr (0, nxt t e p) else pNum t e (nxt t e p) 40 : PR Int) with
  | .inl f => .inl f
  | .inr (v, q) => match pCond t e q with
    | .inl f => .inl f
    | .inr (a, r) => .inr (((knd t e p).toNat, v, a), r)
def pLaw (t : Nat → Int) (e : Nat) : Nat → List LN → Nat → Nat ⊕ List LN
  | 0, _, p => .inl p
  | n + 1, L, p => match pLine t e p with
    | .inl f => .inl f
    | .inr (x, q) => if q = e then .inr (L ++ [x]) else if isC t e q 59 = true then pLaw t e n (L ++ [x]) (nxt t e q) else .inl q
/-- the law that a text tells -/
def lawOf (t : Nat → Int) (e : Nat) : Nat ⊕ List LN := if sk t e 0 = e then .inr [] else pLaw t e 12 [] (sk t e 0)
