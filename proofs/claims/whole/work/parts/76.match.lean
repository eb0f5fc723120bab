/-! HANDS AND NOTES, PURELY: the way of a chord as both programs weigh it, and matchings. -/
theorem loop_p {S : Type} {F : Nat → S → Option Rs} {I : Nat → S → Prop} {Q : Option Rs → Prop} {N : Nat} (hs : ∀ i s, i < N → I i s → ∃ s', F i s = F (i + 1) s' ∧ I (i + 1) s') (he : ∀ s, I N s → Q (F N s)) : ∀ s, I 0 s → Q (F 0 s) := by
  have key : ∀ d i s, i + d = N → I i s → Q (F i s) := by
    intro d
    induction d with
    | zero => intro i s h hi; have e : i = N := by omega
              subst e; exact he s hi
    | succ d ih => intro i s h hi; obtain ⟨s', e, hi'⟩ := hs i s (by omega) hi; rw [e]; exact ih (i + 1) s' (by omega) hi'
  exact fun s hi => key N 0 s (by omega) hi
def mxH (p : Nat → Bool) (v : Nat → Int) (a : Int) : Nat → Int
  | 0 => a
  | j + 1 => if p j = true then max (mxH p v a j) (v j) else mxH p v a j
def dpv (w : Int) (can : Nat → Nat → Bool) (far : Nat → Nat → Int) (H : Nat) : List Nat → Nat → Int
  | [], _ => 0
  | n :: cs, u => mxH (fun x => !u.testBit x && can n x) (fun x => w - far n x + dpv w can far H cs (u ||| 2 ^ x)) (dpv w can far H cs u) H
/-- how many notes, and how far all hands go -/
def pmx (x y : Nat × Nat) : Nat × Nat := if x.1 < y.1 ∨ (x.1 = y.1 ∧ y.2 < x.2) then y else x
def pmxH (p : Nat → Bool) (v : Nat → Nat × Nat) (a : Nat × Nat) : Nat → Nat × Nat
  | 0 => a
  | j + 1 => if p j = true then pmx (pmxH p v a j) (v j) else pmxH p v a j
def dpp (can : Nat → Nat → Bool) (far : Nat → Nat → Int) (H : Nat) : List Nat → Nat → Nat × Nat
  | [], _ => (0, 0)
  | n :: cs, u => pmxH (fun x => !u.testBit x && can n x) (fun x => ((dpp can far H cs (u ||| 2 ^ x)).1 + 1, (dpp can far H cs (u ||| 2 ^ x)).2 + (far n x).toNat)) (dpp can far H cs u) H
def pdv (w : Int) (x : Nat × Nat) : Int := w * (x.1 : Int) - (x.2 : Int)
theorem pdv_max {w : Int} (hw : w = 1000 ∨ w = 100000) {x y : Nat × Nat} (hx : x.2 < 1000) (hy : y.2 < 1000) : max (pdv w x) (pdv w y) = pdv w (pmx x y) := by
  unfold pdv pmx
  rcases hw with rfl | rfl
  · by_cases c : x.1 < y.1 ∨ (x.1 = y.1 ∧ y.2 < x.2)
    · rw [if_pos c]; omega
    · rw [if_neg c]; omega
  · by_cases c : x.1 < y.1 ∨ (x.1 = y.1 ∧ y.2 < x.2)
    · rw [if_pos c]; omega
    · rw [if_neg c]; omega
theorem pdv_inj {w : Int} (hw : w = 1000 ∨ w = 100000) {x y : Nat × Nat} (hx : x.2 < 1000) (hy : y.2 < 1000) : pdv w x = pdv w y ↔ x = y := by
  constructor
  · intro h
    obtain ⟨a, b⟩ := x
    obtain ⟨c, d⟩ := y
    unfold pdv at h
    simp only at h hx hy
    rcases hw with rfl | rfl
    · have : a = c := by omega
      have : b = d := by omega
      simp [*]
    · have : a = c := by omega
      have : b = d := by omega
      simp [*]
  · intro h; rw [h]
theorem pmxH_mem (p : Nat → Bool) (v : Nat → Nat × Nat) (a : Nat × Nat) : ∀ j, pmxH p v a j = a ∨ ∃ x, x < j ∧ p x = true ∧ pmxH p v a j = v x := by
  intro j
  induction j with
  | zero => exact Or.inl rfl
  | succ j ih =>
    show (if p j = true then pmx (pmxH p v a j) (v j) else pmxH p v a j) = a ∨ ∃ x, x < j + 1 ∧ p x = true ∧ (if p j = true then pmx (pmxH p v a j) (v j) else pmxH p v a j) = v x
    by_cases c : p j = true
    · rw [if_pos c]
      unfold pmx
      split
      · exact Or.inr ⟨j, by omega, c, rfl⟩
      · rcases ih with h | ⟨x, h1, h2, h3⟩
        · exact Or.inl h
        · exact Or.inr ⟨x, by omega, h2, h3⟩
    · rw [if_neg c]
      rcases ih with h | ⟨x, h1, h2, h3⟩
      · exact Or.inl h
      · exact Or.inr ⟨x, by omega, h2, h3⟩
theorem pmx_ge (x y : Nat × Nat) : x.1 ≤ (pmx x y).1 ∧ y.1 ≤ (pmx x y).1 := by unfold pmx; split <;> omega
theorem pmxH_ge (p : Nat → Bool) (v : Nat → Nat × Nat) (a : Nat × Nat) : ∀ j, a.1 ≤ (pmxH p v a j).1 ∧ ∀ x, x < j → p x = true → (v x).1 ≤ (pmxH p v a j).1 := by
  intro j
  induction j with
  | zero => exact ⟨Nat.le_refl _, fun x hx => by omega⟩
  | succ j ih =>
    show a.1 ≤ (if p j = true then pmx (pmxH p v a j) (v j) else pmxH p v a j).1 ∧ ∀ x, x < j + 1 → p x = true → (v x).1 ≤ (if p j = true then pmx (pmxH p v a j) (v j) else pmxH p v a j).1
    have g := pmx_ge (pmxH p v a j) (v j)
    by_cases c : p j = true
    · rw [if_pos c]
      refine ⟨Nat.le_trans ih.1 g.1, fun x hx hp => ?_⟩
      by_cases e : x = j
      · rw [e]; exact g.2
      · exact Nat.le_trans (ih.2 x (by omega) hp) g.1
    · rw [if_neg c]
      refine ⟨ih.1, fun x hx hp => ?_⟩
      by_cases e : x = j
      · rw [e] at hp; exact absurd hp c
      · exact ih.2 x (by omega) hp
theorem mx_pmx {w : Int} (hw : w = 1000 ∨ w = 100000) (p : Nat → Bool) (v : Nat → Nat × Nat) (a : Nat × Nat) (ha : a.2 < 1000) : ∀ j, (∀ x, x < j → p x = true → (v x).2 < 1000) → mxH p (fun x => pdv w (v x)) (pdv w a) j = pdv w (pmxH p v a j) ∧ (pmxH p v a j).2 < 1000 := by
  intro j
  induction j with
  | zero => intro _; exact ⟨rfl, ha⟩
  | succ j ih =>
    intro hv
    have ih := ih (fun x hx => hv x (by omega))
    show (if p j = true then max (mxH p (fun x => pdv w (v x)) (pdv w a) j) (pdv w (v j)) else mxH p (fun x => pdv w (v x)) (pdv w a) j) = pdv w (if p j = true then pmx (pmxH p v a j) (v j) else pmxH p v a j) ∧ (if p j = true then pmx (pmxH p v a j) (v j) else pmxH p v a j).2 < 1000
    by_cases c : p j = true
    · rw [if_pos c, if_pos c, ih.1]
      have h2 := hv j (by omega) c
      refine ⟨pdv_max hw ih.2 h2, ?_⟩
      unfold pmx
      split
      · exact h2
      · exact ih.2
    · rw [if_neg c, if_neg c]; exact ih
theorem mxH_congr {p q : Nat → Bool} {v v' : Nat → Int} {a a' : Int} (ha : a = a') : ∀ j, (∀ x, x < j → p x = q x ∧ (p x = true → v x = v' x)) → mxH p v a j = mxH q v' a' j := by
  intro j
  induction j with
  | zero => intro _; exact ha
  | succ j ih =>
    intro h
    show (if p j = true then max (mxH p v a j) (v j) else mxH p v a j) = (if q j = true then max (mxH q v' a' j) (v' j) else mxH q v' a' j)
    rw [ih (fun x hx => h x (by omega)), ← (h j (by omega)).1]
    by_cases c : p j = true
    · rw [if_pos c, if_pos c, (h j (by omega)).2 c]
    · rw [if_neg c, if_neg c]
/-- hands that can't have a note don't count -/
theorem mxH_more {p : Nat → Bool} {v : Nat → Int} {a : Int} {H K : Nat} (hk : H ≤ K) (hp : ∀ x, H ≤ x → x < K → p x = false) : mxH p v a K = mxH p v a H := by
  induction K with
  | zero => rw [show H = 0 by omega]
  | succ K ih =>
    by_cases e : H = K + 1
    · rw [e]
    · show (if p K = true then _ else mxH p v a K) = _
      rw [if_neg (by rw [hp K (by omega) (by omega)]; exact Bool.false_ne_true)]
      exact ih (by omega) (fun x h1 h2 => hp x h1 (by omega))
theorem dpp_b (can : Nat → Nat → Bool) (far : Nat → Nat → Int) (H : Nat) : ∀ (cs : List Nat) (u : Nat), (∀ n ∈ cs, ∀ x, x < H → 0 ≤ far n x ∧ far n x ≤ 63) → (dpp can far H cs u).1 ≤ cs.length ∧ (dpp can far H cs u).2 ≤ 63 * (dpp can far H cs u).1 := by
  intro cs
  induction cs with
  | nil => intro u _; exact ⟨Nat.le_refl _, Nat.le_refl _⟩
  | cons n cs ih =>
    intro u hf
    have hf' : ∀ n' ∈ cs, ∀ x, x < H → 0 ≤ far n' x ∧ far n' x ≤ 63 := fun n' h => hf n' (List.mem_cons_of_mem _ h)
    rcases pmxH_mem (fun x => !u.testBit x && can n x) (fun x => ((dpp can far H cs (u ||| 2 ^ x)).1 + 1, (dpp can far H cs (u ||| 2 ^ x)).2 + (far n x).toNat)) (dpp can far H cs u) H with e | ⟨x, hx, -, e⟩
    · show (pmxH _ _ _ _).1 ≤ _ ∧ (pmxH _ _ _ _).2 ≤ 63 * (pmxH _ _ _ _).1
      rw [e]
      have := ih u hf'
      simp only [List.length_cons]
      omega
    · show (pmxH _ _ _ _).1 ≤ _ ∧ (pmxH _ _ _ _).2 ≤ 63 * (pmxH _ _ _ _).1
      rw [e]
      have := ih (u ||| 2 ^ x) hf'
      have hq := hf n List.mem_cons_self x hx
      simp only [List.length_cons]
      omega
theorem dpv_dpp {w : Int} (hw : w = 1000 ∨ w = 100000) (can : Nat → Nat → Bool) (far : Nat → Nat → Int) (H : Nat) : ∀ (cs : List Nat) (u : Nat), cs.length ≤ 14 → (∀ n ∈ cs, ∀ x, x < H → 0 ≤ far n x ∧ far n x ≤ 63) → dpv w can far H cs u = pdv w (dpp can far H cs u) := by
  intro cs
  induction cs with
  | nil => intro u _ _; unfold pdv; show (0 : Int) = w * ((0 : Nat) : Int) - ((0 : Nat) : Int); omega
  | cons n cs ih =>
    intro u hl hf
    simp only [List.length_cons] at hl
    have hf' : ∀ n' ∈ cs, ∀ x, x < H → 0 ≤ far n' x ∧ far n' x ≤ 63 := fun n' h => hf n' (List.mem_cons_of_mem _ h)
    have b0 := dpp_b can far H cs u hf'
    have m := mx_pmx hw (fun x => !u.testBit x && can n x) (fun x => ((dpp can far H cs (u ||| 2 ^ x)).1 + 1, (dpp can far H cs (u ||| 2 ^ x)).2 + (far n x).toNat)) (dpp can far H cs u) (by omega) H (fun x hx _ => by
      have b1 := dpp_b can far H cs (u ||| 2 ^ x) hf'
      have hq := hf n List.mem_cons_self x hx
      show _ + _ < 1000
      omega)
    show mxH _ _ _ _ = pdv w (pmxH _ _ _ _)
    rw [← m.1]
    refine mxH_congr (ih u (by omega) hf') H (fun x hx => ⟨rfl, fun _ => ?_⟩)
    rw [ih (u ||| 2 ^ x) (by omega) hf']
    have hq := hf n List.mem_cons_self x hx
    unfold pdv
    simp only
    rcases hw with rfl | rfl <;> omega
theorem dp_lt (can : Nat → Nat → Bool) (far : Nat → Nat → Int) (H : Nat) (n : Nat) (cs : List Nat) (u : Nat) (hl : cs.length ≤ 14) (hf : ∀ n' ∈ n :: cs, ∀ x, x < H → 0 ≤ far n' x ∧ far n' x ≤ 63) (x : Nat) (hx : x < H) : ((dpp can far H cs (u ||| 2 ^ x)).2 + (far n x).toNat) < 1000 := by
  have b1 := dpp_b can far H cs (u ||| 2 ^ x) (fun n' h => hf n' (List.mem_cons_of_mem _ h))
  have hq := hf n List.mem_cons_self x hx
  omega
/-- which hand the way gives a note -/
def selB (can : Nat → Nat → Bool) (far : Nat → Nat → Int) (H n : Nat) (cs : List Nat) (u x : Nat) : Bool := (!u.testBit x && can n x) && decide (((dpp can far H cs (u ||| 2 ^ x)).1 + 1, (dpp can far H cs (u ||| 2 ^ x)).2 + (far n x).toNat) = dpp can far H (n :: cs) u)
def selH (can : Nat → Nat → Bool) (far : Nat → Nat → Int) (H n : Nat) (cs : List Nat) (u : Nat) : Int := ffst (selB can far H n cs u) (fun x => (x : Int)) (-1) H 0
/-- as the programs ask it -/
theorem sel_eq {w : Int} (hw : w = 1000 ∨ w = 100000) (can : Nat → Nat → Bool) (far : Nat → Nat → Int) (H n : Nat) (cs : List Nat) (u : Nat) (hl : cs.length ≤ 13) (hf : ∀ n' ∈ n :: cs, ∀ x, x < H → 0 ≤ far n' x ∧ far n' x ≤ 63) (x : Nat) (hx : x < H) : selB can far H n cs u x = ((!u.testBit x && can n x) && decide (w - far n x + dpv w can far H cs (u ||| 2 ^ x) = dpv w can far H (n :: cs) u)) := by
  unfold selB
  congr 1
  have hf' : ∀ n' ∈ cs, ∀ x, x < H → 0 ≤ far n' x ∧ far n' x ≤ 63 := fun n' h => hf n' (List.mem_cons_of_mem _ h)
  rw [dpv_dpp hw can far H cs _ (by omega) hf', dpv_dpp hw can far H (n :: cs) u (by simp only [List.length_cons]; omega) hf]
  have hq := hf n List.mem_cons_self x hx
  have b1 := dp_lt can far H n cs u (by omega) hf x hx
  have b2 := dpp_b can far H (n :: cs) u hf
  simp only [List.length_cons] at b2
  have e : w - far n x + pdv w (dpp can far H cs (u ||| 2 ^ x)) = pdv w ((dpp can far H cs (u ||| 2 ^ x)).1 + 1, (dpp can far H cs (u ||| 2 ^ x)).2 + (far n x).toNat) := by
    unfold pdv
    simp only
    rcases hw with rfl | rfl <;> omega
  rw [e]
  have := pdv_inj hw (x := ((dpp can far H cs (u ||| 2 ^ x)).1 + 1, (dpp can far H cs (u ||| 2 ^ x)).2 + (far n x).toNat)) (y := dpp can far H (n :: cs) u) b1 (by omega)
  exact (decide_eq_decide.mpr this).symm
theorem ffst_val {P : Nat → Bool} {N : Nat} : ffst P (fun x => (x : Int)) (-1) N 0 = -1 ∨ ∃ x : Nat, x < N ∧ P x = true ∧ ffst P (fun x => (x : Int)) (-1) N 0 = (x : Int) := by
  by_cases h : ∀ j, j < N → P j = false
  · exact Or.inl (ffst_no h)
  · have : ∃ i, i < N ∧ P i = true ∧ ∀ j, j < i → P j = false := by
      have key : ∀ m, m ≤ N → (∀ j, j < m → P j = false) ∨ ∃ i, i < N ∧ P i = true ∧ ∀ j, j < i → P j = false := by
        intro m
        induction m with
        | zero => intro _; exact Or.inl (fun j hj => by omega)
        | succ m ih =>
          intro hm
          rcases ih (by omega) with q | q
          · by_cases c : P m = true
            · exact Or.inr ⟨m, by omega, c, q⟩
            · refine Or.inl (fun j hj => ?_)
              by_cases e : j = m
              · rw [e]; simpa using c
              · exact q j (by omega)
          · exact Or.inr q
      rcases key N (Nat.le_refl _) with q | q
      · exact absurd q h
      · exact q
    obtain ⟨i, h1, h2, h3⟩ := this
    exact Or.inr ⟨i, h1, h2, ffst_at h1 h2 h3⟩
