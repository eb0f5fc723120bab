/-! WHAT THE ABSTRACT HEAP STANDS FOR. -/
def in32 (x : Int) : Prop := -2147483648 ≤ x ∧ x < 2147483648
def in64 (x : Int) : Prop := -9223372036854775808 ≤ x ∧ x < 9223372036854775808
theorem in32_of (w : Int32) : in32 w.toInt := ⟨w.le_toInt, w.toInt_lt⟩
theorem in64_of (w : Int64) : in64 w.toInt := ⟨w.le_toInt, w.toInt_lt⟩
theorem of32 {x : Int} (h : in32 x) : (Int32.ofInt x).toInt = x := Int32.toInt_ofInt_of_le h.1 h.2
theorem of64 {x : Int} (h : in64 x) : (Int64.ofInt x).toInt = x := Int64.toInt_ofInt_of_le h.1 h.2
theorem to32 (w : Int32) : Int32.ofInt w.toInt = w := Int32.ofInt_toInt w
theorem to64 (w : Int64) : Int64.ofInt w.toInt = w := Int64.ofInt_toInt w
theorem w32_bmod (x : Int) : w32 x = x.bmod (2 ^ 32) := by unfold w32; rw [Int.bmod_def]; split <;> omega
theorem w64_bmod (x : Int) : w64 x = x.bmod (2 ^ 64) := by unfold w64; rw [Int.bmod_def]; split <;> omega
/-- the world that all activations share: the first cell, the classes, the array classes, the texts, the script -/
abbrev WG : Type := Nat × va_G × (Nat → ClassId) × (Nat → Nat) × (Nat → Nat) × Nat × Nat × (Nat → Int32)
def gB (G : WG) : Nat := G.1
def gD (G : WG) : va_G := G.2.1
def gC (G : WG) : Nat → ClassId := G.2.2.1
def gK (G : WG) : Nat → Nat := G.2.2.2.1
def gV (G : WG) : Nat → Nat := G.2.2.2.2.1
def gS (G : WG) : Nat := G.2.2.2.2.2.1
def gL (G : WG) : Nat := G.2.2.2.2.2.2.1
def gX (G : WG) : Nat → Int32 := G.2.2.2.2.2.2.2
def gA (G : WG) : Nat → Prop := fun q => gB G ≤ q
def gT (G : WG) : List (ClassId × FieldType) := [(gC G 0, .int), (gC G 1, .boolean), (gC G 2, .long), (gC G 3, .object "FourHands$State")]
def ixF (t k : Nat) : List (Nat × Nat) → Nat → Nat
  | [], n => n
  | q :: l, n => if q.1 == t && q.2 == k then n else ixF t k l (n + 1)
def ixO (t k : Nat) : Nat := ixF t k obT 0
def tgC (f : Nat) : Nat := (fOffT.filter (fun x => decide (x ≤ f))).length - 1
theorem ob_len : obT.length = 235 := by decide +kernel
theorem ix_all : (List.range 235).all (fun i => ixO (obT.getD i (0, 0)).1 (obT.getD i (0, 0)).2 == i) = true := by decide +kernel
theorem ix_ok {i t k : Nat} (h : obT[i]? = some (t, k)) : ixO t k = i := by
  have hi : i < 235 := by rw [← ob_len]; exact (List.getElem?_eq_some_iff.mp h).1
  have := List.all_eq_true.mp ix_all i (List.mem_range.mpr hi)
  have e : obT.getD i (0, 0) = (t, k) := by rw [List.getD_eq_getElem?_getD, h]; rfl
  rw [e] at this
  simpa using this
/-- what a cell's fields name is there -/
def refsOk (q : Nat × Nat) : Bool := if q.1 < 13 then (List.range (nF q.1)).all (fun j => match fK q.1 j with
    | (2, t, _) => obT[ixO t q.2]? == some (t, q.2)
    | (3, t, k0) => obT[ixO t k0]? == some (t, k0)
    | (0, _, _) => true
    | (1, _, _) => true
    | _ => false) else true
theorem refs_all : obT.all refsOk = true := by decide +kernel
theorem kept_all : (List.range 12).all (fun i => obT[ixO 7 (i + 3)]? == some (7, i + 3)) = true := by decide +kernel
theorem tgC_all : (List.range 13).all (fun c => (List.range (nF c)).all (fun j => tgC (tg c j) == c && decide (100 ≤ tg c j))) = true := by decide +kernel
/-- the tags of the arrays among the cells -/
def arrOk (q : Nat × Nat) : Bool := decide (q.1 < 13) || q.1 == 25 || q.1 == 26 || (decide (100 ≤ q.1) && (fK (tgC q.1) (q.1 - fOffT.getD (tgC q.1) 0)).1 == 2 && decide (fOffT.getD (tgC q.1) 0 ≤ q.1))
theorem arr_all : obT.all arrOk = true := by decide +kernel
def fval (G : WG) (h : Hp) (c j k : Nat) : Value := match fK c j with
  | (0, _, _) => .int (Int32.ofInt (h (tg c j) k 0))
  | (1, _, _) => .int (Int32.ofInt (h (tg c j) k 0))
  | (2, t, _) => .ref (gB G + ixO t k)
  | (3, t, k0) => .ref (gB G + ixO t k0)
  | _ => .null
def cellE (G : WG) (h : Hp) (q : Nat × Nat) : va_E :=
  if q.1 < 13 then .inr (q.1, (List.range (nF q.1)).map (fun j => fval G h q.1 j q.2))
  else if q.1 = 25 then .inl (gC G 2, 1, .inr (.inl (fun i => Int64.ofInt (h 25 q.2 i))))
  else if q.1 = 26 then .inl (gC G 3, 12, .inr (.inr (.inr (.inr (fun i => some (gB G + ixO 7 (i + 3)))))))
  else if 0 < zLen q.1 then .inl (gC G 1, (zLen q.1).toNat, .inl (fun i => Int32.ofInt (h q.1 q.2 i)))
  else .inl (gC G 0, (aLen q.1).toNat, .inl (fun i => Int32.ofInt (h q.1 q.2 i)))
def wsOf (G : WG) (h : Hp) : va_W := obT.mapIdx (fun i q => (gB G + i, cellE G h q))
theorem wsOf_get (G : WG) (h : Hp) {i : Nat} {q : Nat × Nat} (hi : obT[i]? = some q) : (wsOf G h)[i]? = some (gB G + i, cellE G h q) := by
  unfold wsOf
  rw [List.getElem?_mapIdx, hi]
  rfl
theorem wsOf_D (G : WG) (h : Hp) : va_D (gA G) (wsOf G h) := by
  have key : ∀ (i : Nat) (x : Nat × va_E), (wsOf G h)[i]? = some x → x.1 = gB G + i := by
    intro i x hx
    unfold wsOf at hx
    rw [List.getElem?_mapIdx] at hx
    cases ho : obT[i]? with
    | none => rw [ho] at hx; cases hx
    | some q => rw [ho] at hx; cases hx; rfl
  refine ⟨fun i j x y hx hy e => ?_, fun i x hx => ?_⟩
  · have := key i x hx; have := key j y hy; omega
  · show gB G ≤ x.1
    rw [key i x hx]; omega
theorem wsOf_set (G : WG) {h h' : Hp} {i : Nat} {q : Nat × Nat} (hi : obT[i]? = some q) (ho : ∀ (j : Nat) (q' : Nat × Nat), obT[j]? = some q' → j ≠ i → cellE G h' q' = cellE G h q') : (wsOf G h).set i (gB G + i, cellE G h' q) = wsOf G h' := by
  apply List.ext_getElem?
  intro j
  rw [List.getElem?_set]
  by_cases hj : i = j
  · subst hj
    rw [if_pos rfl, wsOf_get G h' hi]
    have : i < (wsOf G h).length := (List.getElem?_eq_some_iff.mp (wsOf_get G h hi)).1
    rw [if_pos this]
  · rw [if_neg hj]
    cases hq : obT[j]? with
    | none => unfold wsOf; rw [List.getElem?_mapIdx, List.getElem?_mapIdx, hq]; rfl
    | some q' => rw [wsOf_get G h hq, wsOf_get G h' hq, ho j q' hq (fun e => hj e.symm)]
theorem tgC_ok {c j : Nat} (hc : c < 13) (hj : j < nF c) : tgC (tg c j) = c ∧ 100 ≤ tg c j := by
  have h1 := List.all_eq_true.mp tgC_all c (List.mem_range.mpr hc)
  have h2 := List.all_eq_true.mp h1 j (List.mem_range.mpr hj)
  simpa using h2
theorem arr_ok {i t k : Nat} (h : obT[i]? = some (t, k)) (h13 : ¬ t < 13) : t = 25 ∨ t = 26 ∨ (100 ≤ t ∧ (fK (tgC t) (t - fOffT.getD (tgC t) 0)).1 = 2 ∧ fOffT.getD (tgC t) 0 ≤ t) := by
  have h1 := List.all_eq_true.mp arr_all (t, k) (List.mem_of_getElem? h)
  simp only [arrOk, Bool.or_eq_true, Bool.and_eq_true, decide_eq_true_eq, beq_iff_eq] at h1
  rcases h1 with ((h1 | h1) | h1) | h1
  · exact absurd h1 h13
  · exact Or.inl h1
  · exact Or.inr (Or.inl h1)
  · exact Or.inr (Or.inr ⟨h1.1.1, h1.1.2, h1.2⟩)
/-- an array's tag is no whole number's -/
theorem arr_sc {i t k c j : Nat} (h : obT[i]? = some (t, k)) (h13 : ¬ t < 13) (hc : c < 13) (hj : j < nF c) (hk : (fK c j).1 ≠ 2) : t ≠ tg c j := by
  intro e
  obtain ⟨h1, h2⟩ := tgC_ok hc hj
  rcases arr_ok h h13 with q | q | ⟨-, q, q2⟩
  · omega
  · omega
  · rw [e, h1] at q
    apply hk
    have : tg c j - fOffT.getD c 0 = j := by unfold tg; omega
    rw [this] at q
    exact q
theorem tg_inj {c j c' j' : Nat} (hc : c < 13) (hj : j < nF c) (hc' : c' < 13) (hj' : j' < nF c') (e : tg c j = tg c' j') : c = c' ∧ j = j' := by
  have h1 := (tgC_ok hc hj).1
  have h2 := (tgC_ok hc' hj').1
  rw [e, h2] at h1
  subst h1
  unfold tg at e
  exact ⟨rfl, by omega⟩
theorem fval_congr {G : WG} {h h' : Hp} {c j k : Nat} (hh : (fK c j).1 ≠ 2 → (fK c j).1 ≠ 3 → h' (tg c j) k 0 = h (tg c j) k 0) : fval G h' c j k = fval G h c j k := by
  unfold fval
  split
  · rename_i e; rw [hh (by simp [e]) (by simp [e])]
  · rename_i e; rw [hh (by simp [e]) (by simp [e])]
  · rfl
  · rfl
  · rfl
theorem cellE_congr {G : WG} {h h' : Hp} {q : Nat × Nat} (h1 : q.1 < 13 → ∀ j, j < nF q.1 → (fK q.1 j).1 ≠ 2 → h' (tg q.1 j) q.2 0 = h (tg q.1 j) q.2 0) (h2 : ¬ q.1 < 13 → q.1 ≠ 26 → ∀ i, h' q.1 q.2 i = h q.1 q.2 i) : cellE G h' q = cellE G h q := by
  unfold cellE
  split <;> rename_i c1
  · have : (List.range (nF q.1)).map (fun j => fval G h' q.1 j q.2) = (List.range (nF q.1)).map (fun j => fval G h q.1 j q.2) := List.map_congr_left (fun j hj => fval_congr (fun k2 _ => h1 c1 j (List.mem_range.mp hj) k2))
    rw [this]
  · split <;> rename_i c2
    · have : (fun i => Int64.ofInt (h' 25 q.2 i)) = fun i => Int64.ofInt (h 25 q.2 i) := by
        funext i; have := h2 c1 (by omega) i; rw [c2] at this; rw [this]
      rw [this]
    · split <;> rename_i c3
      · rfl
      · have : (fun i => Int32.ofInt (h' q.1 q.2 i)) = fun i => Int32.ofInt (h q.1 q.2 i) := by
          funext i; rw [h2 c1 c3 i]
        rw [this]
theorem nF_0 {c j : Nat} (h : j < nF c) : c < 13 := by
  by_cases hc : c < 13
  · exact hc
  · exfalso
    have : nF c = 0 := by
      unfold nF
      rw [List.getD_eq_getElem?_getD, List.getElem?_eq_none (by show 13 ≤ c; omega)]
      rfl
    omega
/-- a whole number is written -/
theorem ws_put (G : WG) {h : Hp} {i c j k : Nat} {x : Int} (hi : obT[i]? = some (c, k)) (hj : j < nF c) (hk : (fK c j).1 ≠ 2) : (wsOf G h).set i (gB G + i, cellE G (hset h (tg c j) k 0 x) (c, k)) = wsOf G (hset h (tg c j) k 0 x) := by
  have hc := nF_0 hj
  refine wsOf_set G hi (fun i' q' hq' hne => cellE_congr (fun h13 j' hj' hk' => ?_) (fun h13 h26 i0 => ?_))
  · unfold hset
    rw [if_neg]
    rintro ⟨e1, e2, -⟩
    obtain ⟨e3, -⟩ := tg_inj h13 hj' hc hj e1
    obtain ⟨a, b⟩ := q'
    simp only at e2 e3
    subst e2; subst e3
    exact hne ((ix_ok hq').symm.trans (ix_ok hi))
  · unfold hset
    rw [if_neg]
    rintro ⟨e1, -, -⟩
    exact arr_sc hq' h13 hc hj hk e1
/-- an array is written: all of it that changes is its own row -/
theorem ws_row (G : WG) {h h' : Hp} {i t k : Nat} (hi : obT[i]? = some (t, k)) (ht : ¬ t < 13) (hh : ∀ a b n, (a ≠ t ∨ b ≠ k) → h' a b n = h a b n) (h26 : t ≠ 26) : (wsOf G h).set i (gB G + i, cellE G h' (t, k)) = wsOf G h' := by
  refine wsOf_set G hi (fun i' q' hq' hne => cellE_congr (fun h13 j' hj' hk' => hh _ _ _ (Or.inl ?_)) (fun h13 h26' i0 => hh _ _ _ ?_))
  · intro e
    exact arr_sc hi ht h13 hj' hk' e.symm
  · by_cases e1 : q'.1 = t
    · refine Or.inr (fun e2 => ?_)
      obtain ⟨a, b⟩ := q'
      simp only at e1 e2
      subst e1; subst e2
      exact hne ((ix_ok hq').symm.trans (ix_ok hi))
    · exact Or.inl e1

/-! values, locals, the operand stack -/
def nSt : Nat := sTx.length
def rvl (G : WG) (v : AV) (V : Value) : Prop := match v with
  | some (.inl x) => ∃ w : Int32, V = .int w ∧ w.toInt = x
  | some (.inr (.inl x)) => ∃ w : Int64, V = .long w ∧ w.toInt = x
  | some (.inr (.inr (t, k))) => if t = 20 then k < nSt ∧ V = .ref (gK G k) else if t = 21 then k < nSt ∧ V = .ref (gV G k) else if t = 22 then V = .ref (gS G) else ∃ i : Nat, obT[i]? = some (t, k) ∧ V = .ref (gB G + i)
  | none => V = .null ∨ ∃ q, V = .ref q
theorem rvl_I {G : WG} {x : Int} {V : Value} (h : rvl G (some (.inl x)) V) : ∃ w : Int32, V = .int w ∧ w.toInt = x := h
theorem rvl_J {G : WG} {x : Int} {V : Value} (h : rvl G (some (.inr (.inl x))) V) : ∃ w : Int64, V = .long w ∧ w.toInt = x := h
theorem rvl_mkI {G : WG} (w : Int32) {x : Int} (h : w.toInt = x) : rvl G (aI x) (.int w) := ⟨w, rfl, h⟩
theorem rvl_mkJ {G : WG} (w : Int64) {x : Int} (h : w.toInt = x) : rvl G (aJ x) (.long w) := ⟨w, rfl, h⟩
theorem rvl_R {G : WG} {t k : Nat} {V : Value} (h : rvl G (some (.inr (.inr (t, k)))) V) : ∃ q, V = .ref q := by
  unfold rvl at h
  simp only at h
  split at h
  · exact ⟨_, h.2⟩
  · split at h
    · exact ⟨_, h.2⟩
    · split at h
      · exact ⟨_, h⟩
      · obtain ⟨i, -, e⟩ := h; exact ⟨_, e⟩
theorem rvl_A {G : WG} {t k : Nat} {V : Value} (h : rvl G (some (.inr (.inr (t, k)))) V) (h0 : t ≠ 20) (h1 : t ≠ 21) (h2 : t ≠ 22) : ∃ i : Nat, obT[i]? = some (t, k) ∧ V = .ref (gB G + i) := by
  unfold rvl at h
  simpa only [if_neg h0, if_neg h1, if_neg h2] using h
theorem rvl_mkA {G : WG} {t k i : Nat} (h : obT[i]? = some (t, k)) (h0 : t ≠ 20) (h1 : t ≠ 21) (h2 : t ≠ 22) : rvl G (aA t k) (.ref (gB G + i)) := by
  unfold rvl aA
  simp only [if_neg h0, if_neg h1, if_neg h2]
  exact ⟨i, h, rfl⟩
theorem rvl_cat {G : WG} {v : AV} {V : Value} (h : rvl G v V) : V.category = if isJ v then 2 else 1 := by
  match v, h with
  | none, h => rcases h with h | ⟨q, h⟩ <;> subst h <;> rfl
  | some (.inl x), h => obtain ⟨w, e, -⟩ := h; subst e; rfl
  | some (.inr (.inl x)), h => obtain ⟨w, e, -⟩ := h; subst e; rfl
  | some (.inr (.inr (t, k))), h => obtain ⟨q, e⟩ := rvl_R h; subst e; rfl
def SR (G : WG) : List AV → List Value → Prop
  | [], [] => True
  | v :: l, V :: L => rvl G v V ∧ SR G l L
  | _, _ => False
theorem SR_cons {G : WG} {v : AV} {l : List AV} {Vs : List Value} (h : SR G (v :: l) Vs) : ∃ V L, Vs = V :: L ∧ rvl G v V ∧ SR G l L := by
  cases Vs with
  | nil => exact absurd h (by simp [SR])
  | cons V L => exact ⟨V, L, rfl, h.1, h.2⟩
theorem SR_nil {G : WG} {Vs : List Value} (h : SR G [] Vs) : Vs = [] := by
  cases Vs with
  | nil => rfl
  | cons V L => exact absurd h (by simp [SR])
theorem SR_wd {G : WG} : ∀ {l : List AV} {L : List Value}, SR G l L → (L.map fun v => v.category).sum = wd l := by
  intro l
  induction l with
  | nil => intro L h; rw [SR_nil h]; rfl
  | cons v l ih =>
    intro L h
    obtain ⟨V, L', rfl, h1, h2⟩ := SR_cons h
    simp only [List.map_cons, List.sum_cons, wd, ih h2, rvl_cat h1]
theorem SR_len {G : WG} : ∀ {l : List AV} {L : List Value}, SR G l L → L.length = l.length := by
  intro l
  induction l with
  | nil => intro L h; rw [SR_nil h]; rfl
  | cons v l ih =>
    intro L h
    obtain ⟨V, L', rfl, -, h2⟩ := SR_cons h
    simp [ih h2]
theorem SR_app {G : WG} : ∀ {l1 l2 : List AV} {L1 L2 : List Value}, SR G l1 L1 → SR G l2 L2 → SR G (l1 ++ l2) (L1 ++ L2) := by
  intro l1
  induction l1 with
  | nil => intro l2 L1 L2 h1 h2; rw [SR_nil h1]; exact h2
  | cons v l ih =>
    intro l2 L1 L2 h1 h2
    obtain ⟨V, L', rfl, a, b⟩ := SR_cons h1
    exact ⟨a, ih b h2⟩
/-- the locals -/
def LR (G : WG) (ls : Array Slot) (σ : List AV) : Prop := ∃ lv, lv_has ls σ.length lv ∧ ∀ (i : Nat) (v : Int ⊕ Int ⊕ (Nat × Nat)), σ[i]? = some (some v) → ∃ V, (i, V) ∈ lv ∧ rvl G (some v) V
theorem lget_get : ∀ {σ : List AV} {b : Nat} {v : Int ⊕ Int ⊕ (Nat × Nat)}, lget σ b = some v → σ[b]? = some (some v) := by
  intro σ
  induction σ with
  | nil => intro b v h; exact absurd h (by simp [lget])
  | cons x σ ih =>
    intro b v h
    cases b with
    | zero => exact congrArg some h
    | succ b => exact ih h
theorem LR_get {G : WG} {ls : Array Slot} {σ : List AV} {b : Nat} {v : Int ⊕ Int ⊕ (Nat × Nat)} (h : LR G ls σ) (hb : lget σ b = some v) : ∃ V, ls[b]? = some (.val V) ∧ rvl G (some v) V := by
  obtain ⟨lv, h1, h2⟩ := h
  obtain ⟨V, hV, hr⟩ := h2 b v (lget_get hb)
  exact ⟨V, h1.2.2 _ hV, hr⟩
theorem LR_size {G : WG} {ls : Array Slot} {σ : List AV} (h : LR G ls σ) : ls.size = σ.length := by
  obtain ⟨lv, h1, -⟩ := h
  exact h1.1
theorem lset_spec : ∀ {σ : List AV} {b : Nat} {v : AV} {r : List AV}, lset σ b v = some r → b < σ.length ∧ r.length = σ.length ∧ r[b]? = some v ∧ (∀ j : Nat, j ≠ b → r[j]? = σ[j]?) ∧ ∀ (j : Nat) (u : AV), j + 1 = b → σ[j]? = some u → isJ u = false := by
  intro σ
  induction σ with
  | nil => intro b v r h; exact absurd h (by simp [lset])
  | cons x σ ih =>
    intro b v r h
    cases b with
    | zero =>
      simp only [lset, Option.some.injEq] at h
      subst h
      refine ⟨by simp, by simp, by simp, fun j hj => ?_, fun j u hj => by omega⟩
      cases j with
      | zero => exact absurd rfl hj
      | succ j => rfl
    | succ b =>
      simp only [lset] at h
      split at h
      · cases h
      · rename_i hc
        cases hr : lset σ b v with
        | none => rw [hr] at h; cases h
        | some r' =>
          rw [hr] at h
          simp only [Option.map_some, Option.some.injEq] at h
          subst h
          obtain ⟨a1, a2, a3, a4, a5⟩ := ih hr
          refine ⟨by simp; omega, by simp; omega, by simpa using a3, fun j hj => ?_, fun j u hj hu => ?_⟩
          · cases j with
            | zero => rfl
            | succ j => simpa using a4 j (by omega)
          · cases j with
            | zero =>
              have hb0 : b = 0 := by omega
              subst hb0
              simp only [List.getElem?_cons_zero, Option.some.injEq] at hu
              subst hu
              simpa using hc
            | succ j => exact a5 j u (by omega) (by simpa using hu)
theorem lset2_spec : ∀ {σ : List AV} {b : Nat} {v : AV} {r : List AV}, lset2 σ b v = some r → b + 1 < σ.length ∧ r.length = σ.length ∧ r[b]? = some v ∧ r[b + 1]? = some none ∧ (∀ j : Nat, j ≠ b → j ≠ b + 1 → r[j]? = σ[j]?) ∧ ∀ (j : Nat) (u : AV), j + 1 = b → σ[j]? = some u → isJ u = false := by
  intro σ
  induction σ with
  | nil => intro b v r h; exact absurd h (by cases b <;> simp [lset2])
  | cons x σ ih =>
    intro b v r h
    cases b with
    | zero =>
      cases σ with
      | nil => exact absurd h (by simp [lset2])
      | cons y σ =>
        simp only [lset2, Option.some.injEq] at h
        subst h
        refine ⟨by simp, by simp, by simp, by simp, fun j h0 h1 => ?_, fun j u hj => by omega⟩
        cases j with
        | zero => exact absurd rfl h0
        | succ j => cases j with
          | zero => exact absurd rfl h1
          | succ j => rfl
    | succ b =>
      simp only [lset2] at h
      split at h
      · cases h
      · rename_i hc
        cases hr : lset2 σ b v with
        | none => rw [hr] at h; cases h
        | some r' =>
          rw [hr] at h
          simp only [Option.map_some, Option.some.injEq] at h
          subst h
          obtain ⟨a1, a2, a3, a4, a5, a6⟩ := ih hr
          refine ⟨by simp; omega, by simp; omega, by simpa using a3, by simpa using a4, fun j h0 h1 => ?_, fun j u hj hu => ?_⟩
          · cases j with
            | zero => rfl
            | succ j => simpa using a5 j (by omega) (by omega)
          · cases j with
            | zero =>
              have hb0 : b = 0 := by omega
              subst hb0
              simp only [List.getElem?_cons_zero, Option.some.injEq] at hu
              subst hu
              simpa using hc
            | succ j => exact a6 j u (by omega) (by simpa using hu)
/-- a store keeps the rest -/
theorem LR_set {G : WG} {ls' : Array Slot} {σ σ' : List AV} {b : Nat} {v : AV} {V : Value} {lv : List (Nat × Value)} (hs : lset σ b v = some σ') (h2 : ∀ (i : Nat) (v : Int ⊕ Int ⊕ (Nat × Nat)), σ[i]? = some (some v) → ∃ V, (i, V) ∈ lv ∧ rvl G (some v) V) (hv : ∀ u, v = some u → rvl G (some u) V)
    (h' : lv_has ls' σ.length ((b, V) :: lv.filter (fun q => !(q.1 == b) && !(q.1 + 1 == b && q.2.category == 2)))) : LR G ls' σ' := by
  obtain ⟨a1, a2, a3, a4, a5⟩ := lset_spec hs
  refine ⟨_, by rw [a2]; exact h', fun i u hu => ?_⟩
  by_cases hi : i = b
  · subst hi
    rw [a3] at hu
    cases hu
    exact ⟨V, List.mem_cons_self, hv u rfl⟩
  · rw [a4 i hi] at hu
    obtain ⟨W0, hW, hr⟩ := h2 i u hu
    refine ⟨W0, List.mem_cons_of_mem _ (List.mem_filter.mpr ⟨hW, ?_⟩), hr⟩
    have hc := rvl_cat hr
    by_cases hn : i + 1 = b
    · have hj := a5 i _ hn hu
      rw [hj] at hc
      simp [hi, hc]
    · simp [hi, hn]
theorem LR_set2 {G : WG} {ls' : Array Slot} {σ σ' : List AV} {b : Nat} {v : AV} {V : Value} {lv : List (Nat × Value)} (hs : lset2 σ b v = some σ') (h2 : ∀ (i : Nat) (v : Int ⊕ Int ⊕ (Nat × Nat)), σ[i]? = some (some v) → ∃ V, (i, V) ∈ lv ∧ rvl G (some v) V) (hv : ∀ u, v = some u → rvl G (some u) V)
    (h' : lv_has ls' σ.length ((b, V) :: lv.filter (fun q => !(q.1 == b) && (!(q.1 == b + 1) && !(q.1 + 1 == b && q.2.category == 2))))) : LR G ls' σ' := by
  obtain ⟨a1, a2, a3, a3', a4, a5⟩ := lset2_spec hs
  refine ⟨_, by rw [a2]; exact h', fun i u hu => ?_⟩
  by_cases hi : i = b
  · subst hi
    rw [a3] at hu
    cases hu
    exact ⟨V, List.mem_cons_self, hv u rfl⟩
  · by_cases hi2 : i = b + 1
    · subst hi2
      rw [a3'] at hu
      cases hu
    · rw [a4 i hi hi2] at hu
      obtain ⟨W0, hW, hr⟩ := h2 i u hu
      refine ⟨W0, List.mem_cons_of_mem _ (List.mem_filter.mpr ⟨hW, ?_⟩), hr⟩
      have hc := rvl_cat hr
      by_cases hn : i + 1 = b
      · have hj := a5 i _ hn hu
        rw [hj] at hc
        simp [hi, hi2, hc]
      · simp [hi, hi2, hn]
/-! what stays as it was before the law began -/
def Old (G : WG) (s : State) (H : Heap) : Prop :=
  (∀ k : Nat, k < nSt → va_O "java/lang/String" (gK G k) (gA G) s H ∧ va_OF "java/lang/String" "coder" "B" (.int 0) (gK G k) (gA G) s H ∧ va_OF "java/lang/String" "value" "[B" (.ref (gV G k)) (gK G k) (gA G) s H ∧ va_T .byte (gV G k) (sLen k).toNat (fun j => .int (Int32.ofInt (sChr k j))) (gA G) s H) ∧
  (∀ key k : Nat, slk key = some k → vk_R (cN (key / 10000)) (key % 10000) (sTx.getD k "") (gK G k) s) ∧ va_X (gS G) (gL G) (gX G) s H ∧ gS G < gB G ∧ va_Z "java/lang/String" "COMPACT_STRINGS" "Z" (.int 1) (gA G) s H ∧ va_Zq "jdk/internal/util/Preconditions" "SIOOBE_FORMATTER" "Ljava/util/function/BiFunction;" (gA G) s H ∧
  vx_Zq Bundle.tN "UNASSIGNED_STACK" Bundle.steD (gA G) s H ∧ vx_Zq Bundle.tN "SUPPRESSED_SENTINEL" Bundle.listD (gA G) s H ∧ gB G ≤ H.size ∧ ∀ e e' : Nat, e < 5 → e' < 5 → e ≠ e' → va_Nc (exT.getD e "") (exT.getD e' "") s
def GW (s : State) : Prop := ∀ w ∈ lw_tbl, gw w = true → w.before #[] s = true
theorem GW.at {s : State} (h : GW s) {w : Cond} (hw : w ∈ lw_tbl) (hg : gw w = true) (args : Array Value) : w.before args s = true := gw_warm hg (State.WarmedH.refl s) (h w hw hg) args
theorem GW.warm {s U : State} (hW : s.WarmedH U.vm) (h : GW s) : GW U := fun w hw hg => gw_warm hg hW (h w hw hg) #[]
/-- the heap -/
def HR (G : WG) (s : State) (h : Hp) (H : Heap) (locs : List Loc) : Prop := va_K (gD G) vwCl (gT G) s ∧ va_P (gD G) vwCl (wsOf G h) H ∧ va_S (gA G) s.heap H locs ∧ (∀ t k i, t ≠ 25 → in32 (h t k i)) ∧ (∀ k i, in64 (h 25 k i)) ∧ h 27 0 0 = gL G ∧ ∀ j, j < gL G → h 22 0 j = (gX G j).toInt
