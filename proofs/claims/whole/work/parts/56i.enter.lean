/-! FROM THE ENTRY TO THE LAW'S LOOP. -/
def wA : List BC := [(0, 11, kDef 11, [])]
def ev1 : Option (List BC) := brn 300 11 0 (ini (kLoc 11) [aA 11 0]) [] wA
def ev2 (ws1 : List BC) : Option (List BC) := brn 300 12 0 (ini (kLoc 12) [aA 12 0]) [] (ws1 ++ [(0, 12, kDef 12, [])])
/-- the numbers at the start -/
def hz (t i : Nat) : Int := if t = 113 ∨ t = 150 ∨ t = 184 ∨ t = 198 ∨ t = 206 then -1 else if t = 147 then 1 else if t = 187 then (if i = 13 then 1 else if i = 1 then -1 else 0) else 0
def h0 (G : WG) : Hp := fun t _ i => if t = 22 then (gX G i).toInt else if t = 27 then gL G else hz t i
def updX : List (Nat × AV) → Nat → Option Nat
  | [], _ => none
  | q :: l, i => if i = q.1 then (match q.2 with
    | some (.inr (.inr (t, k))) => some (ixO t k)
    | _ => none) else updX l i
theorem updR_X (G : WG) (i : Nat) : ∀ u : List (Nat × AV), updR G u i = (updX u i).map (fun x => gB G + x) := by
  intro u
  induction u with
  | nil => rfl
  | cons q u ih =>
    obtain ⟨j, v⟩ := q
    show (if i = j then avR G v else updR G u i) = Option.map _ (if i = j then _ else updX u i)
    by_cases e : i = j
    · rw [if_pos e, if_pos e]
      match v with
      | none => rfl
      | some (.inl x) => rfl
      | some (.inr (.inl x)) => rfl
      | some (.inr (.inr (t, k))) => rfl
    · rw [if_neg e, if_neg e, ih]
def okF (q : Nat × Nat) (j : Nat) (v : AV) : Bool := match fK q.1 j, v with
  | (0, _, _), some (.inl x) => decide (x = hz (tg q.1 j) 0)
  | (1, _, _), some (.inl x) => decide (x = hz (tg q.1 j) 0)
  | (2, t, _), some (.inr (.inr (t2, k2))) => decide (ixO t2 k2 = ixO t q.2)
  | (3, t, k0), some (.inr (.inr (t2, k2))) => decide (ixO t2 k2 = ixO t k0)
  | _, _ => false
def hzN (t : Nat) : Bool := decide (¬ (t = 113 ∨ t = 150 ∨ t = 184 ∨ t = 198 ∨ t = 206 ∨ t = 147 ∨ t = 187 ∨ t = 22 ∨ t = 27))
def isM (u : List (Nat × AV)) : Bool := match u with
  | [(13, some (.inl x)), (1, some (.inl y))] => decide (x = 1 ∧ y = -1)
  | _ => false
theorem isM_ok {u : List (Nat × AV)} (h : isM u = true) : u = [(13, aI 1), (1, aI (-1))] := by
  unfold isM at h
  split at h
  · simp only [decide_eq_true_eq] at h
    rw [h.1, h.2]
    rfl
  · cases h
def okC (q : Nat × Nat) (c : BC) : Bool :=
  if q.1 < 13 then decide (c.1 = 0) && decide (c.2.1 = q.1) && decide (c.2.2.1.length = nF q.1) && (List.range (nF q.1)).all (fun j => okF q j (c.2.2.1.getD j none))
  else if q.1 = 25 then decide (c.1 = 3) && decide (c.2.1 = 1) && c.2.2.2.isEmpty
  else if q.1 = 26 then decide (c.1 = 4) && decide (c.2.1 = 12) && (List.range 12).all (fun i => decide (updX c.2.2.2 i = some (ixO 7 (i + 3))))
  else if 0 < zLen q.1 then decide (c.1 = 2) && decide (c.2.1 = (zLen q.1).toNat) && c.2.2.2.isEmpty && hzN q.1
  else decide (c.1 = 1) && decide (c.2.1 = (aLen q.1).toNat) && ((c.2.2.2.isEmpty && hzN q.1) || (decide (q.1 = 187) && isM c.2.2.2))
def evC : Bool := match ev1 with
  | some ws1 => decide (obT[ws1.length]? = some (12, 0)) && (match ev2 ws1 with
    | some ws2 => decide (obT[ws2.length]? = some (25, 0)) && decide (ws2.length = 234) && decide (slW ws2 ≤ 29000) && (List.range 235).all (fun i => okC (obT.getD i (0, 0)) ((ws2 ++ [(3, 1, [], [])]).getD i (9, 0, [], [])))
    | none => false)
  | none => false
theorem ev_ok : evC = true := by decide +kernel
theorem hz_0 {t i : Nat} (h : hzN t = true) : hz t i = 0 := by
  simp only [hzN, decide_eq_true_eq] at h
  unfold hz
  rw [if_neg (by omega), if_neg (by omega), if_neg (by omega)]
theorem h0_0 {G : WG} {t k i : Nat} (h : hzN t = true) : h0 G t k i = 0 := by
  have h1 := h
  simp only [hzN, decide_eq_true_eq] at h
  unfold h0
  rw [if_neg (by omega), if_neg (by omega)]
  exact hz_0 h1
theorem arrV_congr {c : ClassId} {n : Nat} {f g : Nat → Value} (h : ∀ i, i < n → f i = g i) : arrV c n f = arrV c n g := by
  unfold arrV
  congr 2
  funext j
  exact h j j.isLt
theorem okF_ok {G : WG} {q : Nat × Nat} {j : Nat} {v : AV} (h : okF q j v = true) (h100 : 100 ≤ tg q.1 j) : avV G v = fval G (h0 G) q.1 j q.2 := by
  have e : h0 G (tg q.1 j) q.2 0 = hz (tg q.1 j) 0 := by unfold h0; rw [if_neg (by omega), if_neg (by omega)]
  unfold okF at h
  unfold fval
  split at h
  · rename_i e1
    simp only [decide_eq_true_eq] at h
    rw [e1]
    show Value.int (Int32.ofInt _) = Value.int (Int32.ofInt _)
    rw [h, e]
  · rename_i e1
    simp only [decide_eq_true_eq] at h
    rw [e1]
    show Value.int (Int32.ofInt _) = Value.int (Int32.ofInt _)
    rw [h, e]
  · rename_i e1
    simp only [decide_eq_true_eq] at h
    rw [e1]
    show Value.ref _ = Value.ref _
    rw [h]
  · rename_i e1
    simp only [decide_eq_true_eq] at h
    rw [e1]
    show Value.ref _ = Value.ref _
    rw [h]
  · cases h
theorem okC_ok {G : WG} {q : Nat × Nat} {c : BC} {a : Nat} {H : Heap} (h : okC q c = true) (hat : va_at (gD G) vwCl (a, bE G c) H) : va_at (gD G) vwCl (a, cellE G (h0 G) q) H := by
  unfold okC at h
  unfold cellE
  split at h <;> rename_i c1
  · rw [if_pos c1]
    simp only [Bool.and_eq_true, decide_eq_true_eq, List.all_eq_true, List.mem_range] at h
    obtain ⟨⟨⟨h1, h2⟩, h3⟩, h4⟩ := h
    obtain ⟨k, n, fs, u⟩ := c
    simp only at h1 h2 h3 h4
    subst h1
    subst h2
    have e : fs.map (avV G) = (List.range (nF q.1)).map (fun j => fval G (h0 G) q.1 j q.2) := by
      apply List.ext_getElem?
      intro j
      rw [List.getElem?_map, List.getElem?_map]
      by_cases hj : j < nF q.1
      · have h5 := okF_ok (G := G) (h4 j hj) (tgC_ok c1 hj).2
        rw [List.getElem?_range hj, List.getElem?_eq_getElem (by omega)]
        show some (avV G _) = some (fval G (h0 G) q.1 j q.2)
        rw [← h5, List.getD_eq_getElem?_getD, List.getElem?_eq_getElem (by omega)]
        rfl
      · rw [List.getElem?_eq_none (by omega), List.getElem?_eq_none (by rw [List.length_range]; omega)]
        rfl
    have hat : va_at (gD G) vwCl (a, .inr (q.1, fs.map (avV G))) H := hat
    rw [e] at hat
    exact hat
  · rw [if_neg c1]
    split at h <;> rename_i c2
    · rw [if_pos c2]
      simp only [Bool.and_eq_true, decide_eq_true_eq, List.isEmpty_iff] at h
      obtain ⟨⟨h1, h2⟩, h3⟩ := h
      obtain ⟨k, n, fs, u⟩ := c
      simp only at h1 h2 h3
      subst h1
      subst h2
      subst h3
      have e : (fun i => Int64.ofInt (h0 G 25 q.2 i)) = fun _ => Int64.ofInt 0 := by
        funext i; rw [h0_0 (by decide)]
      rw [e]
      exact hat
    · rw [if_neg c2]
      split at h <;> rename_i c3
      · rw [if_pos c3]
        simp only [Bool.and_eq_true, decide_eq_true_eq, List.all_eq_true, List.mem_range] at h
        obtain ⟨⟨h1, h2⟩, h3⟩ := h
        obtain ⟨k, n, fs, u⟩ := c
        simp only at h1 h2 h3
        subst h1
        subst h2
        have hat : H[a]? = some (vp_cell (gC G 3) (12, .inr (.inr (.inr (.inr (updR G u)))))) := hat
        show H[a]? = some (vp_cell (gC G 3) (12, .inr (.inr (.inr (.inr (fun i => some (gB G + ixO 7 (i + 3))))))))
        rw [hat, vp_cell_q, vp_cell_q]
        congr 1
        refine arrV_congr (fun i hi => ?_)
        show va_rf (updR G u i) = va_rf (some (gB G + ixO 7 (i + 3)))
        rw [updR_X, h3 i hi]
        rfl
      · rw [if_neg c3]
        split at h <;> rename_i c4
        · rw [if_pos c4]
          simp only [Bool.and_eq_true, decide_eq_true_eq, List.isEmpty_iff] at h
          obtain ⟨⟨⟨h1, h3⟩, h4⟩, h2⟩ := h
          obtain ⟨k, n, fs, u⟩ := c
          simp only at h1 h3 h4
          subst h1
          subst h3
          subst h4
          have e : (fun i => Int32.ofInt (h0 G q.1 q.2 i)) = fun _ => Int32.ofInt 0 := by
            funext i; rw [h0_0 h2]
          rw [e]
          exact hat
        · rw [if_neg c4]
          simp only [Bool.and_eq_true, Bool.or_eq_true, decide_eq_true_eq, List.isEmpty_iff] at h
          obtain ⟨⟨h1, h2⟩, h3⟩ := h
          obtain ⟨k, n, fs, u⟩ := c
          simp only at h1 h2 h3
          subst h1
          subst h2
          have e : (fun i => Int32.ofInt (h0 G q.1 q.2 i)) = fun i => Int32.ofInt (updI u i) := by
            funext i
            rcases h3 with ⟨rfl, h4⟩ | ⟨h4, h5⟩
            · rw [h0_0 h4]; rfl
            · rw [h4, isM_ok h5]; rfl
          rw [e]
          exact hat
theorem conv_ok {G : WG} {ws2 : List BC} {H : Heap} (h : (List.range 235).all (fun i => okC (obT.getD i (0, 0)) ((ws2 ++ [(3, 1, [], [])]).getD i (9, 0, [], []))) = true) (hl : ws2.length = 234) (hP : va_P (gD G) vwCl (wsB G (ws2 ++ [(3, 1, [], [])])) H) : va_P (gD G) vwCl (wsOf G (h0 G)) H := by
  intro i x hx
  unfold wsOf at hx
  rw [List.getElem?_mapIdx] at hx
  cases ho : obT[i]? with
  | none => rw [ho] at hx; cases hx
  | some q =>
    rw [ho] at hx
    cases hx
    have hi : i < 235 := by rw [← ob_len]; exact (List.getElem?_eq_some_iff.mp ho).1
    have h1 := List.all_eq_true.mp h i (List.mem_range.mpr hi)
    rw [List.getD_eq_getElem?_getD, ho] at h1
    have hi2 : i < (ws2 ++ [(3, 1, [], [])]).length := by rw [List.length_append, List.length_singleton]; omega
    rw [List.getD_eq_getElem?_getD, List.getElem?_eq_getElem hi2] at h1
    exact okC_ok h1 (hP i _ (wsB_get G (List.getElem?_eq_getElem hi2)))
theorem h0_HV (G : WG) (hL : gL G ≤ 3072) : HV G (h0 G) := by
  refine ⟨fun t k i h25 => ?_, fun k i => ?_, rfl, fun j hj => rfl⟩
  · unfold h0 in32
    split
    · exact in32_of _
    · split
      · omega
      · unfold hz
        split
        · omega
        · split
          · omega
          · split
            · split
              · omega
              · split <;> omega
            · omega
  · rw [h0_0 (by decide)]
    exact ⟨by decide, by decide⟩
theorem mo368 : mOwn 368 = 13 ∧ mCode 368 = code ∧ mRet 368 = some .boolean ∧ mHh 368 = [] := ⟨by decide +kernel, rfl, by decide +kernel, by decide +kernel⟩
