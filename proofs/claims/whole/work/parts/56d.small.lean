/-! The small machine of the constructors, and that the JVM does what it does. -/
def isPl (n : Nat) : Bool := n == 1 || n == 4 || n == 6 || n == 7 || n == 9 || n == 10 || n == 47
def h00 : Hp := fun _ _ _ => 0
def bS1 (J : Nat → List AV → List AV → List BC → Option (List BC)) (C : Nat → List AV → List BC → Option (List BC)) (i : AC) (nx : Nat) (σ st : List AV) (ws : List BC) : Option (List BC) := match i with
  | (100, _, c, _) => match obT[ws.length]? with
    | some (t, k) => if t = c ∧ c < 13 then J nx σ (aA t k :: st) (ws ++ [(0, c, kDef c, [])]) else none
    | none => none
  | (101, _, _, _) => match st with
    | some (.inr (.inr _)) :: s => if Nat.ble (wd s) 8 = true then J nx σ s ws else none
    | _ => none
  | (102, _, c, _) => match tk (kNp c + 1) [] st with
    | some z => if (rcv c z.1 = true ∧ Nat.ble (wd z.2) 8 = true) ∧ c < 13 then (match C c z.1 ws with
      | some ws2 => J nx σ z.2 ws2
      | none => none) else none
    | none => none
  | (103, _, c, j) => match st with
    | v :: some (.inr (.inr (t, k))) :: s => match ws[ixO t k]? with
      | some (0, c', fs, u) => if (c' = c ∧ t = c ∧ c < 13) ∧ j < fs.length ∧ fitB c j v = true then J nx σ s (ws.set (ixO t k) (0, c, fs.set j v, u)) else none
      | _ => none
    | _ => none
  | (104, _, c, j) => match st with
    | some (.inr (.inr (t, k))) :: s => match ws[ixO t k]? with
      | some (0, c', fs, _) => match fs[j]? with
        | some (some (.inr (.inr (t2, k2)))) => if (c' = c ∧ t = c ∧ c < 13) ∧ obT[ixO t2 k2]? = some (t2, k2) then J nx σ (aA t2 k2 :: s) ws else none
        | _ => none
      | _ => none
    | _ => none
  | (105, kd, _, _) => match st with
    | some (.inl x) :: s => match obT[ws.length]? with
      | some (t, k) => if (0 ≤ x ∧ x ≤ 10000) ∧ (kd = 1 ∨ kd = 2 ∨ kd = 3) then J nx σ (aA t k :: s) (ws ++ [(kd.toNat, x.toNat, [], [])]) else none
      | none => none
    | _ => none
  | (106, _, _, _) => match st with
    | some (.inl x) :: s => match obT[ws.length]? with
      | some (t, k) => if 0 ≤ x ∧ x ≤ 10000 then J nx σ (aA t k :: s) (ws ++ [(4, x.toNat, [], [])]) else none
      | none => none
    | _ => none
  | (107, _, _, _) => match st with
    | some (.inl v) :: some (.inl ix) :: some (.inr (.inr (t, k))) :: s => match ws[ixO t k]? with
      | some (1, n, fs, u) => if (0 ≤ ix ∧ ix < n) ∧ 100 ≤ t then J nx σ s (ws.set (ixO t k) (1, n, fs, (ix.toNat, some (.inl v)) :: u)) else none
      | _ => none
    | _ => none
  | (108, _, _, _) => match st with
    | some (.inr (.inr (t2, k2))) :: some (.inl ix) :: some (.inr (.inr (t, k))) :: s => match ws[ixO t k]?, ws[ixO t2 k2]? with
      | some (4, n, fs, u), some (0, 7, _, _) => if (0 ≤ ix ∧ ix < n) ∧ t = 26 ∧ t2 = 7 then J nx σ s (ws.set (ixO t k) (4, n, fs, (ix.toNat, some (.inr (.inr (t2, k2)))) :: u)) else none
      | _, _ => none
    | _ => none
  | (65, _, b, _) => match st with
    | some (.inl y) :: some (.inl x) :: s => if x < y then J nx σ s ws else J b σ s ws
    | _ => none
  | (60, _, b, _) => J b σ st ws
  | (83, _, _, _) => match st with
    | [] => some ws
    | _ => none
  | _ => none
def bstep (J : Nat → List AV → List AV → List BC → Option (List BC)) (C : Nat → List AV → List BC → Option (List BC)) (i : AC) (nx : Nat) (σ st : List AV) (ws : List BC) : Option (List BC) :=
  if isPl i.1 then (match step1 i σ st h00 with
    | some q => J nx q.1 q.2.1 ws
    | none => none) else bS1 J C i nx σ st ws
def brn : Nat → Nat → Nat → List AV → List AV → List BC → Option (List BC)
  | 0, _, _, _, _, _ => none
  | n + 1, k, pc, σ, st, ws => match lkp none pc ((kT k).map (fun q => (q.1, some q.2))) with
    | some (i, nx) => bstep (fun pc σ st ws => brn n k pc σ st ws) (fun c as ws => if (lay as).length ≤ kLoc c then brn n c 0 (ini (kLoc c) as) [] ws else none) i nx σ st ws
    | none => none
def ckB (k pc : Nat) (i : AC) (nx : Nat) : Bool := if isPl i.1 then decide (ck1 k (kCode k) pc i = some nx) else match i with
  | (100, _, c, _) => match dk (kCode k) pc with
    | some (.new x, 3) => decide (x < 10000) && decide (czk (k * 10000 + x) = some c) && decide (nx = pc + 3)
    | _ => false
  | (101, _, _, _) => match dk (kCode k) pc with
    | some (.invokespecial x, 3) => decide (x < 10000) && decide (ozk (k * 10000 + x) = some 0) && decide (nx = pc + 3)
    | _ => false
  | (102, _, c, _) => match dk (kCode k) pc with
    | some (.invokespecial x, 3) => decide (x < 10000) && (decide (ilk (k * 10000 + x) = some c) || decide (izk (k * 10000 + x) = some c)) && decide (nx = pc + 3)
    | _ => false
  | (103, _, c, j) => match dk (kCode k) pc with
    | some (.putfield x, 3) => decide (x < 10000) && decide (flk (k * 10000 + x) = some (c, j)) && decide (nx = pc + 3) && decide (j < nF c) && decide ((tF c j).1 = cN k)
    | _ => false
  | (104, _, c, j) => match dk (kCode k) pc with
    | some (.getfield x, 3) => decide (x < 10000) && decide (flk (k * 10000 + x) = some (c, j)) && decide (nx = pc + 3) && decide (j < nF c)
    | _ => false
  | (105, kd, _, _) => match dk (kCode k) pc with
    | some (.newarray a, 2) => ((decide (kd = 1) && decide (a = .int)) || (decide (kd = 2) && decide (a = .boolean)) || (decide (kd = 3) && decide (a = .long))) && decide (nx = pc + 2)
    | _ => false
  | (106, _, _, _) => match dk (kCode k) pc with
    | some (.anewarray x, 3) => decide (x < 10000) && decide (czk (k * 10000 + x) = some 7) && decide (nx = pc + 3)
    | _ => false
  | (107, _, _, _) => decide (dk (kCode k) pc = some (.iastore, 1)) && decide (nx = pc + 1)
  | (108, _, _, _) => decide (dk (kCode k) pc = some (.aastore, 1)) && decide (nx = pc + 1)
  | (65, _, _, _) => decide (ckJ (kCode k) pc i = some nx)
  | (60, _, _, _) => decide (ckJ (kCode k) pc i = some nx)
  | (83, _, _, _) => decide (dk (kCode k) pc = some (.return_, 1))
  | _ => false
def ckC (k : Nat) : Bool := (kT k).all (fun q => ckB k q.1 q.2.1 q.2.2)
theorem ckc_all : (List.range 13).all (fun k => ckC k) = true := by decide +kernel
theorem slW_app (ws : List BC) (c : BC) : slW (ws ++ [c]) = slW ws + slB c := by
  unfold slW; rw [List.map_append, List.sum_append]; simp
theorem slW_set : ∀ {ws : List BC} {i : Nat} {c1 c2 : BC}, ws[i]? = some c1 → slB c1 = slB c2 → slW (ws.set i c2) = slW ws := by
  intro ws
  induction ws with
  | nil => intro i c1 c2 h; cases h
  | cons a ws ih =>
    intro i c1 c2 h e
    cases i with
    | zero => cases h; show slB c2 + _ = slB _ + _; rw [e]
    | succ i =>
      have := ih (i := i) (c1 := c1) (c2 := c2) h e
      show slB a + slW (ws.set i c2) = slB a + slW ws
      rw [this]
/-- cells are only added -/
def mono (ws ws2 : List BC) : Prop := ws.length ≤ ws2.length ∧ slW ws ≤ slW ws2
theorem mono_app {ws ws2 : List BC} {c : BC} (h : mono (ws ++ [c]) ws2) : mono ws ws2 := by
  obtain ⟨h1, h2⟩ := h
  rw [slW_app] at h2
  rw [List.length_append, List.length_singleton] at h1
  exact ⟨by omega, by omega⟩
theorem mono_set {ws ws2 : List BC} {i : Nat} {c1 c2 : BC} (h : mono (ws.set i c2) ws2) (hi : ws[i]? = some c1) (e : slB c1 = slB c2) : mono ws ws2 := by
  obtain ⟨h1, h2⟩ := h
  rw [slW_set hi e] at h2
  rw [List.length_set] at h1
  exact ⟨h1, h2⟩
theorem slW_setk {ws : List BC} {i kd n : Nat} {fs fs' : List AV} {u u' : List (Nat × AV)} (h : ws[i]? = some (kd, n, fs, u)) : slW (ws.set i (kd, n, fs', u')) = slW ws := slW_set h rfl
