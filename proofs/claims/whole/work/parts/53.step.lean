/-! EACH STEP OF THE ABSTRACT MACHINE IS A STEP OF THE JVM. -/
def dk (cc : ByteArray) (pc : Nat) : Option (Instr × Nat) := match decode cc pc with
  | .ok q => some q
  | .error _ => none
theorem dk_ok {cc : ByteArray} {pc : Nat} {q : Instr × Nat} (h : dk cc pc = some q) : decode cc pc = .ok q := by
  unfold dk at h
  split at h
  · cases h; assumption
  · cases h
def ifo {α : Type} (b : Bool) (x : α) : Option α := if b then some x else none
theorem ifo_ok {α : Type} {b : Bool} {x y : α} (h : ifo b x = some y) : b = true ∧ x = y := by
  unfold ifo at h
  split at h
  · cases h; exact ⟨by assumption, rfl⟩
  · cases h
def isI (cc : ByteArray) (pc : Nat) (ins : Instr) (n : Nat) : Bool := dk cc pc == some (ins, n)
/-- the load or store of place b -/
def ldx (cc : ByteArray) (pc b : Nat) (f : Fin 4 → Instr) (g : Nat → Instr) : Option Nat := match dk cc pc with
  | some (ins, 1) => if h : b < 4 then ifo (decide (ins = f ⟨b, h⟩)) (pc + 1) else none
  | some (ins, 2) => ifo (decide (ins = g b)) (pc + 2)
  | _ => none
theorem ldx_ok {cc : ByteArray} {pc b pc' : Nat} {f : Fin 4 → Instr} {g : Nat → Instr} (h : ldx cc pc b f g = some pc') : (∃ k : Fin 4, (k : Nat) = b ∧ decode cc pc = .ok (f k, 1) ∧ pc' = pc + 1) ∨ (decode cc pc = .ok (g b, 2) ∧ pc' = pc + 2) := by
  unfold ldx at h
  split at h
  · rename_i ins hd
    split at h
    · rename_i hb
      obtain ⟨e1, e2⟩ := ifo_ok h
      have e1 : ins = f ⟨b, hb⟩ := by simpa using e1
      subst e1
      exact Or.inl ⟨⟨b, hb⟩, rfl, dk_ok hd, e2.symm⟩
    · cases h
  · rename_i ins hd
    obtain ⟨e1, e2⟩ := ifo_ok h
    have e1 : ins = g b := by simpa using e1
    subst e1
    exact Or.inr ⟨dk_ok hd, e2.symm⟩
  · cases h
/-- one plain instruction of n bytes -/
def one (cc : ByteArray) (pc : Nat) (ins : Instr) (n : Nat) : Option Nat := match dk cc pc with
  | some (i, k) => ifo (decide (i = ins) && k == n) (pc + n)
  | none => none
theorem one_ok {cc : ByteArray} {pc pc' n : Nat} {ins : Instr} (h : one cc pc ins n = some pc') : decode cc pc = .ok (ins, n) ∧ pc' = pc + n := by
  unfold one at h
  split at h
  · rename_i i k hd
    obtain ⟨e1, e2⟩ := ifo_ok h
    simp only [Bool.and_eq_true, beq_iff_eq, decide_eq_true_eq] at e1
    obtain ⟨e3, e4⟩ := e1
    subst e3; subst e4
    exact ⟨dk_ok hd, e2.symm⟩
  · cases h
/-- a field's instruction: the field j of the class c -/
def fld (o : Nat) (x c j : Nat) : Bool := decide (x < 10000) && flk (o * 10000 + x) == some (c, j) && decide (j < nF c)
theorem fld_ok {o x c j : Nat} (h : fld o x c j = true) : Cond.fieldLink (cN o) x (tF c j).1 (tF c j).2.1 (tF c j).2.2.1 ∈ lw_tbl ∧ j < nF c := by
  simp only [fld, Bool.and_eq_true, decide_eq_true_eq, beq_iff_eq] at h
  obtain ⟨⟨h1, h2⟩, h3⟩ := h
  have := flk_ok h2
  simp only [flQ] at this
  rw [show (o * 10000 + x) / 10000 = o by omega, show (o * 10000 + x) % 10000 = x by omega] at this
  exact ⟨this, h3⟩
/-- the place of the instruction behind a step, if the step is the instruction at pc -/
def ck1 (o : Nat) (cc : ByteArray) (pc : Nat) (i : AC) : Option Nat := match i with
  | (1, a, _, _) => match dk cc pc with
    | some (.iconst n, 1) => ifo (decide ((Int32.ofInt n).toInt = a)) (pc + 1)
    | some (.bipush n, 2) => ifo (decide ((Int8.ofInt n).toInt32.toInt = a)) (pc + 2)
    | some (.sipush n, 3) => ifo (decide ((Int16.ofInt n).toInt32.toInt = a)) (pc + 3)
    | some (.ldc x, 2) => ifo (decide (x < 10000) && kik (o * 10000 + x) == some a && decide (-2147483648 ≤ a ∧ a < 2147483648)) (pc + 2)
    | some (.ldc_w x, 3) => ifo (decide (x < 10000) && kik (o * 10000 + x) == some a && decide (-2147483648 ≤ a ∧ a < 2147483648)) (pc + 3)
    | _ => none
  | (2, a, _, _) => match dk cc pc with
    | some (.lconst n, 1) => ifo (decide ((Int64.ofNat (n : Nat)).toInt = a)) (pc + 1)
    | some (.ldc2_w x, 3) => ifo (decide (x < 10000) && kjk (o * 10000 + x) == some a && decide (-9223372036854775808 ≤ a ∧ a < 9223372036854775808)) (pc + 3)
    | _ => none
  | (3, _, b, _) => match dk cc pc with
    | some (.ldc x, 2) => ifo (decide (x < 10000) && slk (o * 10000 + x) == some b && decide (b < nSt)) (pc + 2)
    | _ => none
  | (4, _, b, _) => ldx cc pc b .iload_n .iload
  | (5, _, b, _) => ldx cc pc b .lload_n .lload
  | (6, _, b, _) => ldx cc pc b .aload_n .aload
  | (7, _, b, _) => ldx cc pc b .istore_n .istore
  | (8, _, b, _) => ldx cc pc b .lstore_n .lstore
  | (9, _, b, _) => ldx cc pc b .astore_n .astore
  | (10, a, b, _) => one cc pc (.iinc b a) 3
  | (11, _, _, _) => one cc pc .iadd 1
  | (12, _, _, _) => one cc pc .isub 1
  | (13, _, _, _) => one cc pc .imul 1
  | (14, _, _, _) => one cc pc .idiv 1
  | (15, _, _, _) => one cc pc .irem 1
  | (16, _, _, _) => one cc pc .ineg 1
  | (17, _, _, _) => one cc pc .iand 1
  | (18, _, _, _) => one cc pc .ior 1
  | (19, _, _, _) => one cc pc .ixor 1
  | (20, _, _, _) => one cc pc .ishl 1
  | (21, _, _, _) => one cc pc .ishr 1
  | (22, _, _, _) => one cc pc .iushr 1
  | (23, _, _, _) => one cc pc .i2l 1
  | (24, _, _, _) => one cc pc .l2i 1
  | (25, _, _, _) => one cc pc .ladd 1
  | (26, _, _, _) => one cc pc .lsub 1
  | (27, _, _, _) => one cc pc .land 1
  | (28, _, _, _) => one cc pc .lor 1
  | (29, _, _, _) => one cc pc .lshl 1
  | (30, _, _, _) => one cc pc .lshr 1
  | (31, _, _, _) => one cc pc .lushr 1
  | (32, _, _, _) => one cc pc .lcmp 1
  | (33, _, b, c) => match dk cc pc with
    | some (.getfield x, 3) => ifo (decide (tg c 0 ≤ b) && fld o x c (b - tg c 0) && decide ((fK c (b - tg c 0)).1 ≤ 1)) (pc + 3)
    | _ => none
  | (34, _, b, c) => match dk cc pc with
    | some (.getfield x, 3) => match flk (o * 10000 + x) with
      | some (c', j) => ifo (c' == c && fld o x c j && (fK c j).1 == 2 && (fK c j).2.1 == b) (pc + 3)
      | none => none
    | _ => none
  | (35, a, b, c) => match dk cc pc with
    | some (.getfield x, 3) => match flk (o * 10000 + x) with
      | some (c', j) => ifo (c' == c && fld o x c j && (fK c j).1 == 3 && (fK c j).2.1 == b && (fK c j).2.2 == a.toNat) (pc + 3)
      | none => none
    | _ => none
  | (36, _, b, c) => match dk cc pc with
    | some (.putfield x, 3) => ifo (decide (tg c 0 ≤ b) && fld o x c (b - tg c 0) && (fK c (b - tg c 0)).1 == 0 && (tF c (b - tg c 0)).2.2.1 == "I" && (tF c (b - tg c 0)).2.2.2 == false) (pc + 3)
    | _ => none
  | (37, _, b, c) => match dk cc pc with
    | some (.putfield x, 3) => ifo (decide (tg c 0 ≤ b) && fld o x c (b - tg c 0) && (fK c (b - tg c 0)).1 == 1 && (tF c (b - tg c 0)).2.2.1 == "Z" && (tF c (b - tg c 0)).2.2.2 == false) (pc + 3)
    | _ => none
  | (38, _, _, _) => one cc pc .iaload 1
  | (39, _, _, _) => one cc pc .iastore 1
  | (40, _, _, _) => one cc pc .baload 1
  | (41, _, _, _) => one cc pc .bastore 1
  | (42, _, _, _) => one cc pc .laload 1
  | (43, _, _, _) => one cc pc .lastore 1
  | (44, _, _, _) => one cc pc .aaload 1
  | (45, _, _, _) => one cc pc .arraylength 1
  | (46, _, _, _) => match dk cc pc with
    | some (.getfield x, 3) => ifo (decide (x < 10000) && xlk (o * 10000 + x) == some ("java/lang/String", "value", "[B")) (pc + 3)
    | _ => none
  | (47, _, _, _) => one cc pc .dup 1
  | (48, _, _, _) => one cc pc .dup2 1
  | (49, _, _, _) => one cc pc .pop 1
  | (50, _, _, _) => match dk cc pc with
    | some (.invokestatic x, 3) => ifo (decide (x < 10000) && ack (o * 10000 + x) == some 0) (pc + 3)
    | _ => none
  | (51, _, _, _) => match dk cc pc with
    | some (.getstatic x, 3) => ifo (decide (x < 10000) && xlk (o * 10000 + x) == some ("jdk/internal/util/Preconditions", "SIOOBE_FORMATTER", "Ljava/util/function/BiFunction;")) (pc + 3)
    | _ => none
  | (52, _, _, _) => one cc pc .i2c 1
  | (53, _, _, _) => one cc pc .iaload 1
  | (54, _, _, _) => one cc pc .arraylength 1
  | (55, _, _, _) => one cc pc .baload 1
  | (56, _, _, _) => one cc pc .arraylength 1
  | (57, _, _, _) => match dk cc pc with
    | some (.getfield x, 3) => ifo (decide (x < 10000) && xlk (o * 10000 + x) == some ("java/lang/String", "coder", "B")) (pc + 3)
    | _ => none
  | (58, a, _, _) => match dk cc pc with
    | some (.getstatic x, 3) => ifo (decide (x < 10000) && xlk (o * 10000 + x) == some ("java/lang/String", "COMPACT_STRINGS", "Z") && decide (a = 1)) (pc + 3)
    | _ => none
  | _ => none

section Snd
variable {p : Program} {l : Launch} {e : Env} {R : Room} {s : State} {m : MethodId} {args : Array Value} {below : List Frame} {meth : Method} {c0 : Code} {Q : State → Prop} {cells slots : Nat} {cc : ByteArray} {o nL : Nat} {G : WG}
variable {H : Heap} {locs : List Loc} {ls : Array Slot} {Vs : List Value} {pc pc' : Nat} {a : Int} {b c : Nat} {σ σ' st st' : List AV} {h h' : Hp}
/-- what holds all through an activation -/
def Ctx (p : Program) (R : Room) (s : State) (m : MethodId) (meth : Method) (c0 : Code) (cc : ByteArray) (o nL : Nat) (G : WG) : Prop := p.tables.exec = Jvm.exec ∧ c0.code = cc ∧ s.vm.findClass (cN o) = some m.cls ∧ GW s ∧ Old G s s.heap ∧ c0.maxLocals = nL ∧ 8 ≤ R.frames ∧ 400 ≤ R.locals ∧ meth.locks = false
theorem sI {x y : Int} {s0 : List AV} (hS : SR G (some (.inl y) :: some (.inl x) :: s0) Vs) : ∃ (v w : Int32) (L : List Value), Vs = .int w :: .int v :: L ∧ v.toInt = x ∧ w.toInt = y ∧ SR G s0 L := by
  obtain ⟨V, L, rfl, h1, h2⟩ := SR_cons hS
  obtain ⟨V2, L2, rfl, h3, h4⟩ := SR_cons h2
  obtain ⟨w, rfl, e1⟩ := rvl_I h1
  obtain ⟨v, rfl, e2⟩ := rvl_I h3
  exact ⟨v, w, L2, rfl, e2, e1, h4⟩
theorem sI1 {x : Int} {s0 : List AV} (hS : SR G (some (.inl x) :: s0) Vs) : ∃ (v : Int32) (L : List Value), Vs = .int v :: L ∧ v.toInt = x ∧ SR G s0 L := by
  obtain ⟨V, L, rfl, h1, h2⟩ := SR_cons hS
  obtain ⟨w, rfl, e1⟩ := rvl_I h1
  exact ⟨w, L, rfl, e1, h2⟩
theorem sJ1 {x : Int} {s0 : List AV} (hS : SR G (some (.inr (.inl x)) :: s0) Vs) : ∃ (v : Int64) (L : List Value), Vs = .long v :: L ∧ v.toInt = x ∧ SR G s0 L := by
  obtain ⟨V, L, rfl, h1, h2⟩ := SR_cons hS
  obtain ⟨w, rfl, e1⟩ := rvl_J h1
  exact ⟨w, L, rfl, e1, h2⟩
theorem sA {t k : Nat} {s0 : List AV} (hS : SR G (some (.inr (.inr (t, k))) :: s0) Vs) : ∃ (q : Nat) (L : List Value), Vs = .ref q :: L ∧ rvl G (some (.inr (.inr (t, k)))) (.ref q) ∧ SR G s0 L := by
  obtain ⟨V, L, rfl, h1, h2⟩ := SR_cons hS
  obtain ⟨q, rfl⟩ := rvl_R h1
  exact ⟨q, L, rfl, h1, h2⟩
theorem sd_11 (X : Ctx p R s m meth c0 cc o nL G) (hck : ck1 o cc pc (11, a, b, c) = some pc') (hst : step1 (11, a, b, c) σ st h = some (σ', st', h')) (hL : LR G ls σ) (hS : SR G st Vs) (hH : HR G s h H locs) 
    (K : ∀ (H2 : Heap) (locs2 : List Loc) (ls2 : Array Slot) (Vs2 : List Value), LR G ls2 σ' → SR G st' Vs2 → HR G s h' H2 locs2 → W p l e R s m args below meth c0 H2 locs2 cells slots Q (F0 m pc' ls2 Vs2)) : W p l e R s m args below meth c0 H locs cells slots Q (F0 m pc ls Vs) := by
  obtain ⟨hx, hb, -⟩ := X
  obtain ⟨hd, rfl⟩ := one_ok hck
  simp only [step1] at hst
  split at hst <;> cases hst
  obtain ⟨v, w, L, rfl, e1, e2, hS⟩ := sI hS
  exact lv_iadd hx hb hd (K H locs ls _ hL ⟨rvl_mkI (v + w) (by rw [Int32.toInt_add, e1, e2]; exact (w32_bmod _).symm), hS⟩ hH)
theorem sd_12 (X : Ctx p R s m meth c0 cc o nL G) (hck : ck1 o cc pc (12, a, b, c) = some pc') (hst : step1 (12, a, b, c) σ st h = some (σ', st', h')) (hL : LR G ls σ) (hS : SR G st Vs) (hH : HR G s h H locs) 
    (K : ∀ (H2 : Heap) (locs2 : List Loc) (ls2 : Array Slot) (Vs2 : List Value), LR G ls2 σ' → SR G st' Vs2 → HR G s h' H2 locs2 → W p l e R s m args below meth c0 H2 locs2 cells slots Q (F0 m pc' ls2 Vs2)) : W p l e R s m args below meth c0 H locs cells slots Q (F0 m pc ls Vs) := by
  obtain ⟨hx, hb, -⟩ := X
  obtain ⟨hd, rfl⟩ := one_ok hck
  simp only [step1] at hst
  split at hst <;> cases hst
  obtain ⟨v, w, L, rfl, e1, e2, hS⟩ := sI hS
  exact lv_isub hx hb hd (K H locs ls _ hL ⟨rvl_mkI (v - w) (by rw [Int32.toInt_sub, e1, e2]; exact (w32_bmod _).symm), hS⟩ hH)
theorem sd_13 (X : Ctx p R s m meth c0 cc o nL G) (hck : ck1 o cc pc (13, a, b, c) = some pc') (hst : step1 (13, a, b, c) σ st h = some (σ', st', h')) (hL : LR G ls σ) (hS : SR G st Vs) (hH : HR G s h H locs) 
    (K : ∀ (H2 : Heap) (locs2 : List Loc) (ls2 : Array Slot) (Vs2 : List Value), LR G ls2 σ' → SR G st' Vs2 → HR G s h' H2 locs2 → W p l e R s m args below meth c0 H2 locs2 cells slots Q (F0 m pc' ls2 Vs2)) : W p l e R s m args below meth c0 H locs cells slots Q (F0 m pc ls Vs) := by
  obtain ⟨hx, hb, -⟩ := X
  obtain ⟨hd, rfl⟩ := one_ok hck
  simp only [step1] at hst
  split at hst <;> cases hst
  obtain ⟨v, w, L, rfl, e1, e2, hS⟩ := sI hS
  exact lv_imul hx hb hd (K H locs ls _ hL ⟨rvl_mkI (v * w) (by rw [Int32.toInt_mul, e1, e2]; exact (w32_bmod _).symm), hS⟩ hH)
theorem sd_17 (X : Ctx p R s m meth c0 cc o nL G) (hck : ck1 o cc pc (17, a, b, c) = some pc') (hst : step1 (17, a, b, c) σ st h = some (σ', st', h')) (hL : LR G ls σ) (hS : SR G st Vs) (hH : HR G s h H locs) 
    (K : ∀ (H2 : Heap) (locs2 : List Loc) (ls2 : Array Slot) (Vs2 : List Value), LR G ls2 σ' → SR G st' Vs2 → HR G s h' H2 locs2 → W p l e R s m args below meth c0 H2 locs2 cells slots Q (F0 m pc' ls2 Vs2)) : W p l e R s m args below meth c0 H locs cells slots Q (F0 m pc ls Vs) := by
  obtain ⟨hx, hb, -⟩ := X
  obtain ⟨hd, rfl⟩ := one_ok hck
  simp only [step1] at hst
  split at hst <;> cases hst
  obtain ⟨v, w, L, rfl, e1, e2, hS⟩ := sI hS
  exact lv_iand hx hb hd (K H locs ls _ hL ⟨rvl_mkI (v &&& w) (by rw [iand, ← e1, ← e2, to32, to32]), hS⟩ hH)
theorem sd_18 (X : Ctx p R s m meth c0 cc o nL G) (hck : ck1 o cc pc (18, a, b, c) = some pc') (hst : step1 (18, a, b, c) σ st h = some (σ', st', h')) (hL : LR G ls σ) (hS : SR G st Vs) (hH : HR G s h H locs) 
    (K : ∀ (H2 : Heap) (locs2 : List Loc) (ls2 : Array Slot) (Vs2 : List Value), LR G ls2 σ' → SR G st' Vs2 → HR G s h' H2 locs2 → W p l e R s m args below meth c0 H2 locs2 cells slots Q (F0 m pc' ls2 Vs2)) : W p l e R s m args below meth c0 H locs cells slots Q (F0 m pc ls Vs) := by
  obtain ⟨hx, hb, -⟩ := X
  obtain ⟨hd, rfl⟩ := one_ok hck
  simp only [step1] at hst
  split at hst <;> cases hst
  obtain ⟨v, w, L, rfl, e1, e2, hS⟩ := sI hS
  exact lv_ior hx hb hd (K H locs ls _ hL ⟨rvl_mkI (v ||| w) (by rw [ior, ← e1, ← e2, to32, to32]), hS⟩ hH)
theorem sd_19 (X : Ctx p R s m meth c0 cc o nL G) (hck : ck1 o cc pc (19, a, b, c) = some pc') (hst : step1 (19, a, b, c) σ st h = some (σ', st', h')) (hL : LR G ls σ) (hS : SR G st Vs) (hH : HR G s h H locs) 
    (K : ∀ (H2 : Heap) (locs2 : List Loc) (ls2 : Array Slot) (Vs2 : List Value), LR G ls2 σ' → SR G st' Vs2 → HR G s h' H2 locs2 → W p l e R s m args below meth c0 H2 locs2 cells slots Q (F0 m pc' ls2 Vs2)) : W p l e R s m args below meth c0 H locs cells slots Q (F0 m pc ls Vs) := by
  obtain ⟨hx, hb, -⟩ := X
  obtain ⟨hd, rfl⟩ := one_ok hck
  simp only [step1] at hst
  split at hst <;> cases hst
  obtain ⟨v, w, L, rfl, e1, e2, hS⟩ := sI hS
  exact lv_ixor hx hb hd (K H locs ls _ hL ⟨rvl_mkI (v ^^^ w) (by rw [ixor, ← e1, ← e2, to32, to32]), hS⟩ hH)
theorem sd_20 (X : Ctx p R s m meth c0 cc o nL G) (hck : ck1 o cc pc (20, a, b, c) = some pc') (hst : step1 (20, a, b, c) σ st h = some (σ', st', h')) (hL : LR G ls σ) (hS : SR G st Vs) (hH : HR G s h H locs) 
    (K : ∀ (H2 : Heap) (locs2 : List Loc) (ls2 : Array Slot) (Vs2 : List Value), LR G ls2 σ' → SR G st' Vs2 → HR G s h' H2 locs2 → W p l e R s m args below meth c0 H2 locs2 cells slots Q (F0 m pc' ls2 Vs2)) : W p l e R s m args below meth c0 H locs cells slots Q (F0 m pc ls Vs) := by
  obtain ⟨hx, hb, -⟩ := X
  obtain ⟨hd, rfl⟩ := one_ok hck
  simp only [step1] at hst
  split at hst <;> cases hst
  obtain ⟨v, w, L, rfl, e1, e2, hS⟩ := sI hS
  exact lv_ishl hx hb hd (K H locs ls _ hL ⟨rvl_mkI (v <<< (w &&& 31)) (by rw [ishl, ← e1, ← e2, to32, to32]), hS⟩ hH)
theorem sd_21 (X : Ctx p R s m meth c0 cc o nL G) (hck : ck1 o cc pc (21, a, b, c) = some pc') (hst : step1 (21, a, b, c) σ st h = some (σ', st', h')) (hL : LR G ls σ) (hS : SR G st Vs) (hH : HR G s h H locs) 
    (K : ∀ (H2 : Heap) (locs2 : List Loc) (ls2 : Array Slot) (Vs2 : List Value), LR G ls2 σ' → SR G st' Vs2 → HR G s h' H2 locs2 → W p l e R s m args below meth c0 H2 locs2 cells slots Q (F0 m pc' ls2 Vs2)) : W p l e R s m args below meth c0 H locs cells slots Q (F0 m pc ls Vs) := by
  obtain ⟨hx, hb, -⟩ := X
  obtain ⟨hd, rfl⟩ := one_ok hck
  simp only [step1] at hst
  split at hst <;> cases hst
  obtain ⟨v, w, L, rfl, e1, e2, hS⟩ := sI hS
  exact lv_ishr hx hb hd (K H locs ls _ hL ⟨rvl_mkI (v >>> (w &&& 31)) (by rw [ishr, ← e1, ← e2, to32, to32]), hS⟩ hH)
theorem sd_22 (X : Ctx p R s m meth c0 cc o nL G) (hck : ck1 o cc pc (22, a, b, c) = some pc') (hst : step1 (22, a, b, c) σ st h = some (σ', st', h')) (hL : LR G ls σ) (hS : SR G st Vs) (hH : HR G s h H locs) 
    (K : ∀ (H2 : Heap) (locs2 : List Loc) (ls2 : Array Slot) (Vs2 : List Value), LR G ls2 σ' → SR G st' Vs2 → HR G s h' H2 locs2 → W p l e R s m args below meth c0 H2 locs2 cells slots Q (F0 m pc' ls2 Vs2)) : W p l e R s m args below meth c0 H locs cells slots Q (F0 m pc ls Vs) := by
  obtain ⟨hx, hb, -⟩ := X
  obtain ⟨hd, rfl⟩ := one_ok hck
  simp only [step1] at hst
  split at hst <;> cases hst
  obtain ⟨v, w, L, rfl, e1, e2, hS⟩ := sI hS
  exact lv_iushr hx hb hd rfl (K H locs ls _ hL ⟨rvl_mkI _ (by rw [iushr, ← e1, ← e2, to32, to32]), hS⟩ hH)
theorem sd_14 (X : Ctx p R s m meth c0 cc o nL G) (hck : ck1 o cc pc (14, a, b, c) = some pc') (hst : step1 (14, a, b, c) σ st h = some (σ', st', h')) (hL : LR G ls σ) (hS : SR G st Vs) (hH : HR G s h H locs) 
    (K : ∀ (H2 : Heap) (locs2 : List Loc) (ls2 : Array Slot) (Vs2 : List Value), LR G ls2 σ' → SR G st' Vs2 → HR G s h' H2 locs2 → W p l e R s m args below meth c0 H2 locs2 cells slots Q (F0 m pc' ls2 Vs2)) : W p l e R s m args below meth c0 H locs cells slots Q (F0 m pc ls Vs) := by
  obtain ⟨hx, hb, -⟩ := X
  obtain ⟨hd, rfl⟩ := one_ok hck
  simp only [step1] at hst
  split at hst
  · split at hst
    · cases hst
    · rename_i hne
      cases hst
      obtain ⟨v, w, L, rfl, e1, e2, hS⟩ := sI hS
      exact lv_idiv hx hb hd (fun z => hne (by rw [← e2, z]; rfl)) (K H locs ls _ hL ⟨rvl_mkI (v / w) (by rw [idiv, Int32.toInt_div, e1, e2]; exact (w32_bmod _).symm), hS⟩ hH)
  · cases hst
theorem sd_15 (X : Ctx p R s m meth c0 cc o nL G) (hck : ck1 o cc pc (15, a, b, c) = some pc') (hst : step1 (15, a, b, c) σ st h = some (σ', st', h')) (hL : LR G ls σ) (hS : SR G st Vs) (hH : HR G s h H locs) 
    (K : ∀ (H2 : Heap) (locs2 : List Loc) (ls2 : Array Slot) (Vs2 : List Value), LR G ls2 σ' → SR G st' Vs2 → HR G s h' H2 locs2 → W p l e R s m args below meth c0 H2 locs2 cells slots Q (F0 m pc' ls2 Vs2)) : W p l e R s m args below meth c0 H locs cells slots Q (F0 m pc ls Vs) := by
  obtain ⟨hx, hb, -⟩ := X
  obtain ⟨hd, rfl⟩ := one_ok hck
  simp only [step1] at hst
  split at hst
  · split at hst
    · cases hst
    · rename_i hne
      cases hst
      obtain ⟨v, w, L, rfl, e1, e2, hS⟩ := sI hS
      exact lv_irem hx hb hd (fun z => hne (by rw [← e2, z]; rfl)) (K H locs ls _ hL ⟨rvl_mkI (v - v / w * w) (by rw [rem_toInt, e1, e2]; rfl), hS⟩ hH)
  · cases hst
theorem sd_16 (X : Ctx p R s m meth c0 cc o nL G) (hck : ck1 o cc pc (16, a, b, c) = some pc') (hst : step1 (16, a, b, c) σ st h = some (σ', st', h')) (hL : LR G ls σ) (hS : SR G st Vs) (hH : HR G s h H locs) 
    (K : ∀ (H2 : Heap) (locs2 : List Loc) (ls2 : Array Slot) (Vs2 : List Value), LR G ls2 σ' → SR G st' Vs2 → HR G s h' H2 locs2 → W p l e R s m args below meth c0 H2 locs2 cells slots Q (F0 m pc' ls2 Vs2)) : W p l e R s m args below meth c0 H locs cells slots Q (F0 m pc ls Vs) := by
  obtain ⟨hx, hb, -⟩ := X
  obtain ⟨hd, rfl⟩ := one_ok hck
  simp only [step1] at hst
  split at hst <;> cases hst
  obtain ⟨v, L, rfl, e1, hS⟩ := sI1 hS
  exact lv_ineg hx hb hd (K H locs ls _ hL ⟨rvl_mkI (-v) (by rw [Int32.toInt_neg, e1]; exact (w32_bmod _).symm), hS⟩ hH)
theorem sd_23 (X : Ctx p R s m meth c0 cc o nL G) (hck : ck1 o cc pc (23, a, b, c) = some pc') (hst : step1 (23, a, b, c) σ st h = some (σ', st', h')) (hL : LR G ls σ) (hS : SR G st Vs) (hH : HR G s h H locs) 
    (K : ∀ (H2 : Heap) (locs2 : List Loc) (ls2 : Array Slot) (Vs2 : List Value), LR G ls2 σ' → SR G st' Vs2 → HR G s h' H2 locs2 → W p l e R s m args below meth c0 H2 locs2 cells slots Q (F0 m pc' ls2 Vs2)) : W p l e R s m args below meth c0 H locs cells slots Q (F0 m pc ls Vs) := by
  obtain ⟨hx, hb, -⟩ := X
  obtain ⟨hd, rfl⟩ := one_ok hck
  simp only [step1] at hst
  split at hst <;> cases hst
  obtain ⟨v, L, rfl, e1, hS⟩ := sI1 hS
  exact lv_i2l hx hb hd rfl (K H locs ls _ hL ⟨rvl_mkJ _ (by rw [Int32.toInt_toInt64, e1]), hS⟩ hH)
theorem sd_24 (X : Ctx p R s m meth c0 cc o nL G) (hck : ck1 o cc pc (24, a, b, c) = some pc') (hst : step1 (24, a, b, c) σ st h = some (σ', st', h')) (hL : LR G ls σ) (hS : SR G st Vs) (hH : HR G s h H locs) 
    (K : ∀ (H2 : Heap) (locs2 : List Loc) (ls2 : Array Slot) (Vs2 : List Value), LR G ls2 σ' → SR G st' Vs2 → HR G s h' H2 locs2 → W p l e R s m args below meth c0 H2 locs2 cells slots Q (F0 m pc' ls2 Vs2)) : W p l e R s m args below meth c0 H locs cells slots Q (F0 m pc ls Vs) := by
  obtain ⟨hx, hb, -⟩ := X
  obtain ⟨hd, rfl⟩ := one_ok hck
  simp only [step1] at hst
  split at hst <;> cases hst
  obtain ⟨v, L, rfl, e1, hS⟩ := sJ1 hS
  exact lv_l2i hx hb hd rfl (K H locs ls _ hL ⟨rvl_mkI _ (by rw [Int64.toInt_toInt32, e1]; exact (w32_bmod _).symm), hS⟩ hH)
theorem sd_25 (X : Ctx p R s m meth c0 cc o nL G) (hck : ck1 o cc pc (25, a, b, c) = some pc') (hst : step1 (25, a, b, c) σ st h = some (σ', st', h')) (hL : LR G ls σ) (hS : SR G st Vs) (hH : HR G s h H locs) 
    (K : ∀ (H2 : Heap) (locs2 : List Loc) (ls2 : Array Slot) (Vs2 : List Value), LR G ls2 σ' → SR G st' Vs2 → HR G s h' H2 locs2 → W p l e R s m args below meth c0 H2 locs2 cells slots Q (F0 m pc' ls2 Vs2)) : W p l e R s m args below meth c0 H locs cells slots Q (F0 m pc ls Vs) := by
  obtain ⟨hx, hb, -⟩ := X
  obtain ⟨hd, rfl⟩ := one_ok hck
  simp only [step1] at hst
  split at hst <;> cases hst
  obtain ⟨w, L1, rfl, e2, hS⟩ := sJ1 hS
  obtain ⟨v, L, rfl, e1, hS⟩ := sJ1 hS
  exact lv_ladd hx hb hd (K H locs ls _ hL ⟨rvl_mkJ (v + w) (by rw [Int64.toInt_add, e1, e2]; exact (w64_bmod _).symm), hS⟩ hH)
theorem sd_26 (X : Ctx p R s m meth c0 cc o nL G) (hck : ck1 o cc pc (26, a, b, c) = some pc') (hst : step1 (26, a, b, c) σ st h = some (σ', st', h')) (hL : LR G ls σ) (hS : SR G st Vs) (hH : HR G s h H locs) 
    (K : ∀ (H2 : Heap) (locs2 : List Loc) (ls2 : Array Slot) (Vs2 : List Value), LR G ls2 σ' → SR G st' Vs2 → HR G s h' H2 locs2 → W p l e R s m args below meth c0 H2 locs2 cells slots Q (F0 m pc' ls2 Vs2)) : W p l e R s m args below meth c0 H locs cells slots Q (F0 m pc ls Vs) := by
  obtain ⟨hx, hb, -⟩ := X
  obtain ⟨hd, rfl⟩ := one_ok hck
  simp only [step1] at hst
  split at hst <;> cases hst
  obtain ⟨w, L1, rfl, e2, hS⟩ := sJ1 hS
  obtain ⟨v, L, rfl, e1, hS⟩ := sJ1 hS
  exact lv_lsub hx hb hd (K H locs ls _ hL ⟨rvl_mkJ (v - w) (by rw [Int64.toInt_sub, e1, e2]; exact (w64_bmod _).symm), hS⟩ hH)
theorem sd_27 (X : Ctx p R s m meth c0 cc o nL G) (hck : ck1 o cc pc (27, a, b, c) = some pc') (hst : step1 (27, a, b, c) σ st h = some (σ', st', h')) (hL : LR G ls σ) (hS : SR G st Vs) (hH : HR G s h H locs) 
    (K : ∀ (H2 : Heap) (locs2 : List Loc) (ls2 : Array Slot) (Vs2 : List Value), LR G ls2 σ' → SR G st' Vs2 → HR G s h' H2 locs2 → W p l e R s m args below meth c0 H2 locs2 cells slots Q (F0 m pc' ls2 Vs2)) : W p l e R s m args below meth c0 H locs cells slots Q (F0 m pc ls Vs) := by
  obtain ⟨hx, hb, -⟩ := X
  obtain ⟨hd, rfl⟩ := one_ok hck
  simp only [step1] at hst
  split at hst <;> cases hst
  obtain ⟨w, L1, rfl, e2, hS⟩ := sJ1 hS
  obtain ⟨v, L, rfl, e1, hS⟩ := sJ1 hS
  exact lv_land hx hb hd (K H locs ls _ hL ⟨rvl_mkJ (v &&& w) (by rw [jand, ← e1, ← e2, to64, to64]), hS⟩ hH)
theorem sd_28 (X : Ctx p R s m meth c0 cc o nL G) (hck : ck1 o cc pc (28, a, b, c) = some pc') (hst : step1 (28, a, b, c) σ st h = some (σ', st', h')) (hL : LR G ls σ) (hS : SR G st Vs) (hH : HR G s h H locs) 
    (K : ∀ (H2 : Heap) (locs2 : List Loc) (ls2 : Array Slot) (Vs2 : List Value), LR G ls2 σ' → SR G st' Vs2 → HR G s h' H2 locs2 → W p l e R s m args below meth c0 H2 locs2 cells slots Q (F0 m pc' ls2 Vs2)) : W p l e R s m args below meth c0 H locs cells slots Q (F0 m pc ls Vs) := by
  obtain ⟨hx, hb, -⟩ := X
  obtain ⟨hd, rfl⟩ := one_ok hck
  simp only [step1] at hst
  split at hst <;> cases hst
  obtain ⟨w, L1, rfl, e2, hS⟩ := sJ1 hS
  obtain ⟨v, L, rfl, e1, hS⟩ := sJ1 hS
  exact lv_lor hx hb hd (K H locs ls _ hL ⟨rvl_mkJ (v ||| w) (by rw [jor, ← e1, ← e2, to64, to64]), hS⟩ hH)
theorem sd_29 (X : Ctx p R s m meth c0 cc o nL G) (hck : ck1 o cc pc (29, a, b, c) = some pc') (hst : step1 (29, a, b, c) σ st h = some (σ', st', h')) (hL : LR G ls σ) (hS : SR G st Vs) (hH : HR G s h H locs) 
    (K : ∀ (H2 : Heap) (locs2 : List Loc) (ls2 : Array Slot) (Vs2 : List Value), LR G ls2 σ' → SR G st' Vs2 → HR G s h' H2 locs2 → W p l e R s m args below meth c0 H2 locs2 cells slots Q (F0 m pc' ls2 Vs2)) : W p l e R s m args below meth c0 H locs cells slots Q (F0 m pc ls Vs) := by
  obtain ⟨hx, hb, -⟩ := X
  obtain ⟨hd, rfl⟩ := one_ok hck
  simp only [step1] at hst
  split at hst <;> cases hst
  obtain ⟨w, L1, rfl, e2, hS⟩ := sI1 hS
  obtain ⟨v, L, rfl, e1, hS⟩ := sJ1 hS
  exact lv_lshl hx hb hd rfl (K H locs ls _ hL ⟨rvl_mkJ _ (by rw [jshl, ← e1, ← e2, to64, to32]), hS⟩ hH)
theorem sd_30 (X : Ctx p R s m meth c0 cc o nL G) (hck : ck1 o cc pc (30, a, b, c) = some pc') (hst : step1 (30, a, b, c) σ st h = some (σ', st', h')) (hL : LR G ls σ) (hS : SR G st Vs) (hH : HR G s h H locs) 
    (K : ∀ (H2 : Heap) (locs2 : List Loc) (ls2 : Array Slot) (Vs2 : List Value), LR G ls2 σ' → SR G st' Vs2 → HR G s h' H2 locs2 → W p l e R s m args below meth c0 H2 locs2 cells slots Q (F0 m pc' ls2 Vs2)) : W p l e R s m args below meth c0 H locs cells slots Q (F0 m pc ls Vs) := by
  obtain ⟨hx, hb, -⟩ := X
  obtain ⟨hd, rfl⟩ := one_ok hck
  simp only [step1] at hst
  split at hst <;> cases hst
  obtain ⟨w, L1, rfl, e2, hS⟩ := sI1 hS
  obtain ⟨v, L, rfl, e1, hS⟩ := sJ1 hS
  exact lv_lshr hx hb hd rfl (K H locs ls _ hL ⟨rvl_mkJ _ (by rw [jshr, ← e1, ← e2, to64, to32]), hS⟩ hH)
theorem sd_31 (X : Ctx p R s m meth c0 cc o nL G) (hck : ck1 o cc pc (31, a, b, c) = some pc') (hst : step1 (31, a, b, c) σ st h = some (σ', st', h')) (hL : LR G ls σ) (hS : SR G st Vs) (hH : HR G s h H locs) 
    (K : ∀ (H2 : Heap) (locs2 : List Loc) (ls2 : Array Slot) (Vs2 : List Value), LR G ls2 σ' → SR G st' Vs2 → HR G s h' H2 locs2 → W p l e R s m args below meth c0 H2 locs2 cells slots Q (F0 m pc' ls2 Vs2)) : W p l e R s m args below meth c0 H locs cells slots Q (F0 m pc ls Vs) := by
  obtain ⟨hx, hb, -⟩ := X
  obtain ⟨hd, rfl⟩ := one_ok hck
  simp only [step1] at hst
  split at hst <;> cases hst
  obtain ⟨w, L1, rfl, e2, hS⟩ := sI1 hS
  obtain ⟨v, L, rfl, e1, hS⟩ := sJ1 hS
  exact lv_lushr hx hb hd rfl (K H locs ls _ hL ⟨rvl_mkJ _ (by rw [jushr, ← e1, ← e2, to64, to32]), hS⟩ hH)
theorem sd_32 (X : Ctx p R s m meth c0 cc o nL G) (hck : ck1 o cc pc (32, a, b, c) = some pc') (hst : step1 (32, a, b, c) σ st h = some (σ', st', h')) (hL : LR G ls σ) (hS : SR G st Vs) (hH : HR G s h H locs) 
    (K : ∀ (H2 : Heap) (locs2 : List Loc) (ls2 : Array Slot) (Vs2 : List Value), LR G ls2 σ' → SR G st' Vs2 → HR G s h' H2 locs2 → W p l e R s m args below meth c0 H2 locs2 cells slots Q (F0 m pc' ls2 Vs2)) : W p l e R s m args below meth c0 H locs cells slots Q (F0 m pc ls Vs) := by
  obtain ⟨hx, hb, -⟩ := X
  obtain ⟨hd, rfl⟩ := one_ok hck
  simp only [step1] at hst
  split at hst <;> cases hst
  obtain ⟨w, L1, rfl, e2, hS⟩ := sJ1 hS
  obtain ⟨v, L, rfl, e1, hS⟩ := sJ1 hS
  refine W.lcmp hx hb hd (K H locs ls _ hL ⟨rvl_mkI _ ?_, hS⟩ hH)
  unfold lg_cmp jcmp
  have q1 : (v > w) ↔ w.toInt < v.toInt := Int64.lt_iff_toInt_lt
  have q2 : (v = w) ↔ v.toInt = w.toInt := Int64.toInt_inj.symm
  rw [← e1, ← e2]
  by_cases z1 : w.toInt < v.toInt
  · rw [if_pos (q1.mpr z1), if_pos z1]; rfl
  · rw [if_neg (fun z => z1 (q1.mp z)), if_neg z1]
    by_cases z2 : v.toInt = w.toInt
    · rw [if_pos (q2.mpr z2), if_pos z2]; rfl
    · rw [if_neg (fun z => z2 (q2.mp z)), if_neg z2]; rfl
theorem sd_4 (X : Ctx p R s m meth c0 cc o nL G) (hck : ck1 o cc pc (4, a, b, c) = some pc') (hst : step1 (4, a, b, c) σ st h = some (σ', st', h')) (hL : LR G ls σ) (hS : SR G st Vs) (hH : HR G s h H locs) 
    (K : ∀ (H2 : Heap) (locs2 : List Loc) (ls2 : Array Slot) (Vs2 : List Value), LR G ls2 σ' → SR G st' Vs2 → HR G s h' H2 locs2 → W p l e R s m args below meth c0 H2 locs2 cells slots Q (F0 m pc' ls2 Vs2)) : W p l e R s m args below meth c0 H locs cells slots Q (F0 m pc ls Vs) := by
  obtain ⟨hx, hb, -⟩ := X
  simp only [step1] at hst
  split at hst <;> cases hst
  rename_i x hg
  obtain ⟨V, hV, hr⟩ := LR_get hL hg
  obtain ⟨w, rfl, ew⟩ := rvl_I hr
  rcases ldx_ok hck with ⟨k, hk, hd, rfl⟩ | ⟨hd, rfl⟩
  · exact lv_iload_n hx hb hd hk hV (K H locs ls _ hL ⟨rvl_mkI w ew, hS⟩ hH)
  · exact lv_iload hx hb hd hV (K H locs ls _ hL ⟨rvl_mkI w ew, hS⟩ hH)
theorem sd_5 (X : Ctx p R s m meth c0 cc o nL G) (hck : ck1 o cc pc (5, a, b, c) = some pc') (hst : step1 (5, a, b, c) σ st h = some (σ', st', h')) (hL : LR G ls σ) (hS : SR G st Vs) (hH : HR G s h H locs) 
    (K : ∀ (H2 : Heap) (locs2 : List Loc) (ls2 : Array Slot) (Vs2 : List Value), LR G ls2 σ' → SR G st' Vs2 → HR G s h' H2 locs2 → W p l e R s m args below meth c0 H2 locs2 cells slots Q (F0 m pc' ls2 Vs2)) : W p l e R s m args below meth c0 H locs cells slots Q (F0 m pc ls Vs) := by
  obtain ⟨hx, hb, -⟩ := X
  simp only [step1] at hst
  split at hst <;> cases hst
  rename_i x hg
  obtain ⟨V, hV, hr⟩ := LR_get hL hg
  obtain ⟨w, rfl, ew⟩ := rvl_J hr
  rcases ldx_ok hck with ⟨k, hk, hd, rfl⟩ | ⟨hd, rfl⟩
  · exact lv_lload_n hx hb hd hk hV (K H locs ls _ hL ⟨rvl_mkJ w ew, hS⟩ hH)
  · exact lv_lload hx hb hd hV (K H locs ls _ hL ⟨rvl_mkJ w ew, hS⟩ hH)
theorem sd_6 (X : Ctx p R s m meth c0 cc o nL G) (hck : ck1 o cc pc (6, a, b, c) = some pc') (hst : step1 (6, a, b, c) σ st h = some (σ', st', h')) (hL : LR G ls σ) (hS : SR G st Vs) (hH : HR G s h H locs) 
    (K : ∀ (H2 : Heap) (locs2 : List Loc) (ls2 : Array Slot) (Vs2 : List Value), LR G ls2 σ' → SR G st' Vs2 → HR G s h' H2 locs2 → W p l e R s m args below meth c0 H2 locs2 cells slots Q (F0 m pc' ls2 Vs2)) : W p l e R s m args below meth c0 H locs cells slots Q (F0 m pc ls Vs) := by
  obtain ⟨hx, hb, -⟩ := X
  simp only [step1] at hst
  split at hst <;> cases hst
  rename_i t k hg
  obtain ⟨V, hV, hr⟩ := LR_get hL hg
  obtain ⟨q, rfl⟩ := rvl_R hr
  rcases ldx_ok hck with ⟨k, hk, hd, rfl⟩ | ⟨hd, rfl⟩
  · exact lv_aload_n hx hb hd hk hV (K H locs ls _ hL ⟨hr, hS⟩ hH)
  · exact lv_aload hx hb hd hV (K H locs ls _ hL ⟨hr, hS⟩ hH)
theorem sd_7 (X : Ctx p R s m meth c0 cc o nL G) (hck : ck1 o cc pc (7, a, b, c) = some pc') (hst : step1 (7, a, b, c) σ st h = some (σ', st', h')) (hL : LR G ls σ) (hS : SR G st Vs) (hH : HR G s h H locs) 
    (K : ∀ (H2 : Heap) (locs2 : List Loc) (ls2 : Array Slot) (Vs2 : List Value), LR G ls2 σ' → SR G st' Vs2 → HR G s h' H2 locs2 → W p l e R s m args below meth c0 H2 locs2 cells slots Q (F0 m pc' ls2 Vs2)) : W p l e R s m args below meth c0 H locs cells slots Q (F0 m pc ls Vs) := by
  obtain ⟨hx, hb, -⟩ := X
  simp only [step1] at hst
  split at hst
  · rename_i x s0
    cases hs : lset σ b (aI x) with
    | none => rw [hs] at hst; cases hst
    | some r =>
      rw [hs] at hst
      cases hst
      obtain ⟨v, L, rfl, e1, hS⟩ := sI1 hS
      obtain ⟨lv, h1, h2⟩ := hL
      have hn := (lset_spec hs).1
      rcases ldx_ok hck with ⟨k, hk, hd, rfl⟩ | ⟨hd, rfl⟩
      · exact lv_istore_n hx hb hd hk h1 hn rfl (fun ls2 h3 => K H locs ls2 _ (LR_set hs h2 (fun u hu => by cases hu; exact rvl_mkI v e1) h3) hS hH)
      · exact lv_istore hx hb hd h1 hn rfl (fun ls2 h3 => K H locs ls2 _ (LR_set hs h2 (fun u hu => by cases hu; exact rvl_mkI v e1) h3) hS hH)
  · cases hst
theorem sd_8 (X : Ctx p R s m meth c0 cc o nL G) (hck : ck1 o cc pc (8, a, b, c) = some pc') (hst : step1 (8, a, b, c) σ st h = some (σ', st', h')) (hL : LR G ls σ) (hS : SR G st Vs) (hH : HR G s h H locs) 
    (K : ∀ (H2 : Heap) (locs2 : List Loc) (ls2 : Array Slot) (Vs2 : List Value), LR G ls2 σ' → SR G st' Vs2 → HR G s h' H2 locs2 → W p l e R s m args below meth c0 H2 locs2 cells slots Q (F0 m pc' ls2 Vs2)) : W p l e R s m args below meth c0 H locs cells slots Q (F0 m pc ls Vs) := by
  obtain ⟨hx, hb, -⟩ := X
  simp only [step1] at hst
  split at hst
  · rename_i x s0
    cases hs : lset2 σ b (aJ x) with
    | none => rw [hs] at hst; cases hst
    | some r =>
      rw [hs] at hst
      cases hst
      obtain ⟨v, L, rfl, e1, hS⟩ := sJ1 hS
      obtain ⟨lv, h1, h2⟩ := hL
      have hn := (lset2_spec hs).1
      rcases ldx_ok hck with ⟨k, hk, hd, rfl⟩ | ⟨hd, rfl⟩
      · exact lv_lstore_n hx hb hd hk h1 hn rfl (fun ls2 h3 => K H locs ls2 _ (LR_set2 hs h2 (fun u hu => by cases hu; exact rvl_mkJ v e1) h3) hS hH)
      · exact lv_lstore hx hb hd h1 hn rfl (fun ls2 h3 => K H locs ls2 _ (LR_set2 hs h2 (fun u hu => by cases hu; exact rvl_mkJ v e1) h3) hS hH)
  · cases hst
theorem sd_9 (X : Ctx p R s m meth c0 cc o nL G) (hck : ck1 o cc pc (9, a, b, c) = some pc') (hst : step1 (9, a, b, c) σ st h = some (σ', st', h')) (hL : LR G ls σ) (hS : SR G st Vs) (hH : HR G s h H locs) 
    (K : ∀ (H2 : Heap) (locs2 : List Loc) (ls2 : Array Slot) (Vs2 : List Value), LR G ls2 σ' → SR G st' Vs2 → HR G s h' H2 locs2 → W p l e R s m args below meth c0 H2 locs2 cells slots Q (F0 m pc' ls2 Vs2)) : W p l e R s m args below meth c0 H locs cells slots Q (F0 m pc ls Vs) := by
  obtain ⟨hx, hb, -⟩ := X
  simp only [step1] at hst
  split at hst
  · rename_i t k s0
    cases hs : lset σ b (aA t k) with
    | none => rw [hs] at hst; cases hst
    | some r =>
      rw [hs] at hst
      cases hst
      obtain ⟨q, L, rfl, e1, hS⟩ := sA hS
      obtain ⟨lv, h1, h2⟩ := hL
      have hn := (lset_spec hs).1
      rcases ldx_ok hck with ⟨k, hk, hd, rfl⟩ | ⟨hd, rfl⟩
      · exact lv_astore_n hx hb hd hk h1 hn rfl (fun ls2 h3 => K H locs ls2 _ (LR_set hs h2 (fun u hu => by cases hu; exact e1) h3) hS hH)
      · exact lv_astore hx hb hd h1 hn rfl (fun ls2 h3 => K H locs ls2 _ (LR_set hs h2 (fun u hu => by cases hu; exact e1) h3) hS hH)
  · rename_i s0
    cases hs : lset σ b none with
    | none => rw [hs] at hst; cases hst
    | some r =>
      rw [hs] at hst
      cases hst
      obtain ⟨V, L, rfl, e1, hS2⟩ := SR_cons hS
      obtain ⟨lv, h1, h2⟩ := hL
      have hn := (lset_spec hs).1
      clear hS
      rcases e1 with rfl | ⟨q, rfl⟩
      · rcases ldx_ok hck with ⟨k, hk, hd, rfl⟩ | ⟨hd, rfl⟩
        · exact lv_astore_nN hx hb hd hk h1 hn rfl (fun ls2 h3 => K H locs ls2 _ (LR_set hs h2 (fun u hu => by cases hu) h3) hS2 hH)
        · exact lv_astoreN hx hb hd h1 hn rfl (fun ls2 h3 => K H locs ls2 _ (LR_set hs h2 (fun u hu => by cases hu) h3) hS2 hH)
      · rcases ldx_ok hck with ⟨k, hk, hd, rfl⟩ | ⟨hd, rfl⟩
        · exact lv_astore_n hx hb hd hk h1 hn rfl (fun ls2 h3 => K H locs ls2 _ (LR_set hs h2 (fun u hu => by cases hu) h3) hS2 hH)
        · exact lv_astore hx hb hd h1 hn rfl (fun ls2 h3 => K H locs ls2 _ (LR_set hs h2 (fun u hu => by cases hu) h3) hS2 hH)
  · cases hst
theorem sd_10 (X : Ctx p R s m meth c0 cc o nL G) (hck : ck1 o cc pc (10, a, b, c) = some pc') (hst : step1 (10, a, b, c) σ st h = some (σ', st', h')) (hL : LR G ls σ) (hS : SR G st Vs) (hH : HR G s h H locs) 
    (K : ∀ (H2 : Heap) (locs2 : List Loc) (ls2 : Array Slot) (Vs2 : List Value), LR G ls2 σ' → SR G st' Vs2 → HR G s h' H2 locs2 → W p l e R s m args below meth c0 H2 locs2 cells slots Q (F0 m pc' ls2 Vs2)) : W p l e R s m args below meth c0 H locs cells slots Q (F0 m pc ls Vs) := by
  obtain ⟨hx, hb, -⟩ := X
  obtain ⟨hd, rfl⟩ := one_ok hck
  simp only [step1] at hst
  split at hst
  · rename_i x hg
    cases hs : lset σ b (aI (w32 (x + a))) with
    | none => rw [hs] at hst; cases hst
    | some r =>
      rw [hs] at hst
      cases hst
      obtain ⟨lv, h1, h2⟩ := hL
      have hn := (lset_spec hs).1
      obtain ⟨V, hV, hr⟩ := h2 b _ (lget_get hg)
      obtain ⟨w, rfl, ew⟩ := rvl_I hr
      obtain ⟨k, hk⟩ := List.getElem?_of_mem hV
      refine lv_iinc hx hb hd h1 hk rfl hn rfl (fun ls2 h3 => K H locs ls2 _ (LR_set hs h2 (fun u hu => by cases hu; exact rvl_mkI _ (by rw [Int32.toInt_add, Int32.toInt_ofInt, ew, Int.add_bmod_bmod]; exact (w32_bmod _).symm)) h3) hS hH)
  · cases hst
theorem sd_1 (X : Ctx p R s m meth c0 cc o nL G) (hck : ck1 o cc pc (1, a, b, c) = some pc') (hst : step1 (1, a, b, c) σ st h = some (σ', st', h')) (hL : LR G ls σ) (hS : SR G st Vs) (hH : HR G s h H locs) 
    (K : ∀ (H2 : Heap) (locs2 : List Loc) (ls2 : Array Slot) (Vs2 : List Value), LR G ls2 σ' → SR G st' Vs2 → HR G s h' H2 locs2 → W p l e R s m args below meth c0 H2 locs2 cells slots Q (F0 m pc' ls2 Vs2)) : W p l e R s m args below meth c0 H locs cells slots Q (F0 m pc ls Vs) := by
  obtain ⟨hx, hb, hown, hg, -⟩ := X
  simp only [step1] at hst
  cases hst
  simp only [ck1] at hck
  split at hck
  · obtain ⟨q, rfl⟩ := ifo_ok hck
    rename_i n hd
    exact lv_iconst hx hb (dk_ok hd) rfl (K H locs ls _ hL ⟨rvl_mkI _ (by simpa using q), hS⟩ hH)
  · obtain ⟨q, rfl⟩ := ifo_ok hck
    rename_i n hd
    exact lv_bipush hx hb (dk_ok hd) rfl (K H locs ls _ hL ⟨rvl_mkI _ (by simpa using q), hS⟩ hH)
  · obtain ⟨q, rfl⟩ := ifo_ok hck
    rename_i n hd
    exact lv_sipush hx hb (dk_ok hd) rfl (K H locs ls _ hL ⟨rvl_mkI _ (by simpa using q), hS⟩ hH)
  · obtain ⟨q, rfl⟩ := ifo_ok hck
    rename_i n hd
    simp only [Bool.and_eq_true, decide_eq_true_eq, beq_iff_eq] at q
    have w := kik_ok q.1.2
    simp only [kiQ] at w
    rw [show (o * 10000 + n) / 10000 = o by omega, show (o * 10000 + n) % 10000 = n by omega] at w
    exact lv_ldc hx hb hown (hg.at w rfl args) (dk_ok hd) (K H locs ls _ hL ⟨rvl_mkI _ (of32 q.2), hS⟩ hH)
  · obtain ⟨q, rfl⟩ := ifo_ok hck
    rename_i n hd
    simp only [Bool.and_eq_true, decide_eq_true_eq, beq_iff_eq] at q
    have w := kik_ok q.1.2
    simp only [kiQ] at w
    rw [show (o * 10000 + n) / 10000 = o by omega, show (o * 10000 + n) % 10000 = n by omega] at w
    exact lv_ldcw hx hb hown (hg.at w rfl args) (dk_ok hd) (K H locs ls _ hL ⟨rvl_mkI _ (of32 q.2), hS⟩ hH)
  · cases hck
theorem sd_2 (X : Ctx p R s m meth c0 cc o nL G) (hck : ck1 o cc pc (2, a, b, c) = some pc') (hst : step1 (2, a, b, c) σ st h = some (σ', st', h')) (hL : LR G ls σ) (hS : SR G st Vs) (hH : HR G s h H locs) 
    (K : ∀ (H2 : Heap) (locs2 : List Loc) (ls2 : Array Slot) (Vs2 : List Value), LR G ls2 σ' → SR G st' Vs2 → HR G s h' H2 locs2 → W p l e R s m args below meth c0 H2 locs2 cells slots Q (F0 m pc' ls2 Vs2)) : W p l e R s m args below meth c0 H locs cells slots Q (F0 m pc ls Vs) := by
  obtain ⟨hx, hb, hown, hg, -⟩ := X
  simp only [step1] at hst
  cases hst
  simp only [ck1] at hck
  split at hck
  · obtain ⟨q, rfl⟩ := ifo_ok hck
    rename_i n hd
    exact lv_lconst hx hb (dk_ok hd) rfl (K H locs ls _ hL ⟨rvl_mkJ _ (by simpa using q), hS⟩ hH)
  · obtain ⟨q, rfl⟩ := ifo_ok hck
    rename_i n hd
    simp only [Bool.and_eq_true, decide_eq_true_eq, beq_iff_eq] at q
    have w := kjk_ok q.1.2
    simp only [kjQ] at w
    rw [show (o * 10000 + n) / 10000 = o by omega, show (o * 10000 + n) % 10000 = n by omega] at w
    exact lv_ldc2 hx hb hown (hg.at w rfl args) (dk_ok hd) (K H locs ls _ hL ⟨rvl_mkJ _ (of64 q.2), hS⟩ hH)
  · cases hck
theorem sd_3 (X : Ctx p R s m meth c0 cc o nL G) (hck : ck1 o cc pc (3, a, b, c) = some pc') (hst : step1 (3, a, b, c) σ st h = some (σ', st', h')) (hL : LR G ls σ) (hS : SR G st Vs) (hH : HR G s h H locs) 
    (K : ∀ (H2 : Heap) (locs2 : List Loc) (ls2 : Array Slot) (Vs2 : List Value), LR G ls2 σ' → SR G st' Vs2 → HR G s h' H2 locs2 → W p l e R s m args below meth c0 H2 locs2 cells slots Q (F0 m pc' ls2 Vs2)) : W p l e R s m args below meth c0 H locs cells slots Q (F0 m pc ls Vs) := by
  obtain ⟨hx, hb, hown, hg, hO, -⟩ := X
  simp only [step1] at hst
  cases hst
  simp only [ck1] at hck
  split at hck
  · obtain ⟨q, rfl⟩ := ifo_ok hck
    rename_i n hd
    simp only [Bool.and_eq_true, decide_eq_true_eq, beq_iff_eq] at q
    have w := hO.2.1 _ _ q.1.2
    rw [show (o * 10000 + n) / 10000 = o by omega, show (o * 10000 + n) % 10000 = n by omega] at w
    exact va_ldcS hx hb hown w (dk_ok hd) (K H locs ls _ hL ⟨⟨q.2, rfl⟩, hS⟩ hH)
  · cases hck
theorem sd_47 (X : Ctx p R s m meth c0 cc o nL G) (hck : ck1 o cc pc (47, a, b, c) = some pc') (hst : step1 (47, a, b, c) σ st h = some (σ', st', h')) (hL : LR G ls σ) (hS : SR G st Vs) (hH : HR G s h H locs) 
    (K : ∀ (H2 : Heap) (locs2 : List Loc) (ls2 : Array Slot) (Vs2 : List Value), LR G ls2 σ' → SR G st' Vs2 → HR G s h' H2 locs2 → W p l e R s m args below meth c0 H2 locs2 cells slots Q (F0 m pc' ls2 Vs2)) : W p l e R s m args below meth c0 H locs cells slots Q (F0 m pc ls Vs) := by
  obtain ⟨hx, hb, -⟩ := X
  obtain ⟨hd, rfl⟩ := one_ok hck
  simp only [step1] at hst
  split at hst
  · cases hst
    obtain ⟨v, L, rfl, e1, hS⟩ := sI1 hS
    exact lv_dup hx hb hd rfl (K H locs ls _ hL ⟨rvl_mkI v e1, rvl_mkI v e1, hS⟩ hH)
  · cases hst
    obtain ⟨q, L, rfl, e1, hS⟩ := sA hS
    exact lv_dup hx hb hd rfl (K H locs ls _ hL ⟨e1, e1, hS⟩ hH)
  · cases hst
theorem sd_48 (X : Ctx p R s m meth c0 cc o nL G) (hck : ck1 o cc pc (48, a, b, c) = some pc') (hst : step1 (48, a, b, c) σ st h = some (σ', st', h')) (hL : LR G ls σ) (hS : SR G st Vs) (hH : HR G s h H locs) 
    (K : ∀ (H2 : Heap) (locs2 : List Loc) (ls2 : Array Slot) (Vs2 : List Value), LR G ls2 σ' → SR G st' Vs2 → HR G s h' H2 locs2 → W p l e R s m args below meth c0 H2 locs2 cells slots Q (F0 m pc' ls2 Vs2)) : W p l e R s m args below meth c0 H locs cells slots Q (F0 m pc ls Vs) := by
  obtain ⟨hx, hb, -⟩ := X
  obtain ⟨hd, rfl⟩ := one_ok hck
  simp only [step1] at hst
  split at hst
  · cases hst
    obtain ⟨v, L1, rfl, e1, hS⟩ := sI1 hS
    obtain ⟨q, L, rfl, e2, hS⟩ := sA hS
    exact lv_dup2_11 hx hb hd rfl rfl (K H locs ls _ hL ⟨rvl_mkI v e1, e2, rvl_mkI v e1, e2, hS⟩ hH)
  · cases hst
theorem sd_49 (X : Ctx p R s m meth c0 cc o nL G) (hck : ck1 o cc pc (49, a, b, c) = some pc') (hst : step1 (49, a, b, c) σ st h = some (σ', st', h')) (hL : LR G ls σ) (hS : SR G st Vs) (hH : HR G s h H locs) 
    (K : ∀ (H2 : Heap) (locs2 : List Loc) (ls2 : Array Slot) (Vs2 : List Value), LR G ls2 σ' → SR G st' Vs2 → HR G s h' H2 locs2 → W p l e R s m args below meth c0 H2 locs2 cells slots Q (F0 m pc' ls2 Vs2)) : W p l e R s m args below meth c0 H locs cells slots Q (F0 m pc ls Vs) := by
  obtain ⟨hx, hb, -⟩ := X
  obtain ⟨hd, rfl⟩ := one_ok hck
  simp only [step1] at hst
  split at hst
  · cases hst
    obtain ⟨v, L1, rfl, e1, hS⟩ := sI1 hS
    exact lv_pop hx hb hd rfl (K H locs ls _ hL hS hH)
  · cases hst
theorem sd_52 (X : Ctx p R s m meth c0 cc o nL G) (hck : ck1 o cc pc (52, a, b, c) = some pc') (hst : step1 (52, a, b, c) σ st h = some (σ', st', h')) (hL : LR G ls σ) (hS : SR G st Vs) (hH : HR G s h H locs) 
    (K : ∀ (H2 : Heap) (locs2 : List Loc) (ls2 : Array Slot) (Vs2 : List Value), LR G ls2 σ' → SR G st' Vs2 → HR G s h' H2 locs2 → W p l e R s m args below meth c0 H2 locs2 cells slots Q (F0 m pc' ls2 Vs2)) : W p l e R s m args below meth c0 H locs cells slots Q (F0 m pc ls Vs) := by
  obtain ⟨hx, hb, -⟩ := X
  obtain ⟨hd, rfl⟩ := one_ok hck
  simp only [step1] at hst
  split at hst <;> cases hst
  obtain ⟨v, L, rfl, e1, hS⟩ := sI1 hS
  refine lv_i2c hx hb hd rfl (K H locs ls _ hL ⟨rvl_mkI _ ?_, hS⟩ hH)
  rw [pk_char, nI_toInt (by omega), ← e1]
  show (↑(v.toBitVec.toNat % 65536) : Int) = v.toBitVec.toInt % 65536
  rw [BitVec.toInt_eq_toNat_cond]
  have := v.toBitVec.isLt
  split <;> omega
end Snd
