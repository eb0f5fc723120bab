/-! THE CONTRACT OF EVERY METHOD. -/
def nT (L : List AC) : Bool := L.all (fun i => decide (i.1 < 79) || (decide (81 < i.1) && decide (i.1 ≠ 84)))
theorem ctl_end {i : AC} {st : List AV} {h : Hp} {r : Rs} (h84 : i.1 ≠ 84) (hc : ctl i st h = some (.inr (.inr (.inr (some r))))) : ∃ v, r.1 = .inl v := by
  obtain ⟨n, a, b, c⟩ := i
  unfold ctl at hc
  split at hc
  all_goals
    (try (repeat' split at hc))
    all_goals first
      | (cases hc; exact ⟨_, rfl⟩)
      | (cases hc; done)
      | (exfalso; apply h84; simp_all; done)
      | (exfalso; simp only [Option.bind_eq_some_iff] at hc; obtain ⟨q, -, hq⟩ := hc; split at hq <;> cases hq)
theorem ctl_call {i : AC} {st : List AV} {h : Hp} {q : Nat × List AV × List AV × Option (List (Nat × Nat))} (hc : ctl i st h = some (.inr (.inr (.inl q)))) : 79 ≤ i.1 ∧ i.1 ≤ 81 := by
  obtain ⟨n, a, b, c⟩ := i
  unfold ctl at hc
  split at hc
  all_goals
    (try (repeat' split at hc))
    all_goals first
      | (cases hc; done)
      | (rename_i heq; simp only [Prod.mk.injEq] at heq; obtain ⟨rfl, -⟩ := heq; exact ⟨Nat.le_of_ble_eq_true rfl, Nat.le_of_ble_eq_true rfl⟩)
theorem ex_noT {E : Nat → List AV → List AV → Hp → Option Rs} {C : Nat → List AV → Hp → Option Rs} (hE : ∀ b σ st h r, E b σ st h = some r → ∃ v, r.1 = .inl v) : ∀ (L : List AC) (σ st : List AV) (h : Hp) (r : Rs), nT L = true → ex E C L σ st h = some r → ∃ v, r.1 = .inl v := by
  intro L
  induction L with
  | nil => intro σ st h r _ hx; cases hx
  | cons i L ih =>
    intro σ st h r hn hx
    have hn1 : (decide (i.1 < 79) || (decide (81 < i.1) && decide (i.1 ≠ 84))) = true := List.all_eq_true.mp hn i List.mem_cons_self
    have hn2 : nT L = true := List.all_eq_true.mpr (fun q hq => List.all_eq_true.mp hn q (List.mem_cons_of_mem _ hq))
    simp only [Bool.or_eq_true, Bool.and_eq_true, decide_eq_true_eq] at hn1
    unfold ex at hx
    split at hx
    · cases hs : step1 i σ st h with
      | none => rw [hs] at hx; cases hx
      | some q => rw [hs] at hx; exact ih _ _ _ _ hn2 hx
    · match hc : ctl i st h, hx with
      | none, hx => cases hx
      | some (.inl (b, s)), hx => exact hE _ _ _ _ _ hx
      | some (.inr (.inl s)), hx => exact ih _ _ _ _ hn2 hx
      | some (.inr (.inr (.inl q))), hx => have := ctl_call hc; omega
      | some (.inr (.inr (.inr (some rr)))), hx => cases hx; exact ctl_end (by omega) hc
      | some (.inr (.inr (.inr none))), hx => cases hx
theorem nT_153 : (cdOf 153).all (fun q => nT q.2) = true := by decide +kernel
theorem rn_153 {C : Nat → List AV → Hp → Option Rs} : ∀ (n pc : Nat) (σ st : List AV) (h : Hp) (r : Rs), rn C 153 n pc σ st h = some r → ∃ v, r.1 = .inl v := by
  intro n
  induction n with
  | zero => intro pc σ st h r hr; cases hr
  | succ n ih =>
    intro pc σ st h r hr
    exact ex_noT (fun b σ st h r hb => ih b σ st h r hb) (codeAt 153 pc) σ st h r (lkp_all (P := fun _ L => nT L = true) rfl (fun q hq => List.all_eq_true.mp nT_153 q hq)) hr
theorem cl_153 {lv : Nat} {as : List AV} {h : Hp} {r : Rs} (hc : cl lv 153 as h = some r) : ∃ ov, r.1 = .inl ov := by
  cases lv with
  | zero => cases hc
  | succ lv =>
    have hc : (if (lay as).length ≤ mLoc 153 then rnL (cl lv) 153 0 (ini (mLoc 153) as) [] h else none) = some r := hc
    split at hc
    · obtain ⟨n, hn⟩ := rnL_to hc
      exact rn_153 n _ _ _ _ _ hn
    · cases hc
theorem of_any {l : Launch} {mm : Nat} {rm : Room} {Pc : Array Value → State → Prop} {Qc : Array Value → State → Outcome → State → Prop} {XC : String → State → State → Prop} {mc ms : Nat} {free : Addr → Prop} (hm : mm < 368)
    (body : ∀ p e s m args below meth c s₁, BodyLoose p l (mY mm) (headSpec (wsM mm) rm) (mCode mm) (mLoc mm) (mRet mm) e s m args below meth c s₁ → c.maxLocals = mLoc mm → c.exceptionTable.toList = tableOf (mHh mm) → Pc args s →
      W p l e (headSpec (wsM mm) rm).room s m args below meth c s.heap [] 0 0 (vx_MQ below Qc XC args s mc ms free) (entryFrame m args (mLoc mm))) : vx_Met l (mY mm) (wsM mm) rm Pc Qc XC mc ms free := by
  obtain ⟨-, -, -, -, hpl⟩ := mok_all mm hm
  by_cases hh : mHh mm = []
  · have hw : wsM mm = [Cond.code (mY mm) (mCode mm) (mLoc mm) (mRet mm)] := by unfold wsM; rw [if_pos hh]
    refine MetFree.of_bodySF (code := mCode mm) (maxLocals := mLoc mm) (ret := mRet mm) hpl ?_ ?_
    · intro args s m h hn
      obtain ⟨meth, c, h1, h2, h3, h4, h5, h6, -, -⟩ := Cond.code_spec hn (atoms_spec (ws := wsM mm) h _ (by rw [hw]; exact List.mem_cons_self))
      exact ⟨meth, c, h1, h2, h3, h4, h5, h6⟩
    · intro p e s m args below meth c s₁ B hml hP _
      have hh0 : s₁.heap = s.heap := by rw [B.state]; rfl
      have ht : c.exceptionTable.toList = tableOf (mHh mm) := by
        obtain ⟨meth9, c9, h1, h2, -, -, -, -, h7, -⟩ := Cond.code_spec B.named (atoms_spec (ws := wsM mm) B.pre _ (by rw [hw]; exact List.mem_cons_self))
        cases Option.some.inj (h1.symm.trans B.method)
        cases Option.some.inj (h2.symm.trans (Stand.of_body B).code)
        rw [Array.isEmpty_iff.mp h7, hh]; rfl
      obtain ⟨t, a1, o, b1, b2, b3⟩ := body p e s m args below meth c s₁ B hml ht hP s₁ hh0 (Stand.of_body B)
      exact ⟨t, o, a1, b1, b2, b3⟩
  · have hw : wsM mm = [Cond.codeWith (mY mm) (mCode mm) (mLoc mm) (mRet mm) (mHh mm)] := by unfold wsM; rw [if_neg hh]
    refine MetFree.of_bodySF (code := mCode mm) (maxLocals := mLoc mm) (ret := mRet mm) hpl ?_ ?_
    · intro args s m h hn
      obtain ⟨m9, meth, c, hn9, h1, h2, h3, h4, -, h5, h6, -⟩ := Cond.codeWith_spec (atoms_spec (ws := wsM mm) h _ (by rw [hw]; exact List.mem_cons_self))
      cases hn.symm.trans hn9
      exact ⟨meth, c, h1, h2, h3, h4, h5, h6⟩
    · intro p e s m args below meth c s₁ B hml hP _
      have hh0 : s₁.heap = s.heap := by rw [B.state]; rfl
      have ht : c.exceptionTable.toList = tableOf (mHh mm) := vx_table (x := mY mm) B (atoms_spec (ws := wsM mm) B.pre _ (by rw [hw]; exact List.mem_cons_self))
      obtain ⟨t, a1, o, b1, b2, b3⟩ := body p e s m args below meth c s₁ B hml ht hP s₁ hh0 (Stand.of_body B)
      exact ⟨t, o, a1, b1, b2, b3⟩
theorem LR_args {G : WG} : ∀ {as : List AV} {Vs : List Value} (i0 : Nat), SR G as Vs → ∀ (i : Nat) (v : Int ⊕ Int ⊕ (Nat × Nat)), (lay as)[i]? = some (some v) → ∃ V, (i0 + i, V) ∈ lv_args i0 Vs ∧ rvl G (some v) V := by
  intro as
  induction as with
  | nil => intro Vs i0 _ i v h; cases h
  | cons v0 as ih =>
    intro Vs i0 hS i v h
    obtain ⟨V0, L, rfl, h1, h2⟩ := SR_cons hS
    have hcat := rvl_cat h1
    have h : (if isJ v0 then v0 :: none :: lay as else v0 :: lay as)[i]? = some (some v) := h
    by_cases hj : isJ v0 = true
    · rw [if_pos hj] at h hcat
      have ea : lv_args i0 (V0 :: L) = (i0, V0) :: lv_args (i0 + 2) L := by simp only [lv_args, hcat, if_true]
      rw [ea]
      match i, h with
      | 0, h => cases h; exact ⟨V0, List.mem_cons_self, h1⟩
      | 1, h => cases h
      | i + 2, h =>
        obtain ⟨V, g1, g2⟩ := ih (i0 + 2) h2 i v h
        exact ⟨V, List.mem_cons_of_mem _ (by rw [show i0 + (i + 2) = i0 + 2 + i by omega]; exact g1), g2⟩
    · rw [if_neg hj] at h hcat
      have ea : lv_args i0 (V0 :: L) = (i0, V0) :: lv_args (i0 + 1) L := by simp only [lv_args, hcat]; rfl
      rw [ea]
      match i, h with
      | 0, h => cases h; exact ⟨V0, List.mem_cons_self, h1⟩
      | i + 1, h =>
        obtain ⟨V, g1, g2⟩ := ih (i0 + 1) h2 i v h
        exact ⟨V, List.mem_cons_of_mem _ (by rw [show i0 + (i + 1) = i0 + 1 + i by omega]; exact g1), g2⟩
theorem lay_len {G : WG} : ∀ {as : List AV} {Vs : List Value}, SR G as Vs → (lg_sl Vs).length = (lay as).length := by
  intro as
  induction as with
  | nil => intro Vs h; rw [SR_nil h]; rfl
  | cons v0 as ih =>
    intro Vs hS
    obtain ⟨V0, L, rfl, h1, h2⟩ := SR_cons hS
    have hcat := rvl_cat h1
    have := ih h2
    unfold lg_sl at this ⊢
    rw [List.flatMap_cons, List.length_append, this]
    show _ = (if isJ v0 then v0 :: none :: lay as else v0 :: lay as).length
    by_cases hj : isJ v0 = true
    · rw [if_pos hj] at hcat ⊢
      rw [hcat]
      simp only [if_true, List.length_cons, List.length_nil]
      omega
    · rw [if_neg hj] at hcat ⊢
      rw [hcat, if_neg (by decide)]
      simp only [List.length_cons, List.length_nil]
      omega
theorem ini_len {n : Nat} {as : List AV} (hn : (lay as).length ≤ n) : (ini n as).length = n := by
  unfold ini
  rw [List.length_append, List.length_replicate]
  omega
theorem LR_entry {G : WG} {as : List AV} {Vs : List Value} {n : Nat} (h : SR G as Vs) (hn : (lay as).length ≤ n) : LR G ((lg_sl Vs ++ List.replicate (n - (lg_sl Vs).length) Slot.unset).toArray) (ini n as) := by
  refine ⟨lv_args 0 Vs, ?_, fun i v hi => ?_⟩
  · rw [ini_len hn]
    exact lv_entry Vs (by rw [lay_len h]; exact hn)
  · unfold ini at hi
    by_cases hl : i < (lay as).length
    · rw [List.getElem?_append_left hl] at hi
      obtain ⟨V, g1, g2⟩ := LR_args 0 h i v hi
      exact ⟨V, by rw [Nat.zero_add] at g1; exact g1, g2⟩
    · rw [List.getElem?_append_right (by omega), List.getElem?_replicate] at hi
      split at hi <;> cases hi
section All
variable {p : Program} {l : Launch} {e : Env} {R : Room} {s : State} {m : MethodId} {args : Array Value} {below : List Frame} {meth : Method} {c0 : Code} {Q : State → Prop} {nL : Nat} {G : WG}
theorem rn_ok {mm lv : Nat} {R0 : Rs} (X : Ctx p R s m meth c0 (mCode mm) (mOwn mm) nL G) (hmm : mm < 369)
    (hC : ∀ (b : Nat) (as : List AV) (h : Hp) (r : Rs), b < 368 → cl lv b as h = some r → CM l G lv b as h r)
    (hR : 11 + lv ≤ R.frames ∧ 560 + 60 * lv ≤ R.locals) (hcap : R0.2.2 ≤ R.cells ∧ 6 * R0.2.2 ≤ R.slots)
    (htb : c0.exceptionTable.toList = tableOf (mHh mm))
    (KE : ∀ (i : AC) (pc pc' : Nat) (st : List AV) (h : Hp) (Vs : List Value) (ls : Array Slot) (H : Heap) (locs : List Loc) (c : Nat) (r : Rs), 82 ≤ i.1 → i.1 ≤ 88 → ckK mm (mOwn mm) (mCode mm) pc i = some pc' → ctl i st h = some (cend (some r)) → ls.size = nL → SR G st Vs → HR G s h H locs → fits R0 c r → W p l e R s m args below meth c0 H locs c (6 * c) Q (F0 m pc ls Vs))
    (KX : ∀ (x : Nat) (ce : Cell) (q : Addr) (H1 : Heap) (locs1 : List Loc) (pc : Nat) (ls : Array Slot) (rest : List Value) (h : Hp) (c : Nat), mHh mm = [] → x < 5 → R0 = (.inr x, h, c) → HR G s h H1 locs1 → H1[q]? = some ce → ce.vm = .none → s.vm.findClass (exT.getD x "") = some ce.cls → vx_W p l e R s m args below meth c0 H1 locs1 c (6 * c) Q (F0 m pc ls rest) q) :
    ∀ (n pc : Nat) (σ st : List AV) (h : Hp) (r : Rs), rn (cl lv) mm n pc σ st h = some r → ∀ (ls : Array Slot) (Vs : List Value) (H : Heap) (locs : List Loc) (c : Nat), nL = σ.length → LR G ls σ → SR G st Vs → HR G s h H locs → fits R0 c r → W p l e R s m args below meth c0 H locs c (6 * c) Q (F0 m pc ls Vs) := by
  intro n
  induction n with
  | zero => intro pc σ st h r hr; cases hr
  | succ n ih =>
    intro pc σ st h r hr
    exact ex_ok X hC (fun _ _ _ hq => cl_153 hq) hR hcap htb KE KX (fun b σ st h r hb => ih b σ st h r hb) (codeAt mm pc) pc σ st h r (ck_at hmm pc) hr
theorem fits_eq {R0 r : Rs} {c : Nat} (h : fits R0 c r) : R0 = (r.1, r.2.1, c + r.2.2) := by
  obtain ⟨h1, h2, h3⟩ := h
  obtain ⟨a, b, d⟩ := R0
  simp only at h1 h2 h3
  rw [h1, h2, h3]
/-- the ends of a method -/
theorem end_ok {mm : Nat} {R0 : Rs} (X : Ctx p R s m meth c0 (mCode mm) (mOwn mm) nL G) (hl : l.stackTraces = false) (hret : meth.sig.returnType = mRet mm) (htb : c0.exceptionTable.toList = tableOf (mHh mm)) (hcap : R0.2.2 ≤ R.cells ∧ 6 * R0.2.2 ≤ R.slots)
    (i : AC) (pc pc' : Nat) (st : List AV) (h : Hp) (Vs : List Value) (ls : Array Slot) (H : Heap) (locs : List Loc) (c : Nat) (r : Rs) (h1 : 82 ≤ i.1) (h2 : i.1 ≤ 88) (hk : ckK mm (mOwn mm) (mCode mm) pc i = some pc') (hct : ctl i st h = some (cend (some r))) (hls : ls.size = nL) (hS : SR G st Vs) (hH : HR G s h H locs) (hf : fits R0 c r) :
    W p l e R s m args below meth c0 H locs c (6 * c) (vx_MQ below (QcM G R0) (XCM G R0) args s R0.2.2 (6 * R0.2.2) (gA G)) (F0 m pc ls Vs) := by
  have hR0 := fits_eq hf
  obtain ⟨n, a, b, c'⟩ := i
  have : n = 82 ∨ n = 83 ∨ n = 84 ∨ n = 85 ∨ n = 86 ∨ n = 87 ∨ n = 88 := by simp only at h1 h2; omega
  rcases this with rfl | rfl | rfl | rfl | rfl | rfl | rfl
  · obtain ⟨hk1, -⟩ := ifo_ok (show ifo (decide (dk (mCode mm) pc = some (.ireturn, 1)) && decide (mRet mm = some .int)) pc = some pc' from hk)
    simp only [Bool.and_eq_true, decide_eq_true_eq] at hk1
    simp only [ctl] at hct
    split at hct
    · cases hct
      obtain ⟨v, L, rfl, e1, e2⟩ := sI1 hS
      rw [SR_nil e2]
      exact sr_I X (dk_ok hk1.1) hret .int hk1.2 rfl hH (rvl_mkI v e1) hR0 rfl
    · cases hct
  · obtain ⟨hk1, -⟩ := ifo_ok (show ifo (decide (dk (mCode mm) pc = some (.return_, 1)) && decide (mRet mm = none)) pc = some pc' from hk)
    simp only [Bool.and_eq_true, decide_eq_true_eq] at hk1
    simp only [ctl] at hct
    split at hct
    · cases hct
      rw [SR_nil hS]
      exact sr_N X (dk_ok hk1.1) hret hk1.2 hH hR0 rfl
    · cases hct
  · obtain ⟨hk1, -⟩ := ifo_ok (show ifo (ckT (mCode mm) pc b && decide (mOwn mm = 11) && (mHh mm).isEmpty) pc = some pc' from hk)
    simp only [Bool.and_eq_true, decide_eq_true_eq, List.isEmpty_iff] at hk1
    obtain ⟨⟨k1, k2⟩, k3⟩ := hk1
    simp only [ctl] at hct
    split at hct
    · rename_i hw
      cases hct
      rw [k2] at X
      rw [k3] at htb
      rw [hR0] at hcap
      exact sr_T X k1 htb hl hls hw hS hH hR0 rfl (by have := hcap.1; exact this) (by have := hcap.2; exact this)
    · cases hct
  · obtain ⟨hk1, -⟩ := ifo_ok (show ifo (decide (dk (mCode mm) pc = some (.ireturn, 1)) && decide (mRet mm = some .boolean)) pc = some pc' from hk)
    simp only [Bool.and_eq_true, decide_eq_true_eq] at hk1
    simp only [ctl] at hct
    split at hct
    · split at hct
      · rename_i hx
        cases hct
        obtain ⟨v, L, rfl, e1, e2⟩ := sI1 hS
        rw [SR_nil e2]
        exact sr_I X (dk_ok hk1.1) hret .boolean hk1.2 (nar_Z (by rw [e1]; exact hx)) hH (rvl_mkI v e1) hR0 rfl
      · cases hct
    · cases hct
  · obtain ⟨hk1, -⟩ := ifo_ok (show ifo (decide (dk (mCode mm) pc = some (.ireturn, 1)) && decide (mRet mm = some .char)) pc = some pc' from hk)
    simp only [Bool.and_eq_true, decide_eq_true_eq] at hk1
    simp only [ctl] at hct
    split at hct
    · split at hct
      · rename_i hx
        cases hct
        obtain ⟨v, L, rfl, e1, e2⟩ := sI1 hS
        rw [SR_nil e2]
        exact sr_I X (dk_ok hk1.1) hret .char hk1.2 (nar_C (by rw [e1]; exact hx.1) (by rw [e1]; exact hx.2)) hH (rvl_mkI v e1) hR0 rfl
      · cases hct
    · cases hct
  · obtain ⟨hk1, -⟩ := ifo_ok (show ifo (decide (dk (mCode mm) pc = some (.ireturn, 1)) && decide (mRet mm = some .byte)) pc = some pc' from hk)
    simp only [Bool.and_eq_true, decide_eq_true_eq] at hk1
    simp only [ctl] at hct
    split at hct
    · split at hct
      · rename_i hx
        cases hct
        obtain ⟨v, L, rfl, e1, e2⟩ := sI1 hS
        rw [SR_nil e2]
        exact sr_I X (dk_ok hk1.1) hret .byte hk1.2 (nar_B (by rw [e1]; exact hx.1) (by rw [e1]; exact hx.2)) hH (rvl_mkI v e1) hR0 rfl
      · cases hct
    · cases hct
  · obtain ⟨hk1, -⟩ := ifo_ok (show ifo (decide (dk (mCode mm) pc = some (.lreturn, 1)) && decide (mRet mm = some .long)) pc = some pc' from hk)
    simp only [Bool.and_eq_true, decide_eq_true_eq] at hk1
    simp only [ctl] at hct
    split at hct
    · cases hct
      obtain ⟨v, L, rfl, e1, e2⟩ := sJ1 hS
      rw [SR_nil e2]
      exact sr_J X (dk_ok hk1.1) hret hk1.2 hH (rvl_mkJ v e1) hR0 rfl
    · cases hct
theorem cm_ok (hl : l.stackTraces = false) (G : WG) : ∀ (lv mm : Nat) (as : List AV) (h : Hp) (r : Rs), mm < 368 → cl lv mm as h = some r → CM l G lv mm as h r := by
  intro lv
  induction lv with
  | zero => intro m as h r _ hc; cases hc
  | succ lv ih =>
    intro mm as h r hm hc
    have hc : (if (lay as).length ≤ mLoc mm then rnL (cl lv) mm 0 (ini (mLoc mm) as) [] h else none) = some r := hc
    by_cases hlen : (lay as).length ≤ mLoc mm
    · rw [if_pos hlen] at hc
      obtain ⟨n, hn⟩ := rnL_to hc
      refine of_any hm (fun p e s m args below meth c s₁ B hml ht hP => ?_)
      obtain ⟨⟨Vs, rfl, hA⟩, hg, hO, hK, hPp, hV⟩ := hP
      have X : Ctx p (headSpec (wsM mm) (rmL (lv + 1) r.2.2)).room s m meth c (mCode mm) (mOwn mm) (mLoc mm) G := ⟨B.exec, B.bytes, findClass_of_methodNamed B.named, hg, hO, hml, by show 8 ≤ 10 + (lv + 1); omega, by show 400 ≤ 500 + 60 * (lv + 1); omega, B.notSynchronized⟩
      rw [lg_entry_eq]
      refine rn_ok (lv := lv) (R0 := r) X (by omega) ih ⟨by show 11 + lv ≤ 10 + (lv + 1); omega, by show 560 + 60 * lv ≤ 500 + 60 * (lv + 1); omega⟩ ⟨Nat.le_refl _, Nat.le_refl _⟩ ht (fun i pc pc' st h Vs ls H locs c r' => end_ok X hl B.returns ht ⟨Nat.le_refl _, Nat.le_refl _⟩ i pc pc' st h Vs ls H locs c r') ?_ n 0 _ [] h r hn _ [] s.heap [] 0 (ini_len hlen).symm (LR_entry hA hlen) trivial ⟨hK, hPp, ⟨Nat.le_refl _, fun _ _ _ => rfl, fun _ h => nomatch h⟩, hV⟩ ⟨rfl, rfl, Nat.zero_add _⟩
      intro x ce q H1 locs1 pc ls rest h' c' hh hx5 hr0 hH1 hce hcv hcl
      rw [hh] at ht
      subst hr0
      exact vx_out (fun z hz => by rw [ht] at hz; cases hz) B.notSynchronized hce hcv hcl (fun t ht' hal => ⟨⟨x, rfl, hx5, rfl⟩, by rw [ht']; exact hH1.2.1, hH1.2.2.2, by rw [va_F, ht']; exact ⟨hH1.2.2.1.1, hH1.2.2.1.2.1⟩⟩) (fun z hz => hH1.2.2.1.2.2 z hz) (Nat.le_refl _) (Nat.le_refl _)
    · rw [if_neg hlen] at hc
      cases hc
end All
