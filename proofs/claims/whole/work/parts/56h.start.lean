/-! THE CLAIM OUT OF ONE WALK OF THE LAW'S BODY. Your part is whole_start (and what it stands on); all else here is the same for every law, but numbers. -/
def R_law : String := "FourHandsLaw"
def lw_P (b : Addr) (xs : List Int32) (args : Array Value) (s : State) : Prop := args = #[.ref b] ∧ s.IntsAt b xs ∧ xs.length ≤ 3072 ∧ (Jvm.Cond.and given_1 narrow_1).before args s = true
def lw_Q (_ : Array Value) (s : State) (o : Outcome) (t : State) : Prop := o = .returned (some (.int 1)) ∧ Framed s o t [] 601024 7293034
def lw_Z (below : List Frame) (a : Array Value) (s : State) : State → Prop := fun t => ∃ o, t.status = .running ∧ Ended t below o ∧ lw_Q a s o t
/-- the law's own end, with 1 on the stack, nothing written that was there before, its room as the claim has it -/
theorem lw_ret {p : Program} {l : Launch} {e : Env} {s : State} {m : MethodId} {below : List Frame} {meth : Method} {c : Code} {b : Nat} (hx : p.tables.exec = Jvm.exec) (hb : c.code = code) (hr : meth.sig.returnType = ret) (hlocks : meth.locks = false) {pc : Nat} {H : Heap} {ls : Array Slot} (hdg : decode code pc = .ok (.ireturn, 1)) : W p l e room_1 s m #[Value.ref b] below meth c H [] 601024 7293034 (lw_Z below #[Value.ref b] s) (F0 m pc ls [.int 1]) := by
  intro T hT X
  obtain ⟨fs, hret, hrun, hended, hW, hframe⟩ := X.leave (v := some (.int 1)) (hlocks := hlocks) (fun h => by rw [hr] at h; cases h)
  have hmeth' : T.vm.method? m = some meth := X.method'
  refine ⟨T.setFrames fs, ?_, .returned (some (.int 1)), hrun, hended, rfl, ⟨_, rfl⟩, hW, hframe⟩
  jvm_step X.here [X.here.top, hx, hb, hdg, hmeth', hr, ret, narrow_b1]
  (try refine ⟨rfl, ?_⟩); (try refine ⟨rfl, ?_⟩)
  first | (intro acts; rw [hret _ acts rfl rfl rfl]) | rw [hret _ _ rfl rfl rfl]
  exact Steps.refl _
/-- what holds at the law's entry: the machine, the code, the tables' words (any of lw_tbl by 'hts w (by decide +kernel)'), the script of L ints xs at the cell b, what the Statement gives of the start (any of its parts by flat_of_before) -/
def lw_At (p : Program) (s : State) (m : MethodId) (meth : Method) (c : Code) (b L : Nat) (xs : Nat → Int32) : Prop :=
  p.tables.exec = Jvm.exec ∧ c.code = code ∧ meth.sig.returnType = ret ∧ c.maxLocals = 7 ∧ s.vm.findClass R_law = some m.cls ∧ (∀ w ∈ lw_tbl, w.before #[Value.ref b] s = true) ∧ va_X b L xs s s.heap ∧ b < s.heap.size ∧ meth.locks = false ∧ (Jvm.Cond.and given_1 narrow_1).before #[Value.ref b] s = true
/-! THE LAW'S ENTRY: what the machine's world is there. -/
theorem u_all {s : State} {b : Nat} (hts : ∀ w ∈ lw_tbl, w.before #[Value.ref b] s = true) : ∃ (dC : Nat → ClassId) (dI : Nat → Nat → Nat), ∀ (k : Nat) (q : vw_C), vwCl[k]? = some q → u_Kn s q.1 q.2.1 q.2.2 (dC k) (dI k) := by
  have h0 : ∀ k : Nat, ∃ q : ClassId × (Nat → Nat), k < 13 → u_Kn s (cN k) (tF k) (nF k) q.1 q.2 := by
    intro k
    by_cases hk : k < 13
    · obtain ⟨-, k2, -⟩ := cl_ok k hk
      obtain ⟨-, -, -, -, -, h6⟩ := kok_all k hk
      obtain ⟨c, iS, h⟩ := u_known (C := cN k) (T := tF k) (N := nF k) (n := nF k) hts (fun w hw => (k2 w hw).1) (hts _ h6)
      exact ⟨(c, iS), fun _ => h⟩
    · exact ⟨(0, fun _ => 0), fun h => absurd h hk⟩
  obtain ⟨f, hf⟩ := Classical.axiomOfChoice h0
  refine ⟨fun k => (f k).1, fun k => (f k).2, fun k q hq => ?_⟩
  have hk : k < 13 := (List.getElem?_eq_some_iff.mp hq).1
  have := (cl_ok k hk).1
  rw [hq] at this
  cases this
  exact hf k hk
theorem arr_of {s : State} {args : Array Value} {ty : FieldType} (hty : ∀ C, ty ≠ .object C) (h : (Cond.arrayClass ty).before args s = true) : ∃ cA, ArrOfT s cA ty ∧ va_RA s cA ty := by
  obtain ⟨c, k, comp, h1, h2, h3⟩ := Cond.arrayClass_spec h
  refine ⟨c, fun n z => ⟨fun k h => (by cases h), k, h2, comp, h3⟩, ?_⟩
  unfold va_RA
  split
  · rename_i C; exact absurd rfl (hty C)
  · exact h1
theorem arr_ofS {s : State} {args : Array Value} {C : String} (h : (Cond.arrayOver (.object C)).before args s = true) : ∃ cA, ArrOfT s cA (.object C) ∧ va_RA s cA (.object C) := by
  obtain ⟨comp, c, k, h1, -, h2, h3, h4⟩ := Cond.arrayOver_spec h
  exact ⟨c, fun n z => ⟨fun k h => (by cases h), k, h2, comp, h3⟩, k, comp, h2, h3, h1, h4⟩
theorem nst : nSt = 46 := by decide +kernel
theorem str_of {s : State} {b k : Nat} {A : Nat → Prop} (hk : k < 46) (hn : ∀ w ∈ flatC narrow_1, w.before #[Value.ref b] s = true) (hA : ∀ a : Nat, a < s.heap.size → ¬ A a) :
    ∃ q : Nat × Nat, (tmS k).eval #[Value.ref b] s none [] s = some (.ref q.1) ∧ va_O "java/lang/String" q.1 A s s.heap ∧ va_OF "java/lang/String" "coder" "B" (.int 0) q.1 A s s.heap ∧ va_OF "java/lang/String" "value" "[B" (.ref q.2) q.1 A s s.heap ∧ va_T .byte q.2 (sLen k).toNat (fun j => .int (Int32.ofInt (sChr k j))) A s s.heap := by
  have hr : ∀ w ∈ bReq (tmS k) (sTxt.getD k []), w.before #[Value.ref b] s = true := fun w hw => hn w (nk_in hk w hw)
  have hex := hr (.exactly (tmS k) "java/lang/String") (by simp [bReq])
  have hco := hr (.eq (.field (tmS k) "java/lang/String" "coder" "B") (.int 0)) (by simp [bReq])
  have har := hr (.arrayOf (.field (tmS k) "java/lang/String" "value" "[B") .byte) (by simp [bReq])
  have hle := hr (.eq (.length (.field (tmS k) "java/lang/String" "value" "[B")) (.int (Int32.ofNat (sTxt.getD k []).length))) (by simp [bReq])
  have hel : ∀ j : Nat, j < (sTxt.getD k []).length → (Cond.eq (.elem (.field (tmS k) "java/lang/String" "value" "[B") (.int (Int32.ofNat j))) (.int (Int32.ofInt ((sTxt.getD k []).getD j 0)))).before #[Value.ref b] s = true := by
    intro j hj
    refine hr _ (List.mem_append_right _ (List.mem_map.mpr ⟨j, List.mem_range.mpr hj, rfl⟩))
  have hN : (sTxt.getD k []).length < 2 ^ 31 := by
    have : (List.range 46).all (fun k => decide ((sTxt.getD k []).length < 2 ^ 31)) = true := by decide +kernel
    have := List.all_eq_true.mp this k (List.mem_range.mpr hk)
    simpa using this
  obtain ⟨a, c, cA, kA, q1, q2, q3, q4, q5, q6, -⟩ := Cond.exactly_spec (args := #[Value.ref b]) (first := s) (o := none) (s := s) (idx := []) (t := tmS k) (cls := "java/lang/String") hex
  obtain ⟨t, ht, hT⟩ := va_Tof (f := fun j => .int (Int32.ofInt (sChr k j))) (A := A) hN har (va_eqt hle) (fun j hj => va_eqt (hel j hj)) hA
  exact ⟨(a, t), q1, ⟨cA, q3, q5, by rw [q6]; exact q2, hA a (Array.getElem?_eq_some_iff.mp q3).1⟩, vk_OFof q1 (va_eqt hco) hA, vk_OFof q1 ht hA, hT⟩
theorem key_of {s : State} {b key k a : Nat} (hn : ∀ w ∈ flatC narrow_1, w.before #[Value.ref b] s = true) (hts : ∀ w ∈ lw_tbl, w.before #[Value.ref b] s = true) (hk : slk key = some k) (ha : (tmS k).eval #[Value.ref b] s none [] s = some (.ref a)) : vk_R (cN (key / 10000)) (key % 10000) (sTx.getD k "") a s := by
  have hq := slk_ok hk
  have hm : (key, some k) ∈ slT := lkp_mem hk
  have h1 := List.all_eq_true.mp ty_keys _ hm
  simp only [List.contains_iff_mem] at h1
  obtain ⟨z, hz, e⟩ := List.mem_map.mp h1
  have h2 := List.all_eq_true.mp ty_all z hz
  unfold tyC at h2
  rw [e] at h2
  rw [hk] at h2
  simp only [Bool.and_eq_true, Bool.or_eq_true, decide_eq_true_eq] at h2
  refine vk_R.of (A := #[Value.ref b]) (hts _ hq) ?_
  rcases h2.2 with h3 | h3
  · rw [h3]; exact ha
  · have h4 := hn _ (List.mem_of_getElem? h3)
    split at h4
    · exact va_eqv h4 ha
    · exact va_eqR h4 ha
theorem start_G {p : Program} {s : State} {m : MethodId} {meth : Method} {c : Code} {b L : Nat} {xs : Nat → Int32} (C0 : lw_At p s m meth c b L xs) :
    ∃ G : WG, gB G = s.heap.size ∧ gL G = L ∧ gX G = xs ∧ gS G = b ∧ GW s ∧ Old G s s.heap ∧ va_K (gD G) vwCl (gT G) s ∧ va_AO "FourHands$State" s := by
  obtain ⟨hx, hb, hr, hml, hown, hts, hX, hbl, hlocks, hgv⟩ := C0
  have hflat := flat_of_before _ hgv
  have hn : ∀ w ∈ flatC narrow_1, w.before #[Value.ref b] s = true := fun w hw => hflat w (by show w ∈ flatC given_1 ++ flatC narrow_1; exact List.mem_append_right _ hw)
  have hg : GW s := fun w hw hg => gw_warm hg (State.WarmedH.refl s) (hts w hw) #[]
  obtain ⟨dC, dI, hKc⟩ := u_all hts
  obtain ⟨cI, a1, a2⟩ := arr_of (by intro C h; cases h) (hts _ ar_I)
  obtain ⟨cZ, b1, b2⟩ := arr_of (by intro C h; cases h) (hts _ ar_Z)
  obtain ⟨cJ, j1, j2⟩ := arr_of (by intro C h; cases h) (hts _ ar_J)
  obtain ⟨cS, s1, s2⟩ := arr_ofS (hts _ ao_S)
  have hA : ∀ a : Nat, a < s.heap.size → ¬ (fun q => s.heap.size ≤ q) a := fun a h => by show ¬ s.heap.size ≤ a; omega
  have h0 : ∀ k : Nat, ∃ q : Nat × Nat, k < 46 → (tmS k).eval #[Value.ref b] s none [] s = some (.ref q.1) ∧ va_O "java/lang/String" q.1 (fun q => s.heap.size ≤ q) s s.heap ∧ va_OF "java/lang/String" "coder" "B" (.int 0) q.1 (fun q => s.heap.size ≤ q) s s.heap ∧ va_OF "java/lang/String" "value" "[B" (.ref q.2) q.1 (fun q => s.heap.size ≤ q) s s.heap ∧ va_T .byte q.2 (sLen k).toNat (fun j => .int (Int32.ofInt (sChr k j))) (fun q => s.heap.size ≤ q) s s.heap := by
    intro k
    by_cases hk : k < 46
    · obtain ⟨q, h⟩ := str_of hk hn hA
      exact ⟨q, fun _ => h⟩
    · exact ⟨(0, 0), fun h => absurd h hk⟩
  obtain ⟨ad, had⟩ := Classical.axiomOfChoice h0
  refine ⟨(s.heap.size, (dC, dI), (fun k => if k = 0 then cI else if k = 1 then cZ else if k = 2 then cJ else cS), (fun k => (ad k).1), (fun k => (ad k).2), b, L, xs), rfl, rfl, rfl, rfl, hg, ?_, ⟨hKc, ?_⟩, va_AO.of (hts _ ao_S)⟩
  · refine ⟨fun k hk => (had k (by rw [← nst]; exact hk)).2, fun key k hk => ?_, hX, hbl, ?_, ?_, ?_, ?_, Nat.le_refl _, fun e e' h1 h2 hne => ?_⟩
    · have hk46 : k < 46 := by
        have hm : (key, some k) ∈ slT := lkp_mem hk
        have : slT.all (fun q => match q.2 with | some v => decide (v < 46) | none => true) = true := by decide +kernel
        have := List.all_eq_true.mp this _ hm
        simpa using this
      exact key_of hn hts hk (had k hk46).1
    · exact va_Zof (hts _ ls_C) (hts _ ls_Ci) (va_eqt (hn _ (List.mem_of_getElem? st_C))) hA
    · exact va_Zqof (hts _ ls_F) (hts _ ls_Fi) (hn _ (List.mem_of_getElem? st_F)) hA
    · exact vx_Zqof (hts _ ls_U) (hts _ ls_Ui) (hn _ (List.mem_of_getElem? st_U)) hA
    · exact vx_Zqof (hts _ ls_N) (hts _ ls_Ni) (hn _ (List.mem_of_getElem? st_N)) hA
    · have h3 := List.all_eq_true.mp (List.all_eq_true.mp nc_all e (List.mem_range.mpr h1)) e' (List.mem_range.mpr h2)
      simp only [Bool.or_eq_true, decide_eq_true_eq] at h3
      rcases h3 with h3 | h3
      · exact absurd h3 hne
      · exact va_Nc.of (hn _ (List.mem_of_getElem? h3))
  · intro k q hq
    match k, hq with
    | 0, hq => cases hq; exact ⟨a1, a2⟩
    | 1, hq => cases hq; exact ⟨b1, b2⟩
    | 2, hq => cases hq; exact ⟨j1, j2⟩
    | 3, hq => cases hq; exact ⟨s1, s2⟩
    | k + 4, hq => cases hq
