/-! THE CALLS, THE ENDS. -/
def ckV (o : Nat) (cc : ByteArray) (pc : Nat) (a : Int) (b c : Nat) : Bool := match dk cc pc with
  | some (.invokevirtual x, 3) => decide (x < 10000) && mlk (o * 10000 + x) == some b && decide (b < 368) && !mSt b && decide (c = mNp b + 1) && (mHh b).isEmpty && ((decide (0 ≤ a ∧ a < 13) && mOwn b == a.toNat) || (decide (a = 20) && mOwn b == 17))
  | _ => false
def ckS (o : Nat) (cc : ByteArray) (pc : Nat) (b c : Nat) : Bool := match dk cc pc with
  | some (.invokestatic x, 3) => decide (x < 10000) && decide (b < 368) && mSt b && decide (c = mNp b) && (mlk (o * 10000 + x) == some b || (nlk (o * 10000 + x) == some b && decide (b = 153)))
  | _ => false
theorem hh153 : mHh 153 = [] := by decide +kernel
theorem cl_nm : (List.range 13).all (fun t => (vwCl[t]?).map (fun q => q.1) == some (cN t)) = true := by decide +kernel
theorem cl_at {t : Nat} (h : t < 13) : ∃ q, vwCl[t]? = some q ∧ q.1 = cN t := by
  have h1 := List.all_eq_true.mp cl_nm t (List.mem_range.mpr h)
  cases hq : vwCl[t]? with
  | none => rw [hq] at h1; simp at h1
  | some q => rw [hq] at h1; exact ⟨q, rfl, by simpa using h1⟩
theorem rcv_to {a : Int} {as : List AV} (h : rcv a as = true) : ∃ t k as', as = some (.inr (.inr (t, k))) :: as' ∧ (t : Int) = a := by
  unfold rcv at h
  split at h
  · exact ⟨_, _, _, rfl, by simpa using h⟩
  · cases h
/-- the cell of a receiver -/
theorem rcv_cell {G : WG} {s : State} {h : Hp} {H : Heap} {locs : List Loc} {t k q b : Nat} (hO : Old G s s.heap) (hH : HR G s h H locs) (hr : rvl G (some (.inr (.inr (t, k)))) (.ref q)) (ht : (t < 13 ∧ mOwn b = t) ∨ (t = 20 ∧ mOwn b = 17)) :
    ∃ cell : Cell, H[q]? = some cell ∧ cell.vm.isStatics = false ∧ s.vm.findClass (cN (mOwn b)) = some cell.cls := by
  rcases ht with ⟨h1, h2⟩ | ⟨rfl, h2⟩
  · obtain ⟨i, hi, e⟩ := rvl_A hr (by omega) (by omega) (by omega)
    cases e
    obtain ⟨w, hw, e2⟩ := cl_at h1
    have hc := wsOf_get G h hi
    unfold cellE at hc
    rw [if_pos h1] at hc
    rw [h2, ← e2]
    exact va_recv hH.1 hH.2.1 hw hc
  · have hr : k < nSt ∧ Value.ref q = .ref (gK G k) := hr
    obtain ⟨hk, e⟩ := hr
    cases e
    obtain ⟨cell, c1, c2, c3, -⟩ := (hO.1 k hk).1.kept hH.2.2.1.2.1
    rw [h2]
    exact ⟨cell, c1, c2, c3⟩
section Call2
variable {p : Program} {l : Launch} {e : Env} {R : Room} {s : State} {m : MethodId} {args : Array Value} {below : List Frame} {meth : Method} {c0 : Code} {Q : State → Prop} {cells slots : Nat} {cc : ByteArray} {o nL : Nat} {G : WG}
variable {H : Heap} {locs : List Loc} {ls : Array Slot} {Vs : List Value} {pc pc' : Nat} {a : Int} {b c lv : Nat} {st as s0 : List AV} {h : Hp} {r : Rs}
theorem sc_V (X : Ctx p R s m meth c0 cc o nL G) (hck : ckV o cc pc a b c = true) (ht : tk c [] st = some (as, s0)) (hr : rcv a as = true) (hw : Nat.ble (wd s0) 8 = true) (hls : ls.size = nL) (hS : SR G st Vs) (hH : HR G s h H locs)
    (hM : CM l G lv b as h r) (hR : 11 + lv ≤ R.frames ∧ 560 + 60 * lv ≤ R.locals) (hf : cells + r.2.2 ≤ R.cells ∧ slots + 6 * r.2.2 ≤ R.slots)
    (kx : ∀ (x : Nat) (ce : Cell) (q : Addr) (H1 : Heap) (locs1 : List Loc) (rest : List Value), r.1 = .inr x → x < 5 → HR G s r.2.1 H1 locs1 → H1[q]? = some ce → ce.vm = .none → s.vm.findClass (exT.getD x "") = some ce.cls → vx_W p l e R s m args below meth c0 H1 locs1 (cells + r.2.2) (slots + 6 * r.2.2) Q (F0 m pc ls rest) q)
    (kk : ∀ (ov : Option AV) (Vs2 : List Value) (H1 : Heap) (locs1 : List Loc), r.1 = .inl ov → SR G (psh ov s0) Vs2 → HR G s r.2.1 H1 locs1 → W p l e R s m args below meth c0 H1 locs1 (cells + r.2.2) (slots + 6 * r.2.2) Q (F0 m (pc + 3) ls Vs2)) : W p l e R s m args below meth c0 H locs cells slots Q (F0 m pc ls Vs) := by
  obtain ⟨hx, hb, hown, hg, hO, hml, -⟩ := X
  unfold ckV at hck
  split at hck
  · rename_i x hd
    simp only [Bool.and_eq_true, Bool.or_eq_true, Bool.not_eq_true', decide_eq_true_eq, beq_iff_eq, List.isEmpty_iff] at hck
    obtain ⟨⟨⟨⟨⟨⟨hx1, hm⟩, hb1⟩, hst⟩, hc⟩, hhh⟩, hcl⟩ := hck
    obtain ⟨t, k, as', rfl, hta⟩ := rcv_to hr
    obtain ⟨As, Rs, rfl, hA, hB, hlen⟩ := tk_SR ht hS
    obtain ⟨V, As', rfl, hV, hA'⟩ := SR_cons hA
    obtain ⟨q, rfl⟩ := rvl_R hV
    have hml2 := mlk_ok hm
    simp only [mlQ] at hml2
    rw [show (o * 10000 + x) / 10000 = o by omega, show (o * 10000 + x) % 10000 = x by omega] at hml2
    obtain ⟨-, -, h3, -⟩ := mok_all b hb1
    rw [if_neg (by rw [hst]; exact Bool.false_ne_true)] at h3
    have hcat : (Rs.map fun v => v.category).sum ≤ 8 := by rw [SR_wd hB]; exact Nat.le_of_ble_eq_true hw
    have hcell := rcv_cell (b := b) hO hH hV (by
      rcases hcl with ⟨h1, h2⟩ | ⟨h1, h2⟩
      · exact Or.inl ⟨by omega, by omega⟩
      · exact Or.inr ⟨by omega, h2⟩)
    refine run_go (a0 := (Value.ref q :: As').toArray) hH hB (vx_runV (C := cN (mOwn b)) (own := cN o) (Ts := []) (n := mNp b) (g := F0 m pc ls _) ⟨hx, hb, hml, hown, fun _ h => nomatch h⟩ hM ⟨cb_ok (o := o) hg hb1 hml2 hR hhh, hg.at h3.1 rfl args, hg.at h3.2 rfl args⟩ ⟨PcM_blind G _ h, hcell, Pc_at hg hO hH hA⟩ rfl ?_ hls ?_ ?_ (dk_ok hd) hf) (fun x ce q H1 locs1 a1 a2 a3 a4 a5 a6 => kx x ce q H1 locs1 Rs a1 a2 a3 a4 a5 a6) kk
    · simp only [List.length_cons] at hlen; omega
    · show (Value.ref q :: As').reverse ++ Rs = _
      rw [List.reverse_cons, List.append_assoc]; rfl
    · show 2 * 0 + _ ≤ 8; omega
  · cases hck
theorem sc_S (X : Ctx p R s m meth c0 cc o nL G) (hck : ckS o cc pc b c = true) (ht : tk c [] st = some (as, s0)) (hw : Nat.ble (wd s0) 8 = true) (hls : ls.size = nL) (hS : SR G st Vs) (hH : HR G s h H locs)
    (hM : CM l G lv b as h r) (h153 : b = 153 → ∃ ov, r.1 = .inl ov) (hR : 11 + lv ≤ R.frames ∧ 560 + 60 * lv ≤ R.locals) (hf : cells + r.2.2 ≤ R.cells ∧ slots + 6 * r.2.2 ≤ R.slots)
    (kx : ∀ (x : Nat) (ce : Cell) (q : Addr) (H1 : Heap) (locs1 : List Loc) (rest : List Value), r.1 = .inr x → x < 5 → HR G s r.2.1 H1 locs1 → H1[q]? = some ce → ce.vm = .none → s.vm.findClass (exT.getD x "") = some ce.cls → vx_W p l e R s m args below meth c0 H1 locs1 (cells + r.2.2) (slots + 6 * r.2.2) Q (F0 m pc ls rest) q)
    (kk : ∀ (ov : Option AV) (Vs2 : List Value) (H1 : Heap) (locs1 : List Loc), r.1 = .inl ov → SR G (psh ov s0) Vs2 → HR G s r.2.1 H1 locs1 → W p l e R s m args below meth c0 H1 locs1 (cells + r.2.2) (slots + 6 * r.2.2) Q (F0 m (pc + 3) ls Vs2)) : W p l e R s m args below meth c0 H locs cells slots Q (F0 m pc ls Vs) := by
  obtain ⟨hx, hb, hown, hg, hO, hml, -⟩ := X
  unfold ckS at hck
  split at hck
  · rename_i x hd
    simp only [Bool.and_eq_true, Bool.or_eq_true, decide_eq_true_eq, beq_iff_eq] at hck
    obtain ⟨⟨⟨⟨hx1, hb1⟩, hst⟩, hc⟩, hlk⟩ := hck
    obtain ⟨As, Rs, rfl, hA, hB, hlen⟩ := tk_SR ht hS
    obtain ⟨h1, h2, h3, ⟨h4, h5, h6⟩, h7⟩ := mok_all b hb1
    rw [if_pos hst] at h3
    have hcat : (Rs.map fun v => v.category).sum ≤ 8 := by rw [SR_wd hB]; exact Nat.le_of_ble_eq_true hw
    have hpp : ∀ sig, parseMethodDescriptor (mY b).desc = some sig → mNp b = sig.parameters.length := fun sig hs => by rw [hs] at h6; exact (Option.some.inj h6).symm
    have hm := mLoc_le b
    have hlo : 8 + (mLoc b + 11) + (500 + 60 * lv) ≤ R.locals := by omega
    rcases hlk with hlk | ⟨hlk, rfl⟩
    · have hml2 := mlk_ok hlk
      simp only [mlQ] at hml2
      rw [show (o * 10000 + x) / 10000 = o by omega, show (o * 10000 + x) % 10000 = x by omega] at hml2
      by_cases hhh : mHh b = []
      · exact run_go (a0 := As.toArray) hH hB (vx_runS (own := cN o) (Ts := []) (n := mNp b) (g := F0 m pc ls _) ⟨hx, hb, hml, hown, fun _ h => nomatch h⟩ hM ⟨cb_ok (o := o) hg hb1 hml2 hR hhh, hg.at h3 rfl args⟩ ⟨PcM_blind G _ h, Pc_at hg hO hH hA⟩ rfl (by omega) hls rfl (by show 2 * 0 + _ ≤ 8; omega) (dk_ok hd) hf) (fun x ce q H1 locs1 a1 a2 a3 a4 a5 a6 => kx x ce q H1 locs1 Rs a1 a2 a3 a4 a5 a6) kk
      · rw [if_neg hhh] at h1
        have hcw : Cond.codeWith (mY b) (mCode b) (mLoc b) (mRet b) (mHh b) ∈ wsM b := by unfold wsM; rw [if_neg hhh]; exact List.mem_cons_self
        exact run_go (a0 := As.toArray) hH hB (vx_runSX (own := cN o) (Ts := []) (n := mNp b) (g := F0 m pc ls _) ⟨hx, hb, hml, hown, fun _ h => nomatch h⟩ hM ⟨⟨rfl, rfl, by show 10 + lv + 1 ≤ _; omega, hlo, wsM_ok hg hb1, hcw⟩, hg.at h1 rfl args, hg.at h2 rfl args, ⟨h4, h5⟩, hpp, hg.at hml2 rfl args, hg.at h3 rfl args⟩ ⟨PcM_blind G _ h, Pc_at hg hO hH hA⟩ rfl (by omega) hls rfl (by show 2 * 0 + _ ≤ 8; omega) (dk_ok hd) hf) (fun x ce q H1 locs1 a1 a2 a3 a4 a5 a6 => kx x ce q H1 locs1 Rs a1 a2 a3 a4 a5 a6) kk
    · have hml2 := nlk_ok hlk
      simp only [nlQ] at hml2
      rw [show (o * 10000 + x) / 10000 = o by omega, show (o * 10000 + x) % 10000 = x by omega] at hml2
      obtain ⟨ov, hov⟩ := h153 rfl
      rw [if_pos hh153] at h1
      have hcw : Cond.code (mY 153) (mCode 153) (mLoc 153) (mRet 153) ∈ wsM 153 := by unfold wsM; rw [if_pos hh153]; exact List.mem_cons_self
      have hM2 : Met l (mY 153) (wsM 153) (rmL lv r.2.2) (PcM G as h) (QcM G r) r.2.2 (6 * r.2.2) (gA G) := MetFree.mono hM (fun _ _ z => z) (fun _ _ _ _ _ z => z) (fun a s o s' _ z => by
        rcases z with z | ⟨q, -, E, ce, L, ⟨⟨e', he, -⟩, -⟩, -⟩
        · exact z
        · rw [hov] at he; cases he)
      have hv := va_runSN (own := cN o) (host := "FourHands") (Ts := []) (n := mNp 153) (e := e) (p := p) (meth := meth) (below := below) (locs := locs) (cells := cells) (slots := slots) (rest := Rs) (g := F0 m pc ls (As.reverse ++ Rs)) ⟨hx, hb, hml, hown, fun _ h => nomatch h⟩ hM2 ⟨⟨⟨rfl, rfl, by show 10 + lv + 1 ≤ _; omega, hlo, wsM_ok hg hb1, hcw⟩, hg.at h1 rfl args, hg.at h2 rfl args, ⟨h4, h5⟩, hpp, hg.at hml2 rfl args⟩, hg.at h3 rfl args, trivial⟩ ⟨PcM_blind G _ h, Pc_at hg hO hH hA⟩ rfl (by omega) hls rfl (by show 2 * 0 + _ ≤ 8; omega) (dk_ok hd) hf
      exact run_go (a0 := As.toArray) hH hB (fun T hT X => Or.inl (hv T hT X)) (fun x ce q H1 locs1 a1 a2 a3 a4 a5 a6 => kx x ce q H1 locs1 Rs a1 a2 a3 a4 a5 a6) kk
  · cases hck
/-- the ends: an answer -/
theorem sr_I {v : Int32} {V : AV} {R0 : Rs} {mr : Option FieldType} (X : Ctx p R s m meth c0 cc o nL G) (hd : decode cc pc = .ok (.ireturn, 1)) (hr : meth.sig.returnType = mr) (ty : FieldType) (hty : mr = some ty) (hn : narrow ty (.int v) = .int v) (hH : HR G s h H locs) (hv : rvl G V (.int v)) (hR0 : R0 = (.inl (some V), h, cells)) (hs : slots = 6 * cells) :
    W p l e R s m args below meth c0 H locs cells slots (vx_MQ below (QcM G R0) (XCM G R0) args s R0.2.2 (6 * R0.2.2) (gA G)) (F0 m pc ls [.int v]) := by
  obtain ⟨hx, hb, hown, hg, hO, hml, -, -, hlk⟩ := X
  subst hR0
  subst hs
  refine vx_ret (W.zret hx hb (hr.trans hty) hn (fun t ht hW => ?_) (fun q hq => hH.2.2.1.2.2 q hq) hd hlk)
  exact ⟨⟨_, rfl, hv⟩, by rw [ht]; exact hH.2.1, hH.2.2.2, by rw [va_F, ht]; exact ⟨hH.2.2.1.1, hH.2.2.1.2.1⟩⟩
theorem sr_J {v : Int64} {V : AV} {R0 : Rs} {mr : Option FieldType} (X : Ctx p R s m meth c0 cc o nL G) (hd : decode cc pc = .ok (.lreturn, 1)) (hr : meth.sig.returnType = mr) (hty : mr = some .long) (hH : HR G s h H locs) (hv : rvl G V (.long v)) (hR0 : R0 = (.inl (some V), h, cells)) (hs : slots = 6 * cells) :
    W p l e R s m args below meth c0 H locs cells slots (vx_MQ below (QcM G R0) (XCM G R0) args s R0.2.2 (6 * R0.2.2) (gA G)) (F0 m pc ls [.long v]) := by
  obtain ⟨hx, hb, hown, hg, hO, hml, -, -, hlk⟩ := X
  subst hR0
  subst hs
  refine vx_ret (W.lret hx hb (hr.trans hty) (fun t ht hW => ?_) (fun q hq => hH.2.2.1.2.2 q hq) hd hlk)
  exact ⟨⟨_, rfl, hv⟩, by rw [ht]; exact hH.2.1, hH.2.2.2, by rw [va_F, ht]; exact ⟨hH.2.2.1.1, hH.2.2.1.2.1⟩⟩
theorem sr_N {R0 : Rs} {mr : Option FieldType} (X : Ctx p R s m meth c0 cc o nL G) (hd : decode cc pc = .ok (.return_, 1)) (hr : meth.sig.returnType = mr) (hty : mr = none) (hH : HR G s h H locs) (hR0 : R0 = (.inl none, h, cells)) (hs : slots = 6 * cells) :
    W p l e R s m args below meth c0 H locs cells slots (vx_MQ below (QcM G R0) (XCM G R0) args s R0.2.2 (6 * R0.2.2) (gA G)) (F0 m pc ls []) := by
  obtain ⟨hx, hb, hown, hg, hO, hml, -, -, hlk⟩ := X
  subst hR0
  subst hs
  refine vx_ret (W.vret hx hb (hr.trans hty) (fun t ht hW => ?_) (fun q hq => hH.2.2.1.2.2 q hq) hd hlk)
  exact ⟨rfl, by rw [ht]; exact hH.2.1, hH.2.2.2, by rw [va_F, ht]; exact ⟨hH.2.2.1.1, hH.2.2.1.2.1⟩⟩
/-- the end: an exception made here -/
def ckT (cc : ByteArray) (pc b : Nat) : Bool := match dk cc pc, dk cc (pc + 4) with
  | some (.new ik, 3), some (.ldc is, 2) => decide (b < 5) && decide (ik < 10000) && tlk (110000 + ik) == some b && decide (is < 10000) && (slk (110000 + is)).isSome && decide (dk cc (pc + 3) = some (.dup, 1)) && decide (dk cc (pc + 6) = some (.invokespecial (exIc.getD b 0), 3)) && decide (dk cc (pc + 9) = some (.athrow, 1))
  | some (.new ik, 3), some (.ldc_w is, 3) => decide (b < 5) && decide (ik < 10000) && tlk (110000 + ik) == some b && decide (is < 10000) && (slk (110000 + is)).isSome && decide (dk cc (pc + 3) = some (.dup, 1)) && decide (dk cc (pc + 7) = some (.invokespecial (exIc.getD b 0), 3)) && decide (dk cc (pc + 10) = some (.athrow, 1))
  | _, _ => false
theorem vm_warm {s s' : State} (h : s'.vm = s.vm) : s.WarmedH s'.vm := by rw [h]; exact State.WarmedH.refl s
theorem sr_T {R0 : Rs} (X : Ctx p R s m meth c0 cc 11 nL G) (hck : ckT cc pc b = true) (htb : c0.exceptionTable.toList = []) (hl : l.stackTraces = false) (hls : ls.size = nL) (hw : Nat.ble (wd st) 8 = true) (hS : SR G st Vs) (hH : HR G s h H locs) (hR0 : R0 = (.inr b, h, cells + 1)) (hs : slots = 6 * cells) (hRc : cells + 1 ≤ R.cells) (hRs : 6 * (cells + 1) ≤ R.slots) :
    W p l e R s m args below meth c0 H locs cells slots (vx_MQ below (QcM G R0) (XCM G R0) args s R0.2.2 (6 * R0.2.2) (gA G)) (F0 m pc ls Vs) := by
  obtain ⟨hx, hb, hown, hg, hO, hml, hfr, hlo, hlk⟩ := X
  have hcat : (Vs.map fun v => v.category).sum ≤ 8 := by rw [SR_wd hS]; exact Nat.le_of_ble_eq_true hw
  have main : ∀ (ik is w : Nat), b < 5 → ik < 10000 → tlk (110000 + ik) = some b → is < 10000 → (slk (110000 + is)).isSome = true → decode cc pc = .ok (.new ik, 3) → decode cc (pc + 3) = .ok (.dup, 1) → ((w = 0 ∧ decode cc (pc + 4) = .ok (.ldc is, 2)) ∨ (w = 1 ∧ decode cc (pc + 4) = .ok (.ldc_w is, 3))) → decode cc (pc + 6 + w) = .ok (.invokespecial (exIc.getD b 0), 3) → decode cc (pc + 6 + w + 3) = .ok (.athrow, 1) →
      W p l e R s m args below meth c0 H locs cells slots (vx_MQ below (QcM G R0) (XCM G R0) args s R0.2.2 (6 * R0.2.2) (gA G)) (F0 m pc ls Vs) := by
    intro ik is w hb5 hik htl his hsl d0 d3 d4 d6 d9
    obtain ⟨k, hk⟩ := Option.isSome_iff_exists.mp hsl
    obtain ⟨t1, t2, t3⟩ := tw_ok b hb5
    obtain ⟨r0, r1, r2, r5⟩ := rx_ok b hb5
    have hstr := hO.2.1 _ _ hk
    rw [show (110000 + is) / 10000 = 11 by omega, show (110000 + is) % 10000 = is by omega] at hstr
    have htl2 := tlk_ok htl
    simp only [tlQ] at htl2
    rw [show (110000 + ik) / 10000 = 11 by omega, show (110000 + ik) % 10000 = ik by omega] at htl2
    subst hR0
    subst hs
    exact thr_new (w := w) (A := gA G) (names := exNm) (ix := exIx.getD b 0) (rx := exRx.getD b ⟨#[]⟩) (ic := exIc.getD b 0) (cls := exT.getD b "") hx hb hl r0 r1 r2 r5 hown t3 exNm_fit (fun s' h' => (GW.warm (vm_warm h') hg).at htl2 rfl args) (fun s' h' => (GW.warm (vm_warm h') hg).at t2 rfl args) hstr
      (fun w hw s' h' => (GW.warm (vm_warm h') hg).at (t1 w hw).1 (t1 w hw).2 args) hO.2.2.2.2.2.2.1 hO.2.2.2.2.2.2.2.1 hH.2.2.1 (hls.trans hml.symm) d0 d3 d4 d6 d9 (fun x hx => by rw [htb] at hx; cases hx) (by show 2 + 3 < _; omega) (by show _ + (13 * (2 + 1) + 43) ≤ _; omega) hRc (by omega) hlk
      (fun t hal h1 h2 => ⟨⟨b, rfl, hb5, rfl⟩, hH.2.1.kept (fun k q hk => h2 _ (vx_lt hH.2.1 hk)), hH.2.2.2, ⟨Nat.le_trans hH.2.2.1.1 h1, fun q hq hA => (h2 q (Nat.lt_of_lt_of_le hq hH.2.2.1.1)).trans (hH.2.2.1.2.1 q hq hA)⟩⟩) (fun z hz => hH.2.2.1.2.2 z hz) (Nat.le_refl _) (by show 6 * cells + 6 ≤ 6 * (cells + 1); omega)
  unfold ckT at hck
  split at hck
  · rename_i ik is d0 d4
    simp only [Bool.and_eq_true, decide_eq_true_eq, beq_iff_eq] at hck
    obtain ⟨⟨⟨⟨⟨⟨⟨h1, h2⟩, h3⟩, h4⟩, h5⟩, h6⟩, h7⟩, h8⟩ := hck
    exact main ik is 0 h1 h2 h3 h4 h5 (dk_ok d0) (dk_ok h6) (Or.inl ⟨rfl, dk_ok d4⟩) (dk_ok h7) (dk_ok h8)
  · rename_i ik is d0 d4
    simp only [Bool.and_eq_true, decide_eq_true_eq, beq_iff_eq] at hck
    obtain ⟨⟨⟨⟨⟨⟨⟨h1, h2⟩, h3⟩, h4⟩, h5⟩, h6⟩, h7⟩, h8⟩ := hck
    exact main ik is 1 h1 h2 h3 h4 h5 (dk_ok d0) (dk_ok h6) (Or.inr ⟨rfl, dk_ok d4⟩) (dk_ok h7) (dk_ok h8)
  · cases hck
end Call2
