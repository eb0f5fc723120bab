/-! THE CONTRACT OF A CALL, AND THE CALLS. -/
def HV (G : WG) (h : Hp) : Prop := (∀ t k i, t ≠ 25 → in32 (h t k i)) ∧ (∀ k i, in64 (h 25 k i)) ∧ h 27 0 0 = gL G ∧ ∀ j, j < gL G → h 22 0 j = (gX G j).toInt
def rmL (lv k : Nat) : Room := { frames := 10 + lv, locals := 500 + 60 * lv, cells := k, slots := 6 * k }
def wsM (m : Nat) : List Cond := [if mHh m = [] then Cond.code (mY m) (mCode m) (mLoc m) (mRet m) else Cond.codeWith (mY m) (mCode m) (mLoc m) (mRet m) (mHh m)]
def PcM (G : WG) (as : List AV) (h : Hp) : Array Value → State → Prop := fun a U => (∃ Vs : List Value, a = Vs.toArray ∧ SR G as Vs) ∧ GW U ∧ Old G U U.heap ∧ va_K (gD G) vwCl (gT G) U ∧ va_P (gD G) vwCl (wsOf G h) U.heap ∧ HV G h
def rOk (G : WG) (r : Option AV ⊕ Nat) (oc : Outcome) : Prop := match r with
  | .inl none => oc = .returned none
  | .inl (some v) => ∃ V, oc = .returned (some V) ∧ rvl G v V
  | .inr _ => False
def QcM (G : WG) (r : Rs) : Array Value → State → Outcome → State → Prop := fun _ st oc t => rOk G r.1 oc ∧ va_P (gD G) vwCl (wsOf G r.2.1) t.heap ∧ HV G r.2.1 ∧ va_F (gA G) st t
def XCM (G : WG) (r : Rs) : String → State → State → Prop := fun E st t => (∃ e : Nat, r.1 = .inr e ∧ e < 5 ∧ E = exT.getD e "") ∧ va_P (gD G) vwCl (wsOf G r.2.1) t.heap ∧ HV G r.2.1 ∧ va_F (gA G) st t
/-- a call of the method m at the level lv, from the heap h, ends in r -/
def CM (l : Launch) (G : WG) (lv m : Nat) (as : List AV) (h : Hp) (r : Rs) : Prop := vx_Met l (mY m) (wsM m) (rmL lv r.2.2) (PcM G as h) (QcM G r) (XCM G r) r.2.2 (6 * r.2.2) (gA G)
theorem Old_moved {G : WG} {u U : State} {H : Heap} (hW : u.WarmedH U.vm) (h : Old G u H) : Old G U H := by
  obtain ⟨h1, h2, h3, h4, h5, h6, h7, h8, h9, h10⟩ := h
  exact ⟨fun k hk => ⟨va_O.moved hW.alike (h1 k hk).1, va_OF.moved hW.alike (h1 k hk).2.1, va_OF.moved hW.alike (h1 k hk).2.2.1, va_T.moved hW.alike (h1 k hk).2.2.2⟩, fun key k hk => vk_R.warm hW (h2 key k hk), va_X.moved hW.alike h3, h4, va_Z.moved hW.alike h5, va_Zq.moved hW.alike h6, vx_Zq.moved hW.alike h7, vx_Zq.moved hW.alike h8, h9, fun e e' a b c => va_Nc.moved hW.alike (h10 e e' a b c)⟩
theorem Old_kept {G : WG} {U : State} {H H1 : Heap} (hz : H.size ≤ H1.size) (hq : ∀ a : Nat, a < H.size → ¬ gA G a → H1[a]? = H[a]?) (h : Old G U H) : Old G U H1 := by
  obtain ⟨h1, h2, h3, h4, h5, h6, h7, h8, h9, h10⟩ := h
  exact ⟨fun k hk => ⟨(h1 k hk).1.kept hq, (h1 k hk).2.1.kept hq, (h1 k hk).2.2.1.kept hq, (h1 k hk).2.2.2.kept hq⟩, h2, h3.kept (hq _ (by omega) (fun z => by unfold gA at z; omega)), h4, h5.kept hq, h6.kept hq, h7.kept hq, h8.kept hq, by omega, h10⟩
theorem PcM_blind (G : WG) (as : List AV) (h : Hp) : FrameBlind (PcM G as h) := by
  intro a U g mk q
  obtain ⟨h1, h2, h3, h4, h5, h6⟩ := q
  have hW : U.WarmedH (U.calling g mk a).vm := State.WarmedH.refl U
  exact ⟨h1, GW.warm hW h2, Old_moved hW h3, va_K.moved (u := U) (U := U.calling g mk a) (Vm.Alike.refl U.vm) h4, h5, h6⟩
theorem mLoc_all : mLocT.all (fun n => decide (n ≤ 41)) = true := by decide +kernel
theorem mLoc_le (m : Nat) : mLoc m ≤ 41 := by
  unfold mLoc
  rw [List.getD_eq_getElem?_getD]
  cases h : mLocT[m]? with
  | none => simp
  | some n =>
    have := List.all_eq_true.mp mLoc_all _ (List.mem_of_getElem? h)
    simpa using this
theorem tk_ok : ∀ {n : Nat} {acc st as rest : List AV}, tk n acc st = some (as, rest) → ∃ xs : List AV, as = xs.reverse ++ acc ∧ st = xs ++ rest ∧ xs.length = n := by
  intro n
  induction n with
  | zero => intro acc st as rest h; cases h; exact ⟨[], rfl, rfl, rfl⟩
  | succ n ih =>
    intro acc st as rest h
    cases st with
    | nil => cases h
    | cons v st =>
      obtain ⟨xs, h1, h2, h3⟩ := ih (show tk n (v :: acc) st = some (as, rest) from h)
      exact ⟨v :: xs, by simp [h1], by simp [h2], by simp [h3]⟩
theorem SR_split {G : WG} : ∀ {a b : List AV} {Vs : List Value}, SR G (a ++ b) Vs → ∃ As Bs, Vs = As ++ Bs ∧ SR G a As ∧ SR G b Bs := by
  intro a
  induction a with
  | nil => intro b Vs h; exact ⟨[], Vs, rfl, trivial, h⟩
  | cons v a ih =>
    intro b Vs h
    obtain ⟨V, L, rfl, h1, h2⟩ := SR_cons h
    obtain ⟨As, Bs, rfl, h3, h4⟩ := ih h2
    exact ⟨V :: As, Bs, rfl, ⟨h1, h3⟩, h4⟩
theorem SR_rev {G : WG} : ∀ {a : List AV} {As : List Value}, SR G a As → SR G a.reverse As.reverse := by
  intro a
  induction a with
  | nil => intro As h; rw [SR_nil h]; trivial
  | cons v a ih =>
    intro As h
    obtain ⟨V, L, rfl, h1, h2⟩ := SR_cons h
    rw [List.reverse_cons, List.reverse_cons]
    exact SR_app (ih h2) ⟨h1, trivial⟩
/-- the arguments of a call: in order, and what stays below them -/
theorem tk_SR {G : WG} {n : Nat} {st as rest : List AV} {Vs : List Value} (h : tk n [] st = some (as, rest)) (hS : SR G st Vs) : ∃ As Rs : List Value, Vs = As.reverse ++ Rs ∧ SR G as As ∧ SR G rest Rs ∧ As.length = n := by
  obtain ⟨xs, h1, h2, h3⟩ := tk_ok h
  subst h2
  obtain ⟨As, Bs, rfl, h4, h5⟩ := SR_split hS
  refine ⟨As.reverse, Bs, by rw [List.reverse_reverse], ?_, h5, by rw [List.length_reverse, SR_len h4, h3]⟩
  rw [h1, List.append_nil]
  exact SR_rev h4
section Call
variable {p : Program} {l : Launch} {e : Env} {R : Room} {s : State} {m : MethodId} {args : Array Value} {below : List Frame} {meth : Method} {c0 : Code} {Q : State → Prop} {cells slots : Nat} {cc : ByteArray} {o nL : Nat} {G : WG}
variable {H : Heap} {locs : List Loc} {ls : Array Slot} {Vs : List Value} {pc pc' : Nat} {a : Int} {b c : Nat} {st : List AV} {h : Hp} {r : Rs}
theorem Pc_at {as : List AV} {As : List Value} (hg : GW s) (ho : Old G s s.heap) (hH : HR G s h H locs) (hA : SR G as As) : ∀ U : State, U.heap = H → s.WarmedH U.vm → PcM G as h As.toArray U := by
  intro U hU hW
  obtain ⟨h1, h2, h3, h4⟩ := hH
  subst hU
  exact ⟨⟨As, rfl, hA⟩, GW.warm hW hg, Old_moved hW (Old_kept h3.1 h3.2.1 ho), h1.moved hW.alike, h2, h4⟩
/-- behind a call -/
theorem run_go {a0 : Array Value} {s0 : List AV} {st0 rest : List Value} (hH : HR G s h H locs) (hS : SR G s0 rest) (hr : vx_Run p l e R s m args below meth c0 H locs cells slots r.2.2 (6 * r.2.2) (F0 m pc ls st0) rest (QcM G r a0) (XCM G r) (gA G))
    (kx : ∀ (x : Nat) (ce : Cell) (q : Addr) (H1 : Heap) (locs1 : List Loc), r.1 = .inr x → x < 5 → HR G s r.2.1 H1 locs1 → H1[q]? = some ce → ce.vm = .none → s.vm.findClass (exT.getD x "") = some ce.cls → vx_W p l e R s m args below meth c0 H1 locs1 (cells + r.2.2) (slots + 6 * r.2.2) Q (F0 m pc ls rest) q)
    (kk : ∀ (ov : Option AV) (Vs2 : List Value) (H1 : Heap) (locs1 : List Loc), r.1 = .inl ov → SR G (psh ov s0) Vs2 → HR G s r.2.1 H1 locs1 → W p l e R s m args below meth c0 H1 locs1 (cells + r.2.2) (slots + 6 * r.2.2) Q (F0 m (pc + 3) ls Vs2)) : W p l e R s m args below meth c0 H locs cells slots Q (F0 m pc ls st0) := by
  obtain ⟨g1, -, g3, -⟩ := hH
  intro T hT X
  rcases hr T hT X with ⟨v, st₀, t, T', L, h0, X', hL, e1, e2, ⟨hv, hp, hb, hF⟩, st⟩ | ⟨q, st₀, t, T', L, E, ce, h0, X', hL, e1, e2, ⟨⟨x, hx1, hx2, hx3⟩, hp, hb, hF⟩, hce, hcv, hcl, st⟩
  · obtain ⟨-, -, k3⟩ := vx_keep h0 e1 g3 (fun _ _ z => z) (fun _ z => z) hL hF
    have hR : HR G s r.2.1 T'.heap (locs ++ L) := ⟨g1, by rw [e1]; exact hp, k3, hb⟩
    have hq : ∃ (ov : Option AV), r.1 = .inl ov ∧ SR G (psh ov s0) (v.toList ++ rest) := by
      cases hr1 : r.1 with
      | inr x => rw [hr1] at hv; exact hv.elim
      | inl ov =>
        rw [hr1] at hv
        cases ov with
        | none =>
          have hv : Outcome.returned v = .returned none := hv
          cases hv
          exact ⟨none, rfl, hS⟩
        | some w =>
          obtain ⟨V, hV, hw⟩ := hv
          cases hV
          exact ⟨some w, rfl, hw, hS⟩
    obtain ⟨ov, hov, hS2⟩ := hq
    obtain ⟨t2, a1, b1⟩ := kk ov _ T'.heap (locs ++ L) hov hS2 hR T' rfl X'
    exact ⟨t2, st t2 a1, b1⟩
  · obtain ⟨-, -, k3⟩ := vx_keep h0 e1 g3 (fun _ _ z => z) (fun _ z => z) hL hF
    have hR : HR G s r.2.1 T'.heap (locs ++ L) := ⟨g1, by rw [e1]; exact hp, k3, hb⟩
    obtain ⟨t2, a1, b1⟩ := kx x ce q T'.heap (locs ++ L) hx1 hx2 hR (by rw [e1]; exact hce) hcv (by rw [← hx3]; exact hcl) T' rfl X'
    exact ⟨t2, st.trans a1, b1⟩
/-- the words of a call -/
theorem wsM_ok {b : Nat} (hg : GW s) (hb : b < 368) : ∀ w ∈ wsM b, ∀ (a' : Array Value) (U : State), s.WarmedH U.vm → w.before a' U = true := by
  intro w hw a' U hW
  unfold wsM at hw
  rw [List.mem_singleton] at hw
  subst hw
  obtain ⟨h1, -⟩ := mok_all b hb
  exact (GW.warm hW hg).at h1 (by split <;> rfl) a'
theorem cb_ok {lv k x : Nat} (hg : GW s) (hb : b < 368) (hx : Cond.methodLink (cN o) x (mY b) ∈ lw_tbl) (hR : 11 + lv ≤ R.frames ∧ 560 + 60 * lv ≤ R.locals) (hh : mHh b = []) :
    CallB R s args (cN o) x (mY b) (mCode b) (mLoc b) (mRet b) (wsM b) (rmL lv k) k (6 * k) (mNp b) := by
  obtain ⟨h1, h2, h3, ⟨h4, h5, h6⟩, h7⟩ := mok_all b hb
  rw [if_pos hh] at h1
  have hm := mLoc_le b
  have hc : Cond.code (mY b) (mCode b) (mLoc b) (mRet b) ∈ wsM b := by unfold wsM; rw [if_pos hh]; exact List.mem_cons_self
  refine ⟨rfl, rfl, by show 10 + lv + 1 ≤ _; omega, by show 8 + (mLoc b + 11) + (500 + 60 * lv) ≤ _; omega, wsM_ok hg hb, hc, hg.at h1 rfl args, hg.at h2 rfl args, ⟨h4, h5⟩, fun sig hs => ?_, hg.at hx rfl args⟩
  rw [hs] at h6
  exact (Option.some.inj h6).symm
end Call
