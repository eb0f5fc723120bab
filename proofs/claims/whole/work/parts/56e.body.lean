/-! The JVM does what the small machine does. -/
def rmB (n mc ms : Nat) : Room := { frames := 10 + n, locals := 500 + 60 * n, cells := mc, slots := ms }
def PcB (G : WG) (as : List AV) (ws : List BC) : Array Value → State → Prop := fun a U => (∃ Vs : List Value, a = Vs.toArray ∧ SR G as Vs) ∧ GW U ∧ Old G U U.heap ∧ va_AO "FourHands$State" U ∧ va_K (gD G) vwCl (gT G) U ∧ va_P (gD G) vwCl (wsB G ws) U.heap ∧ U.heap.size = gB G + ws.length
def QcB (G : WG) (ws2 : List BC) : Array Value → State → Outcome → State → Prop := fun _ st oc t => oc = .returned none ∧ va_P (gD G) vwCl (wsB G ws2) t.heap ∧ t.heap.size = gB G + ws2.length ∧ va_F (gA G) st t
def wsK (k : Nat) : List Cond := [Cond.code (kY k) (kCode k) (kLoc k) none]
def CB (l : Launch) (G : WG) (n k : Nat) (as : List AV) (ws ws2 : List BC) : Prop := Met l (kY k) (wsK k) (rmB n (ws2.length - ws.length) (slW ws2 - slW ws)) (PcB G as ws) (QcB G ws2) (ws2.length - ws.length) (slW ws2 - slW ws) (gA G)
theorem PcB_blind (G : WG) (as : List AV) (ws : List BC) : FrameBlind (PcB G as ws) := by
  intro a U g mk q
  obtain ⟨h1, h2, h3, h4, h5, h6⟩ := q
  have hW : U.WarmedH (U.calling g mk a).vm := State.WarmedH.refl U
  exact ⟨h1, GW.warm hW h2, Old_moved hW h3, va_AO.moved (u := U) (U := U.calling g mk a) (Vm.Alike.refl U.vm) h4, va_K.moved (u := U) (U := U.calling g mk a) (Vm.Alike.refl U.vm) h5, h6⟩
theorem sz_lo {G : WG} {ws : List BC} {H : Heap} {L0 : Nat} (hP : va_P (gD G) vwCl (wsB G ws) H) (h0 : L0 ≤ ws.length) (h1 : gB G + L0 ≤ H.size) : gB G + ws.length ≤ H.size := by
  by_cases h : ws.length = L0
  · omega
  · have hi : ws.length - 1 < ws.length := by omega
    have := vx_lt hP (wsB_get G (List.getElem?_eq_getElem hi))
    simp only at this
    omega
section Bd
variable {p : Program} {l : Launch} {e : Env} {R : Room} {s : State} {m : MethodId} {args : Array Value} {below : List Frame} {meth : Method} {c0 : Code} {Q : State → Prop} {cells slots : Nat} {cc : ByteArray} {o nL : Nat} {G : WG}
variable {H : Heap} {locs : List Loc} {ls : Array Slot} {Vs rest : List Value} {pc : Nat} {ws ws2 : List BC}
theorem runB_go {mc ms : Nat} {a0 : Array Value} {st0 : List Value} (hr : va_Run p l e R s m args below meth c0 H locs cells slots mc ms (F0 m pc ls st0) rest (QcB G ws2 a0) (gA G)) (hS : va_S (gA G) s.heap H locs)
    (kk : ∀ (H1 : Heap) (locs1 : List Loc), va_P (gD G) vwCl (wsB G ws2) H1 → va_S (gA G) s.heap H1 locs1 → W p l e R s m args below meth c0 H1 locs1 (cells + mc) (slots + ms) Q (F0 m (pc + 3) ls rest)) : W p l e R s m args below meth c0 H locs cells slots Q (F0 m pc ls st0) := by
  intro T hT X
  obtain ⟨v, st₀, t, T', L, h0, X', hL, e1, e2, ⟨hv, hp, hz, hF⟩, st⟩ := hr T hT X
  cases hv
  obtain ⟨-, -, k3⟩ := vx_keep h0 e1 hS (fun _ _ z => z) (fun _ z => z) hL hF
  obtain ⟨t2, a1, b1⟩ := kk T'.heap (locs ++ L) (by rw [e1]; exact hp) k3 T' rfl X'
  exact ⟨t2, st t2 a1, b1⟩
/-- a constructor is called -/
theorem vb_call {c x n : Nat} {st as s0 : List AV} (X : Ctx p R s m meth c0 cc o nL G) (hK : va_K (gD G) vwCl (gT G) s) (hao : va_AO "FourHands$State" s) (hc : c < 13) (hx1 : x < 10000) (hlk : ilk (o * 10000 + x) = some c ∨ izk (o * 10000 + x) = some c) (ht : tk (kNp c + 1) [] st = some (as, s0)) (hr : rcv c as = true) (hw : Nat.ble (wd s0) 8 = true) (hM : CB l G n c as ws ws2) (hls : ls.size = nL) (hS : SR G st Vs) (hB : va_P (gD G) vwCl (wsB G ws) H) (hz : H.size = gB G + ws.length) (hSS : va_S (gA G) s.heap H locs)
    (hR : 11 + n ≤ R.frames ∧ 560 + 60 * n ≤ R.locals) (hf : cells + (ws2.length - ws.length) ≤ R.cells ∧ slots + (slW ws2 - slW ws) ≤ R.slots) (hd : decode cc pc = .ok (.invokespecial x, 3))
    (kk : ∀ (H1 : Heap) (locs1 : List Loc) (Rs : List Value), SR G s0 Rs → va_P (gD G) vwCl (wsB G ws2) H1 → va_S (gA G) s.heap H1 locs1 → W p l e R s m args below meth c0 H1 locs1 (cells + (ws2.length - ws.length)) (slots + (slW ws2 - slW ws)) Q (F0 m (pc + 3) ls Rs)) : W p l e R s m args below meth c0 H locs cells slots Q (F0 m pc ls Vs) := by
  obtain ⟨hx, hb, hown, hg, hO, hml, -⟩ := X
  obtain ⟨h1, h2, h3, ⟨h4, h5, h6⟩, h7, h8⟩ := kok_all c hc
  obtain ⟨t, k, as', rfl, hta⟩ := rcv_to hr
  obtain ⟨As, Rs, rfl, hA, hRs, hlen⟩ := tk_SR ht hS
  obtain ⟨V, As', rfl, hV, hA'⟩ := SR_cons hA
  obtain ⟨q, rfl⟩ := rvl_R hV
  have hcat : (Rs.map fun v => v.category).sum ≤ 8 := by rw [SR_wd hRs]; exact Nat.le_of_ble_eq_true hw
  have hlocm : kLoc c ≤ 41 := by
    have : (List.range 13).all (fun k => decide (kLoc k ≤ 41)) = true := by decide +kernel
    have := List.all_eq_true.mp this c (List.mem_range.mpr hc)
    simpa using this
  have hpp : ∀ sig, parseMethodDescriptor (kY c).desc = some sig → kNp c = sig.parameters.length := fun sig hs => by rw [hs] at h6; exact (Option.some.inj h6).symm
  have hwsK : ∀ w ∈ wsK c, ∀ (a' : Array Value) (U : State), s.WarmedH U.vm → w.before a' U = true := by
    intro w hw a' U hW
    unfold wsK at hw
    rw [List.mem_singleton] at hw
    subst hw
    exact (GW.warm hW hg).at h1 rfl a'
  have hPc : PreS s H (PcB G (some (.inr (.inr (t, k))) :: as') ws) (.ref q :: As') := ⟨PcB_blind G _ ws, fun U hU hW => ⟨⟨_, rfl, hV, hA'⟩, GW.warm hW hg, by rw [hU]; exact Old_moved hW (Old_kept hSS.1 hSS.2.1 hO), va_AO.moved hW.alike hao, va_K.moved hW.alike hK, by rw [hU]; exact hB, by rw [hU]; exact hz⟩⟩
  have hstk : (Value.ref q :: As').reverse ++ Rs = As'.reverse ++ .ref q :: Rs := by rw [List.reverse_cons, List.append_assoc]; rfl
  have hlo : 8 + (kLoc c + 11) + (500 + 60 * n) ≤ R.locals := by omega
  rcases hlk with hlk | hlk
  · have hl := ilk_ok hlk
    simp only [ilQ] at hl
    rw [show (o * 10000 + x) / 10000 = o by omega, show (o * 10000 + x) % 10000 = x by omega] at hl
    refine runB_go (va_runI (own := cN o) (Ts := []) (n := kNp c) (As := As') (b := q) (rest := Rs) (g := F0 m pc ls _) ⟨hx, hb, hml, hown, fun _ h => nomatch h⟩ hM ⟨⟨rfl, rfl, by show 10 + n + 1 ≤ _; omega, hlo, hwsK, List.mem_cons_self, hg.at h1 rfl args, hg.at h2 rfl args, ⟨h4, h5⟩, hpp, hg.at hl rfl args⟩, rfl, hg.at h3 rfl args⟩ hPc rfl ?_ hls hstk ?_ hd hf) hSS (fun H1 locs1 g1 g2 => kk H1 locs1 Rs hRs g1 g2)
    · simp only [List.length_cons] at hlen; omega
    · show 2 * 0 + _ ≤ 8; omega
  · have hl := izk_ok hlk
    simp only [izQ] at hl
    rw [show (o * 10000 + x) / 10000 = o by omega, show (o * 10000 + x) % 10000 = x by omega] at hl
    refine runB_go (va_runIN (own := cN o) (host := "FourHands") (Ts := []) (n := kNp c) (As := As') (b := q) (rest := Rs) (g := F0 m pc ls _) ⟨hx, hb, hml, hown, fun _ h => nomatch h⟩ hM ⟨⟨⟨rfl, rfl, by show 10 + n + 1 ≤ _; omega, hlo, hwsK, List.mem_cons_self⟩, hg.at h1 rfl args, hg.at h2 rfl args, ⟨h4, h5⟩, hpp, hg.at hl rfl args⟩, rfl, hg.at h3 rfl args⟩ hPc rfl ?_ hls hstk ?_ hd hf) hSS (fun H1 locs1 g1 g2 => kk H1 locs1 Rs hRs g1 g2)
    · simp only [List.length_cons] at hlen; omega
    · show 2 * 0 + _ ≤ 8; omega
end Bd
/-- what the small machine's run gives -/
def BOk (l : Launch) (G : WG) (n k pc : Nat) (σ st : List AV) (ws ws2 : List BC) : Prop := mono ws ws2 ∧ ∀ (p : Program) (e : Env) (R : Room) (s : State) (m : MethodId) (args : Array Value) (below : List Frame) (meth : Method) (c0 : Code) (L0 S0 : Nat),
  Ctx p R s m meth c0 (kCode k) k (kLoc k) G → va_K (gD G) vwCl (gT G) s → va_AO "FourHands$State" s → meth.name = "<init>" → meth.sig.returnType = none → s.heap.size = gB G + L0 → L0 ≤ ws.length → S0 ≤ slW ws → ws2.length - L0 ≤ R.cells → slW ws2 - S0 ≤ R.slots → 10 + n ≤ R.frames → 500 + 60 * n ≤ R.locals →
  ∀ (ls : Array Slot) (Vs : List Value) (H : Heap) (locs : List Loc), kLoc k = σ.length → LR G ls σ → SR G st Vs → va_P (gD G) vwCl (wsB G ws) H → va_S (gA G) s.heap H locs →
  W p l e R s m args below meth c0 H locs (ws.length - L0) (slW ws - S0) (MQ below (QcB G ws2) args s (ws2.length - L0) (slW ws2 - S0) (gA G)) (F0 m pc ls Vs)
theorem CB_of {l : Launch} {G : WG} {n c : Nat} {as : List AV} {ws ws2 : List BC} (hc : c < 13) (hlen : (lay as).length ≤ kLoc c) (h : BOk l G n c 0 (ini (kLoc c) as) [] ws ws2) : CB l G n c as ws ws2 := by
  obtain ⟨h1, h2, h3, ⟨h4, h5, h6⟩, h7, h8⟩ := kok_all c hc
  refine Met.ofW (cc := kCode c) (maxL := kLoc c) (ret := none) h7 rfl ?_
  intro p e s m args below meth c' s₁ B hml hv
  obtain ⟨⟨Vs, rfl, hA⟩, hg, hO, hao, hK, hP, hsz⟩ := hv
  have X : Ctx p (headSpec (wsK c) (rmB n (ws2.length - ws.length) (slW ws2 - slW ws))).room s m meth c' (kCode c) c (kLoc c) G := ⟨B.exec, B.bytes, findClass_of_methodNamed B.named, hg, hO, hml, by show 8 ≤ 10 + n; omega, by show 400 ≤ 500 + 60 * n; omega, B.notSynchronized⟩
  rw [lg_entry_eq]
  have := h.2 p e _ s m Vs.toArray below meth c' ws.length (slW ws) X hK hao (name_of_methodNamed B.named B.method).1 B.returns hsz (Nat.le_refl _) (Nat.le_refl _) (Nat.le_refl _) (Nat.le_refl _) (Nat.le_refl _) (Nat.le_refl _) _ [] s.heap [] (ini_len hlen).symm (LR_entry hA hlen) trivial hP va_S.rf
  rw [Nat.sub_self, Nat.sub_self] at this
  exact this
