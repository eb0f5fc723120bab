/-! A METHOD: what the abstract machine does with it, the JVM does. -/
def ckH (mm o pc a : Nat) : Bool := (mHh mm).all (fun q => decide (q.1 ≤ pc ∧ pc < q.2.1 ∧ q.2.2.2 ≠ 0 ∧ q.2.2.2 < 10000)) && decide ((mHh mm).map (fun q => (tlk (o * 10000 + q.2.2.2), q.2.2.1)) = (hTab a).map (fun x => (some x.1, x.2))) && (hTab a).all (fun x => decide (x.1 < 5))
def ckK (mm o : Nat) (cc : ByteArray) (pc : Nat) (i : AC) : Option Nat := match i with
  | (79, a, b, c) => ifo (ckV o cc pc a b c && (mHh mm).isEmpty) (pc + 3)
  | (80, _, b, c) => ifo (ckS o cc pc b c && (mHh mm).isEmpty) (pc + 3)
  | (81, a, b, c) => ifo (ckV o cc pc 11 b c && ckH mm o pc a.toNat) (pc + 3)
  | (82, _, _, _) => ifo (decide (dk cc pc = some (.ireturn, 1)) && decide (mRet mm = some .int)) pc
  | (83, _, _, _) => ifo (decide (dk cc pc = some (.return_, 1)) && decide (mRet mm = none)) pc
  | (84, _, b, _) => ifo (ckT cc pc b && decide (o = 11) && (mHh mm).isEmpty) pc
  | (85, _, _, _) => ifo (decide (dk cc pc = some (.ireturn, 1)) && decide (mRet mm = some .boolean)) pc
  | (86, _, _, _) => ifo (decide (dk cc pc = some (.ireturn, 1)) && decide (mRet mm = some .char)) pc
  | (87, _, _, _) => ifo (decide (dk cc pc = some (.ireturn, 1)) && decide (mRet mm = some .byte)) pc
  | (88, _, _, _) => ifo (decide (dk cc pc = some (.lreturn, 1)) && decide (mRet mm = some .long)) pc
  | (99, _, _, _) => some pc
  | i => ckJ cc pc i
def ckL (mm o : Nat) (cc : ByteArray) : List AC → Nat → Bool
  | [], _ => true
  | i :: L, pc => match (if i.1 < 60 then ck1 o cc pc i else ckK mm o cc pc i) with
    | some pc' => ckL mm o cc L pc'
    | none => false
theorem ckK_J {mm o pc pc' n b c : Nat} {a : Int} {cc : ByteArray} (hn : ¬ (79 ≤ n ∧ n ≤ 88) ∧ n ≠ 99) (h : ckK mm o cc pc (n, a, b, c) = some pc') : ckJ cc pc (n, a, b, c) = some pc' := by
  unfold ckK at h
  split at h
  all_goals first
    | exact h
    | (exfalso; omega)
    | (rename_i e1; simp only [Prod.mk.injEq] at e1; exfalso; omega)
theorem ckV_lt {o pc b c : Nat} {a : Int} {cc : ByteArray} (h : ckV o cc pc a b c = true) : b < 368 := by
  unfold ckV at h
  split at h
  · simp only [Bool.and_eq_true, decide_eq_true_eq] at h
    exact h.1.1.1.1.2
  · cases h
theorem ckS_lt {o pc b c : Nat} {cc : ByteArray} (h : ckS o cc pc b c = true) : b < 368 := by
  unfold ckS at h
  split at h
  · simp only [Bool.and_eq_true, decide_eq_true_eq] at h
    exact h.1.1.1.2
  · cases h
def fits (R0 : Rs) (c : Nat) (r : Rs) : Prop := r.1 = R0.1 ∧ r.2.1 = R0.2.1 ∧ c + r.2.2 = R0.2.2
theorem hfind_split {e t : Nat} : ∀ {l : List (Nat × Nat)}, hfind e l = some t → ∃ l1 l2, l = l1 ++ (e, t) :: l2 ∧ ∀ z ∈ l1, z.1 ≠ e := by
  intro l
  induction l with
  | nil => intro h; cases h
  | cons q l ih =>
    intro h
    obtain ⟨a, b⟩ := q
    by_cases ha : a = e
    · have h : (if a = e then some b else hfind e l) = some t := h
      rw [if_pos ha] at h
      cases h
      subst ha
      exact ⟨[], l, rfl, fun _ h => nomatch h⟩
    · have h : (if a = e then some b else hfind e l) = some t := h
      rw [if_neg ha] at h
      obtain ⟨l1, l2, e1, e2⟩ := ih h
      refine ⟨(a, b) :: l1, l2, by rw [e1]; rfl, fun z hz => ?_⟩
      rcases List.mem_cons.mp hz with rfl | hz
      · exact ha
      · exact e2 z hz
theorem cast_self {s : State} {x : Nat} {args : Array Value} (hx : x < 5) (hg : GW s) : (Cond.castable (exT.getD x "") (exT.getD x "")).before args s = true := by
  obtain ⟨t1, -, -⟩ := tw_ok x hx
  have h := t1 (.castable (exT.getD x "") (exT.getD x "")) (List.mem_filter.mpr ⟨by simp [Bundle.ownAtomsX], by simp [vx_no]⟩)
  exact hg.at h.1 h.2 args
theorem nar_Z {v : Int32} (h : v.toInt = 0 ∨ v.toInt = 1) : narrow .boolean (.int v) = .int v := by
  rcases h with h | h
  · have : v = 0 := Int32.toInt_inj.mp h
    subst this; rfl
  · have : v = 1 := Int32.toInt_inj.mp h
    subst this; rfl
theorem bvC {w : BitVec 32} (h : w.toNat < 65536) : (w.setWidth 16).setWidth 32 = w := by
  apply BitVec.eq_of_toNat_eq
  simp only [BitVec.toNat_setWidth]
  omega
theorem nat32 {v : Int32} (h0 : 0 ≤ v.toInt) (h1 : v.toInt < 65536) : v.toBitVec.toNat < 65536 := by
  have e : v.toInt = v.toBitVec.toInt := rfl
  rw [e, BitVec.toInt_eq_toNat_cond] at h0 h1
  split at h0 <;> split at h1 <;> omega
theorem nar_C {v : Int32} (h0 : 0 ≤ v.toInt) (h1 : v.toInt < 65536) : narrow .char (.int v) = .int v := by
  have e : v.toUInt32.toUInt16.toUInt32.toInt32 = v := Int32.toBitVec_inj.mp (bvC (nat32 h0 h1))
  show Value.int v.toUInt32.toUInt16.toUInt32.toInt32 = .int v
  rw [e]
theorem nar_B {v : Int32} (h0 : -128 ≤ v.toInt) (h1 : v.toInt < 128) : narrow .byte (.int v) = .int v := by
  have e : v.toInt8.toInt32 = v := by
    apply Int32.toInt_inj.mp
    rw [Int8.toInt_toInt32, Int32.toInt_toInt8]
    rw [Int.bmod_def]; split <;> omega
  show Value.int v.toInt8.toInt32 = .int v
  rw [e]
section Meth
variable {p : Program} {l : Launch} {e : Env} {R : Room} {s : State} {m : MethodId} {args : Array Value} {below : List Frame} {meth : Method} {c0 : Code} {Q : State → Prop} {cc : ByteArray} {o nL : Nat} {G : WG}
theorem catch_ok {H : Heap} {locs : List Loc} {ls : Array Slot} {pc a mm cells slots x t : Nat} {rest : List Value} {q : Addr} {ce : Cell} (X : Ctx p R s m meth c0 cc o nL G) (hck : ckH mm o pc a = true) (htb : c0.exceptionTable.toList = tableOf (mHh mm)) (hf : hfind x (hTab a) = some t) (hx : x < 5)
    (hcell : H[q]? = some ce) (hv : ce.vm = .none) (hcl : s.vm.findClass (exT.getD x "") = some ce.cls)
    (kk : W p l e R s m args below meth c0 H locs cells slots Q (F0 m t ls [.ref q])) : vx_W p l e R s m args below meth c0 H locs cells slots Q (F0 m pc ls rest) q := by
  obtain ⟨hxx, hb, hown, hg, hO, -⟩ := X
  unfold ckH at hck
  simp only [Bool.and_eq_true, decide_eq_true_eq, List.all_eq_true] at hck
  obtain ⟨⟨h1, h2⟩, h3⟩ := hck
  obtain ⟨l1, l2, e1, e2⟩ := hfind_split hf
  rw [e1, List.map_append, List.map_cons] at h2
  obtain ⟨A, B, eA, hA, hB⟩ := List.map_eq_append_iff.mp h2
  obtain ⟨y, B', eB, hy, hB'⟩ := List.map_eq_cons_iff.mp hB
  have hy1 := h1 y (by rw [eA, eB]; simp)
  simp only [Prod.mk.injEq] at hy
  obtain ⟨hy2, hy3⟩ := hy
  have link : ∀ (z : Nat × Nat × Nat × Nat) (k : Nat), z.2.2.2 < 10000 → tlk (o * 10000 + z.2.2.2) = some k → (Cond.classLink (cN o) z.2.2.2 (exT.getD k "")).before args s = true := by
    intro z k hz hk
    have w := tlk_ok hk
    simp only [tlQ] at w
    rw [show (o * 10000 + z.2.2.2) / 10000 = o by omega, show (o * 10000 + z.2.2.2) % 10000 = z.2.2.2 by omega] at w
    exact hg.at w rfl args
  refine vx_catch (own := cN o) (name := exT.getD x "") (E := exT.getD x "") hown (tableOf A) ⟨y.1, y.2.1, y.2.2.1, y.2.2.2⟩ (tableOf B') ?_ ?_ ?_ hy1.2.2.1 (link y x hy1.2.2.2 hy2) (cast_self hx hg) hcell hv hcl ?_
  · rw [htb, eA, eB]
    simp only [tableOf, List.map_append, List.map_cons]
  · intro z hz
    simp only [tableOf, List.mem_map] at hz
    obtain ⟨w, hw, rfl⟩ := hz
    right
    have hw1 := h1 w (by rw [eA]; exact List.mem_append_left _ hw)
    have hw2 : (tlk (o * 10000 + w.2.2.2), w.2.2.1) ∈ A.map (fun q => (tlk (o * 10000 + q.2.2.2), q.2.2.1)) := List.mem_map.mpr ⟨w, hw, rfl⟩
    rw [hA] at hw2
    obtain ⟨u, hu, hu2⟩ := List.mem_map.mp hw2
    simp only [Prod.mk.injEq] at hu2
    have hu3 := h3 u (by rw [e1]; exact List.mem_append_left _ hu)
    exact ⟨hw1.2.2.1, _, link w u.1 hw1.2.2.2 hu2.1.symm, hO.2.2.2.2.2.2.2.2.2 x u.1 hx hu3 (fun z => e2 u hu z.symm)⟩
  · simp only [covers, Bool.and_eq_true, decide_eq_true_eq]
    exact ⟨hy1.1, hy1.2.1⟩
  · show W p l e R s m args below meth c0 H locs cells slots Q (F0 m y.2.2.1 ls [.ref q])
    rw [hy3]
    exact kk
set_option maxHeartbeats 4000000 in
theorem ex_ok {mm lv : Nat} {R0 : Rs} {E : Nat → List AV → List AV → Hp → Option Rs} (X : Ctx p R s m meth c0 cc o nL G)
    (hC : ∀ (b : Nat) (as : List AV) (h : Hp) (r : Rs), b < 368 → cl lv b as h = some r → CM l G lv b as h r)
    (h153 : ∀ (as : List AV) (h : Hp) (r : Rs), cl lv 153 as h = some r → ∃ ov, r.1 = .inl ov)
    (hR : 11 + lv ≤ R.frames ∧ 560 + 60 * lv ≤ R.locals) (hcap : R0.2.2 ≤ R.cells ∧ 6 * R0.2.2 ≤ R.slots)
    (htb : c0.exceptionTable.toList = tableOf (mHh mm))
    (KE : ∀ (i : AC) (pc pc' : Nat) (st : List AV) (h : Hp) (Vs : List Value) (ls : Array Slot) (H : Heap) (locs : List Loc) (c : Nat) (r : Rs), 82 ≤ i.1 → i.1 ≤ 88 → ckK mm o cc pc i = some pc' → ctl i st h = some (cend (some r)) → ls.size = nL → SR G st Vs → HR G s h H locs → fits R0 c r → W p l e R s m args below meth c0 H locs c (6 * c) Q (F0 m pc ls Vs))
    (KX : ∀ (x : Nat) (ce : Cell) (q : Addr) (H1 : Heap) (locs1 : List Loc) (pc : Nat) (ls : Array Slot) (rest : List Value) (h : Hp) (c : Nat), mHh mm = [] → x < 5 → R0 = (.inr x, h, c) → HR G s h H1 locs1 → H1[q]? = some ce → ce.vm = .none → s.vm.findClass (exT.getD x "") = some ce.cls → vx_W p l e R s m args below meth c0 H1 locs1 c (6 * c) Q (F0 m pc ls rest) q)
    (hE : ∀ (b : Nat) (σ st : List AV) (h : Hp) (r : Rs), E b σ st h = some r → ∀ (ls : Array Slot) (Vs : List Value) (H : Heap) (locs : List Loc) (c : Nat), nL = σ.length → LR G ls σ → SR G st Vs → HR G s h H locs → fits R0 c r → W p l e R s m args below meth c0 H locs c (6 * c) Q (F0 m b ls Vs)) :
    ∀ (L : List AC) (pc : Nat) (σ st : List AV) (h : Hp) (r : Rs), ckL mm o cc L pc = true → ex E (cl lv) L σ st h = some r → ∀ (ls : Array Slot) (Vs : List Value) (H : Heap) (locs : List Loc) (c : Nat), nL = σ.length → LR G ls σ → SR G st Vs → HR G s h H locs → fits R0 c r → W p l e R s m args below meth c0 H locs c (6 * c) Q (F0 m pc ls Vs) := by
  intro L
  induction L with
  | nil => intro pc σ st h r _ hx; cases hx
  | cons i L ih =>
    intro pc σ st h r hck hex ls Vs H locs c hnl hL hS hH hfit
    unfold ckL at hck
    unfold ex at hex
    by_cases hi : i.1 < 60
    · rw [if_pos hi] at hck hex
      cases hk : ck1 o cc pc i with
      | none => rw [hk] at hck; cases hck
      | some pc' =>
        rw [hk] at hck
        cases hs : step1 i σ st h with
        | none => rw [hs] at hex; cases hex
        | some q =>
          obtain ⟨σ', st', h'⟩ := q
          rw [hs] at hex
          exact sd_any X i hi hk hs hnl hL hS hH (fun H2 locs2 ls2 Vs2 g1 g2 g3 => ih pc' σ' st' h' r hck hex ls2 Vs2 H2 locs2 c (hnl.trans (step1_len hs).symm) g1 g2 g3 hfit)
    · rw [if_neg hi] at hck hex
      cases hk : ckK mm o cc pc i with
      | none => rw [hk] at hck; cases hck
      | some pc' =>
        rw [hk] at hck
        have hls : ls.size = nL := by rw [LR_size hL, hnl]
        -- what comes of a call
        have callK : ∀ (b : Nat) (as s0 : List AV) (hs : Option (List (Nat × Nat))), pc' = pc + 3 → b < 368 → cbind (cl lv b as h) (fun v h2 => ex E (cl lv) L σ (psh v s0) h2) (onTh E σ hs) = some r →
            (hs = none → mHh mm = []) → (∀ l, hs = some l → ∃ a, l = hTab a ∧ ckH mm o pc a = true) →
            ∃ rr : Rs, cl lv b as h = some rr ∧ (c + rr.2.2 ≤ R.cells ∧ 6 * c + 6 * rr.2.2 ≤ R.slots) ∧
              (∀ (x : Nat) (ce : Cell) (q : Addr) (H1 : Heap) (locs1 : List Loc) (rest : List Value), rr.1 = .inr x → x < 5 → HR G s rr.2.1 H1 locs1 → H1[q]? = some ce → ce.vm = .none → s.vm.findClass (exT.getD x "") = some ce.cls → vx_W p l e R s m args below meth c0 H1 locs1 (c + rr.2.2) (6 * c + 6 * rr.2.2) Q (F0 m pc ls rest) q) ∧
              (∀ (ov : Option AV) (Vs2 : List Value) (H1 : Heap) (locs1 : List Loc), rr.1 = .inl ov → SR G (psh ov s0) Vs2 → HR G s rr.2.1 H1 locs1 → W p l e R s m args below meth c0 H1 locs1 (c + rr.2.2) (6 * c + 6 * rr.2.2) Q (F0 m (pc + 3) ls Vs2)) := by
          intro b as s0 hs hpc hb hcb hn1 hn2
          obtain ⟨f1, f2, f3⟩ := hfit
          match hcl : cl lv b as h, hcb with
          | none, hcb => cases hcb
          | some (.inl v, g, k), hcb =>
            obtain ⟨ro, rg, rk, e1, e2⟩ := addc_to hcb
            subst e2
            simp only at f1 f2 f3
            refine ⟨_, rfl, ⟨by show c + k ≤ _; omega, by show 6 * c + 6 * k ≤ _; omega⟩, fun x ce q H1 locs1 rest hh => (by cases hh), fun ov Vs2 H1 locs1 hov g1 g2 => ?_⟩
            cases hov
            rw [← Nat.mul_add]
            exact ih (pc + 3) σ (psh v s0) g (ro, rg, rk) (hpc ▸ hck) e1 ls Vs2 H1 locs1 (c + k) hnl hL g1 g2 ⟨f1, f2, by show c + k + rk = _; omega⟩
          | some (.inr x, g, k), hcb =>
            obtain ⟨ro, rg, rk, e1, e2⟩ := addc_to hcb
            subst e2
            simp only at f1 f2 f3
            refine ⟨_, rfl, ⟨by show c + k ≤ _; omega, by show 6 * c + 6 * k ≤ _; omega⟩, fun x' ce q H1 locs1 rest hh hx5 g1 g2 g3 g4 => ?_, fun ov Vs2 H1 locs1 hov => by cases hov⟩
            cases hh
            rw [← Nat.mul_add]
            cases hs with
            | none =>
              cases e1
              refine KX x ce q H1 locs1 pc ls rest g (c + k) (hn1 rfl) hx5 ?_ g1 g2 g3 g4
              obtain ⟨R1, R2, R3⟩ := R0
              simp only at f1 f2 f3
              rw [← f1, ← f2, ← f3]
              rfl
            | some tl =>
              obtain ⟨a, rfl, hh⟩ := hn2 tl rfl
              simp only [onTh] at e1
              cases hf : hfind x (hTab a) with
              | none => rw [hf] at e1; cases e1
              | some t =>
                rw [hf] at e1
                exact catch_ok X hh htb hf hx5 g2 g3 g4 (hE t σ [none] g (ro, rg, rk) e1 ls [.ref q] H1 locs1 (c + k) hnl hL ⟨Or.inr ⟨q, rfl⟩, trivial⟩ g1 ⟨f1, f2, by show c + k + rk = _; omega⟩)
        obtain ⟨n, a, b, c'⟩ := i
        have hi : ¬ n < 60 := hi
        by_cases h79 : n = 79
        · subst h79
          obtain ⟨hk1, hk2⟩ := ifo_ok (show ifo (ckV o cc pc a b c' && (mHh mm).isEmpty) (pc + 3) = some pc' from hk)
          simp only [Bool.and_eq_true, List.isEmpty_iff] at hk1
          cases ht : tk c' [] st with
          | none => rw [show ctl (79, a, b, c') st h = none by simp only [ctl, ht]; rfl] at hex; cases hex
          | some q =>
            obtain ⟨as, s0⟩ := q
            by_cases hcd : rcv a as = true ∧ Nat.ble (wd s0) 8 = true
            · rw [show ctl (79, a, b, c') st h = some (ccall b as s0 none) by simp only [ctl, ht, Option.bind_some]; rw [hcd.1, hcd.2]; rfl] at hex
              obtain ⟨rr, g1, g2, g3, g4⟩ := callK b as s0 none hk2.symm (ckV_lt hk1.1) hex (fun _ => hk1.2) (fun _ z => by cases z)
              exact sc_V X hk1.1 ht hcd.1 hcd.2 hls hS hH (hC b as h rr (ckV_lt hk1.1) g1) hR g2 g3 g4
            · rw [show ctl (79, a, b, c') st h = none by
                simp only [ctl, ht, Option.bind_some]
                rw [if_neg]
                intro z
                simp only [Bool.and_eq_true] at z
                exact hcd z] at hex
              cases hex
        · by_cases h80 : n = 80
          · subst h80
            obtain ⟨hk1, hk2⟩ := ifo_ok (show ifo (ckS o cc pc b c' && (mHh mm).isEmpty) (pc + 3) = some pc' from hk)
            simp only [Bool.and_eq_true, List.isEmpty_iff] at hk1
            cases ht : tk c' [] st with
            | none => rw [show ctl (80, a, b, c') st h = none by simp only [ctl, ht]; rfl] at hex; cases hex
            | some q =>
              obtain ⟨as, s0⟩ := q
              by_cases hcd : Nat.ble (wd s0) 8 = true
              · rw [show ctl (80, a, b, c') st h = some (ccall b as s0 none) by simp only [ctl, ht, Option.bind_some]; rw [hcd]; rfl] at hex
                obtain ⟨rr, g1, g2, g3, g4⟩ := callK b as s0 none hk2.symm (ckS_lt hk1.1) hex (fun _ => hk1.2) (fun _ z => by cases z)
                exact sc_S X hk1.1 ht hcd hls hS hH (hC b as h rr (ckS_lt hk1.1) g1) (fun hb => h153 as h rr (hb ▸ g1)) hR g2 g3 g4
              · rw [show ctl (80, a, b, c') st h = none by simp only [ctl, ht, Option.bind_some]; rw [if_neg hcd]] at hex
                cases hex
          · by_cases h81 : n = 81
            · subst h81
              obtain ⟨hk1, hk2⟩ := ifo_ok (show ifo (ckV o cc pc 11 b c' && ckH mm o pc a.toNat) (pc + 3) = some pc' from hk)
              simp only [Bool.and_eq_true] at hk1
              cases ht : tk c' [] st with
              | none => rw [show ctl (81, a, b, c') st h = none by simp only [ctl, ht]; rfl] at hex; cases hex
              | some q =>
                obtain ⟨as, s0⟩ := q
                by_cases hcd : rcv 11 as = true ∧ Nat.ble (wd s0) 8 = true
                · rw [show ctl (81, a, b, c') st h = some (ccall b as s0 (some (hTab a.toNat))) by simp only [ctl, ht, Option.bind_some]; rw [hcd.1, hcd.2]; rfl] at hex
                  obtain ⟨rr, g1, g2, g3, g4⟩ := callK b as s0 (some (hTab a.toNat)) hk2.symm (ckV_lt hk1.1) hex (fun z => by cases z) (fun _ z => by cases z; exact ⟨_, rfl, hk1.2⟩)
                  exact sc_V X hk1.1 ht hcd.1 hcd.2 hls hS hH (hC b as h rr (ckV_lt hk1.1) g1) hR g2 g3 g4
                · rw [show ctl (81, a, b, c') st h = none by
                    simp only [ctl, ht, Option.bind_some]
                    rw [if_neg]
                    intro z
                    simp only [Bool.and_eq_true] at z
                    exact hcd z] at hex
                  cases hex
            · by_cases h8 : 82 ≤ n ∧ n ≤ 88
              · match hct : ctl (n, a, b, c') st h, hex with
                | none, hex => cases hex
                | some (.inl _), _ =>
                  exfalso
                  have : n = 82 ∨ n = 83 ∨ n = 84 ∨ n = 85 ∨ n = 86 ∨ n = 87 ∨ n = 88 := by omega
                  rcases this with rfl | rfl | rfl | rfl | rfl | rfl | rfl <;> simp only [ctl] at hct <;> (try split at hct) <;> (try split at hct) <;> cases hct
                | some (.inr (.inl _)), _ =>
                  exfalso
                  have : n = 82 ∨ n = 83 ∨ n = 84 ∨ n = 85 ∨ n = 86 ∨ n = 87 ∨ n = 88 := by omega
                  rcases this with rfl | rfl | rfl | rfl | rfl | rfl | rfl <;> simp only [ctl] at hct <;> (try split at hct) <;> (try split at hct) <;> cases hct
                | some (.inr (.inr (.inl _))), _ =>
                  exfalso
                  have : n = 82 ∨ n = 83 ∨ n = 84 ∨ n = 85 ∨ n = 86 ∨ n = 87 ∨ n = 88 := by omega
                  rcases this with rfl | rfl | rfl | rfl | rfl | rfl | rfl <;> simp only [ctl] at hct <;> (try split at hct) <;> (try split at hct) <;> cases hct
                | some (.inr (.inr (.inr (some rr)))), hex =>
                  cases hex
                  exact KE (n, a, b, c') pc pc' st h Vs ls H locs c _ h8.1 h8.2 hk hct hls hS hH hfit
                | some (.inr (.inr (.inr none))), hex => cases hex
              · by_cases h99 : n = 99
                · subst h99
                  cases hex
                · have hj := ckK_J ⟨by omega, h99⟩ hk
                  match hct : ctl (n, a, b, c') st h, hex with
                  | none, hex => cases hex
                  | some ct, hex =>
                    refine sj_any X (n, a, b, c') hj hct hS (fun b2 s2 Vs2 e1 g1 => ?_) (fun s2 Vs2 e1 g1 => ?_)
                    · subst e1
                      exact hE b2 σ s2 h r hex ls Vs2 H locs c hnl hL g1 hH hfit
                    · subst e1
                      exact ih pc' σ s2 h r hck hex ls Vs2 H locs c hnl hL g1 hH hfit
end Meth
