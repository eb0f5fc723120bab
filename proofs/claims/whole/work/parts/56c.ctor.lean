/-! The steps that make cells and write them. -/
theorem fit_Z {v : Int32} (h : v.toInt = 0 ∨ v.toInt = 1) : Jvm.fits .boolean (.int v) = true := by
  rcases h with h | h
  · have : v = 0 := Int32.toInt_inj.mp h
    subst this; rfl
  · have : v = 1 := Int32.toInt_inj.mp h
    subst this; rfl
section CT
variable {p : Program} {l : Launch} {e : Env} {R : Room} {s : State} {m : MethodId} {args : Array Value} {below : List Frame} {meth : Method} {c0 : Code} {Q : State → Prop} {cells slots : Nat} {cc : ByteArray} {o nL : Nat} {G : WG}
variable {H : Heap} {locs : List Loc} {ls : Array Slot} {Vs rest : List Value} {pc : Nat} {ws : List BC}
theorem W_sz {g : JFrame} (h : H.size ≤ s.heap.size + cells → W p l e R s m args below meth c0 H locs cells slots Q g) : W p l e R s m args below meth c0 H locs cells slots Q g := fun T hT X => h (by have := X.same.2.2.1; rw [← hT]; exact this) T hT X
theorem pin {q : Nat} {E : va_E} {H1 : Heap} (hP : va_P (gD G) vwCl (wsB G ws ++ [(q, E)]) H1) (hD : va_D (gA G) (wsB G ws ++ [(q, E)])) (hz : H1.size ≤ gB G + ws.length + 1) : q = gB G + ws.length := by
  have hlen : (wsB G ws).length = ws.length := by unfold wsB; rw [List.length_mapIdx]
  have hq : (wsB G ws ++ [(q, E)])[ws.length]? = some (q, E) := by rw [List.getElem?_append_right (by omega), hlen, Nat.sub_self]; rfl
  have hlt : q < H1.size := vx_lt hP hq
  have hge : gB G ≤ q := hD.2 _ _ hq
  by_cases h : q < gB G + ws.length
  · exfalso
    have hi : q - gB G < ws.length := by omega
    have hw : (wsB G ws ++ [(q, E)])[q - gB G]? = some (gB G + (q - gB G), bE G ws[q - gB G]) := by
      rw [List.getElem?_append_left (by omega)]
      exact wsB_get G (List.getElem?_eq_getElem hi)
    have := hD.1 _ _ _ _ hw hq (by show gB G + (q - gB G) = q; omega)
    omega
  · omega
theorem vb_new {c x : Nat} (X : Ctx p R s m meth c0 cc o nL G) (hK : va_K (gD G) vwCl (gT G) s) (hc : c < 13) (hx1 : x < 10000) (hlk : czk (o * 10000 + x) = some c) (hB : va_P (gD G) vwCl (wsB G ws) H) (hz : s.heap.size + cells = gB G + ws.length) (hS : va_S (gA G) s.heap H locs) (hcells : cells + 1 ≤ R.cells) (hslots : slots + nF c ≤ R.slots) (hd : decode cc pc = .ok (.new x, 3))
    (kk : ∀ H1 : Heap, va_P (gD G) vwCl (wsB G (ws ++ [(0, c, kDef c, [])])) H1 → va_S (gA G) s.heap H1 locs → W p l e R s m args below meth c0 H1 locs (cells + 1) (slots + nF c) Q (F0 m (pc + 3) ls (.ref (gB G + ws.length) :: rest))) : W p l e R s m args below meth c0 H locs cells slots Q (F0 m pc ls rest) := by
  obtain ⟨hx, hb, hown, hg, hO, -⟩ := X
  obtain ⟨k1, k2, ⟨ty0, k3⟩, k4⟩ := cl_ok c hc
  obtain ⟨-, h2, -, -, -, h6⟩ := kok_all c hc
  have hl := czk_ok hlk
  simp only [czQ] at hl
  rw [show (o * 10000 + x) / 10000 = o by omega, show (o * 10000 + x) % 10000 = x by omega] at hl
  refine va_new (Ts := u_ws (cN c) (tF c) (nF c)) (fs := (kDef c).map (avV G)) hx hb (fun w hw => hg.at (k2 w hw).1 (k2 w hw).2 args) (fun w hw => hw) ty0 k3 hown (hg.at hl rfl args) (hg.at h6 rfl args) (hg.at h2 rfl args) hK hB (wsB_D G ws) hS (fun q hq => Nat.le_trans hO.2.2.2.2.2.2.2.2.1 hq) k1 (fun j hj => df_ok hc hj (k3 j hj)) hcells hslots hd (fun q H1 hP1 hD1 hS1 => ?_)
  refine W_sz (fun hz1 => ?_)
  have hq := pin hP1 hD1 (by omega)
  subst hq
  exact kk H1 (by rw [wsB_push]; exact hP1) hS1
/-- an array of a small kind -/
theorem vb_newa {kd j : Nat} {n : Int32} {at0 : ArrayType} {ty : FieldType} {a0 : vp_A} (X : Ctx p R s m meth c0 cc o nL G) (hK : va_K (gD G) vwCl (gT G) s) (hty : newarray.typeOf at0 = ty) (harr : Cond.arrayClass ty ∈ lw_tbl) (hgT : (gT G)[j]? = some (gC G j, ty)) (hra : ∀ cA, va_RA s cA ty → s.vm.findClass ("[" ++ ty.toString) = some cA) (hn : 0 ≤ n.toInt) (hnb : n.toInt ≤ 10000) (hE : bE G (kd, n.toInt.toNat, [], []) = .inl (gC G j, a0)) (ha : ∀ cA, vp_cell cA a0 = arrV cA n.toInt.toNat (fun _ => defaultValue ty)) (hcb : componentBytes ty ≤ 8) (hB : va_P (gD G) vwCl (wsB G ws) H) (hz : s.heap.size + cells = gB G + ws.length) (hS : va_S (gA G) s.heap H locs) (hcells : cells + 1 ≤ R.cells) (hslots : slots + n.toInt.toNat ≤ R.slots) (hd : decode cc pc = .ok (.newarray at0, 2))
    (kk : ∀ H1 : Heap, va_P (gD G) vwCl (wsB G (ws ++ [(kd, n.toInt.toNat, [], [])])) H1 → va_S (gA G) s.heap H1 locs → W p l e R s m args below meth c0 H1 locs (cells + 1) (slots + n.toInt.toNat) Q (F0 m (pc + 2) ls (.ref (gB G + ws.length) :: rest))) : W p l e R s m args below meth c0 H locs cells slots Q (F0 m pc ls (.int n :: rest)) := by
  obtain ⟨hx, hb, hown, hg, hO, -⟩ := X
  subst hty
  have hcn : n.toNatClampNeg = n.toInt.toNat := rfl
  have hbytes : n.toInt.toNat * componentBytes (newarray.typeOf at0) ≤ 536870912 := Nat.le_trans (Nat.mul_le_mul_left _ hcb) (by omega)
  refine va_newa hx hb (hg.at harr rfl args) rfl hK hB (wsB_D G ws) hS (fun q hq => Nat.le_trans hO.2.2.2.2.2.2.2.2.1 hq) ha (by rw [Int32.lt_iff_toInt_lt]; show ¬ n.toInt < 0; omega) hcn hbytes hcells hslots hd (fun q cA H1 hK1 hP1 hD1 hS1 => ?_)
  have hcA : cA = gC G j := by
    have h1 := hra _ (hK.2 j _ hgT).2
    have h2 := hra _ (hK1.2 (gT G).length (cA, newarray.typeOf at0) (by rw [List.getElem?_append_right (Nat.le_refl _), Nat.sub_self]; rfl)).2
    rw [h1] at h2
    exact (Option.some.inj h2).symm
  subst hcA
  refine W_sz (fun hz1 => ?_)
  have hq := pin hP1 hD1 (by omega)
  subst hq
  exact kk H1 (by rw [wsB_push, hE]; exact hP1) hS1
theorem vb_newq {x : Nat} {n : Int32} (X : Ctx p R s m meth c0 cc o nL G) (hK : va_K (gD G) vwCl (gT G) s) (hover : va_AO "FourHands$State" s) (hx1 : x < 10000) (hlk : czk (o * 10000 + x) = some 7) (hn : 0 ≤ n.toInt) (hnb : n.toInt ≤ 10000) (hB : va_P (gD G) vwCl (wsB G ws) H) (hz : s.heap.size + cells = gB G + ws.length) (hS : va_S (gA G) s.heap H locs) (hcells : cells + 1 ≤ R.cells) (hslots : slots + n.toInt.toNat ≤ R.slots) (hd : decode cc pc = .ok (.anewarray x, 3))
    (kk : ∀ H1 : Heap, va_P (gD G) vwCl (wsB G (ws ++ [(4, n.toInt.toNat, [], [])])) H1 → va_S (gA G) s.heap H1 locs → W p l e R s m args below meth c0 H1 locs (cells + 1) (slots + n.toInt.toNat) Q (F0 m (pc + 3) ls (.ref (gB G + ws.length) :: rest))) : W p l e R s m args below meth c0 H locs cells slots Q (F0 m pc ls (.int n :: rest)) := by
  obtain ⟨hx, hb, hown, hg, hO, -⟩ := X
  have hl := czk_ok hlk
  simp only [czQ] at hl
  rw [show (o * 10000 + x) / 10000 = o by omega, show (o * 10000 + x) % 10000 = x by omega] at hl
  have hcn : n.toNatClampNeg = n.toInt.toNat := rfl
  refine va_newq (C := "FourHands$State") hx hb hown (hg.at hl rfl args) hover hK hB (wsB_D G ws) hS (fun q hq => Nat.le_trans hO.2.2.2.2.2.2.2.2.1 hq) (by rw [Int32.lt_iff_toInt_lt]; show ¬ n.toInt < 0; omega) hcn (by omega) hcells hslots hd (fun q cA H1 hK1 hP1 hD1 hS1 => ?_)
  have hcA : cA = gC G 3 := by
    obtain ⟨-, -, -, -, -, g4⟩ := (hK.2 3 (gC G 3, .object "FourHands$State") rfl).2
    obtain ⟨-, -, -, -, -, g5⟩ := (hK1.2 (gT G).length (cA, .object "FourHands$State") (by rw [List.getElem?_append_right (Nat.le_refl _), Nat.sub_self]; rfl)).2
    rw [g4] at g5
    exact (Option.some.inj g5).symm
  subst hcA
  refine W_sz (fun hz1 => ?_)
  have hq := pin hP1 hD1 (by omega)
  subst hq
  exact kk H1 (by rw [wsB_push]; exact hP1) hS1
/-- the value that a field takes -/
def fitB (c j : Nat) (v : AV) : Bool := match v, parseFieldDescriptor (tF c j).2.2.1 with
  | some (.inl _), some .int => true
  | some (.inl x), some .boolean => decide (x = 0 ∨ x = 1)
  | some (.inr (.inr (t, _))), some (.object _) => decide (t ≠ 20 ∧ t ≠ 21 ∧ t ≠ 22)
  | some (.inr (.inr (t, _))), some (.array _) => decide (t ≠ 20 ∧ t ≠ 21 ∧ t ≠ 22)
  | _, _ => false
theorem vb_put {c j x i : Nat} {fs : List AV} {v : AV} {V : Value} {u : List (Nat × AV)} (X : Ctx p R s m meth c0 cc o nL G) (hK : va_K (gD G) vwCl (gT G) s) (hin : meth.name = "<init>") (hc : c < 13) (hj : j < nF c) (hx1 : x < 10000) (hlk : flk (o * 10000 + x) = some (c, j)) (hdc : (tF c j).1 = cN o) (hfit : fitB c j v = true) (hr : rvl G v V) (hi : ws[i]? = some (0, c, fs, u)) (hjl : j < fs.length) (hB : va_P (gD G) vwCl (wsB G ws) H) (hS : va_S (gA G) s.heap H locs) (hd : decode cc pc = .ok (.putfield x, 3))
    (kk : ∀ (H1 : Heap) (locs1 : List Loc), va_P (gD G) vwCl (wsB G (ws.set i (0, c, fs.set j v, u))) H1 → va_S (gA G) s.heap H1 locs1 → W p l e R s m args below meth c0 H1 locs1 cells slots Q (F0 m (pc + 3) ls rest)) : W p l e R s m args below meth c0 H locs cells slots Q (F0 m pc ls (V :: .ref (gB G + i) :: rest)) := by
  obtain ⟨hx, hb, hown, hg, hO, -⟩ := X
  obtain ⟨k1, k2, ⟨ty0, k3⟩, k4⟩ := cl_ok c hc
  have hl := flk_ok hlk
  simp only [flQ] at hl
  rw [show (o * 10000 + x) / 10000 = o by omega, show (o * 10000 + x) % 10000 = x by omega] at hl
  have hw := wsB_get G hi
  have hjl2 : j < (fs.map (avV G)).length := by rw [List.length_map]; exact hjl
  have go : avV G v = V → ∀ (H1 : Heap) (locs1 : List Loc), va_P (gD G) vwCl ((wsB G ws).set i (gB G + i, .inr (c, (fs.map (avV G)).set j V))) H1 → va_D (gA G) ((wsB G ws).set i (gB G + i, .inr (c, (fs.map (avV G)).set j V))) → va_S (gA G) s.heap H1 locs1 → W p l e R s m args below meth c0 H1 locs1 cells slots Q (F0 m (pc + 3) ls rest) := by
    intro hav H1 locs1 hP1 _ hS1
    refine kk H1 locs1 ?_ hS1
    rw [← wsB_set]
    have hset : (fs.map (avV G)).set j V = (fs.set j v).map (avV G) := by rw [List.map_set, hav]
    rw [hset] at hP1
    exact hP1
  unfold fitB at hfit
  by_cases hfin : (tF c j).2.2.2 = true
  · split at hfit
    · rename_i x h1
      have hav := rvl_av hr (Or.inl ⟨x, rfl⟩)
      obtain ⟨w, rfl, ew⟩ := rvl_I hr
      exact va_putF (Ts := u_ws (cN c) (tF c) (nF c)) (ref := (tF c j).1) (ty := .int) hx hb (fun w hw => hg.at (k2 w hw).1 (k2 w hw).2 args) (fun w hw => hw) ty0 k3 k4 hown hK hB (wsB_D G ws) hS i hw k1 j hj (hg.at hl rfl args) (fun _ z => z) hfin hin hdc h1 rfl rfl hjl2 hd (go hav)
    · rename_i x h1
      have hav := rvl_av hr (Or.inl ⟨x, rfl⟩)
      obtain ⟨w, rfl, ew⟩ := rvl_I hr
      simp only [decide_eq_true_eq] at hfit
      exact va_putF (Ts := u_ws (cN c) (tF c) (nF c)) (ref := (tF c j).1) (ty := .boolean) hx hb (fun w hw => hg.at (k2 w hw).1 (k2 w hw).2 args) (fun w hw => hw) ty0 k3 k4 hown hK hB (wsB_D G ws) hS i hw k1 j hj (hg.at hl rfl args) (fun _ z => z) hfin hin hdc h1 (nar_Z (by rw [ew]; exact hfit)) (fit_Z (by rw [ew]; exact hfit)) hjl2 hd (go hav)
    · rename_i t k C h1
      simp only [decide_eq_true_eq] at hfit
      obtain ⟨-, rfl⟩ := rvl_idx hr hfit
      exact va_putF (Ts := u_ws (cN c) (tF c) (nF c)) (ref := (tF c j).1) (ty := .object C) hx hb (fun w hw => hg.at (k2 w hw).1 (k2 w hw).2 args) (fun w hw => hw) ty0 k3 k4 hown hK hB (wsB_D G ws) hS i hw k1 j hj (hg.at hl rfl args) (fun _ z => z) hfin hin hdc h1 rfl rfl hjl2 hd (go rfl)
    · rename_i t k C h1
      simp only [decide_eq_true_eq] at hfit
      obtain ⟨-, rfl⟩ := rvl_idx hr hfit
      exact va_putF (Ts := u_ws (cN c) (tF c) (nF c)) (ref := (tF c j).1) (ty := .array C) hx hb (fun w hw => hg.at (k2 w hw).1 (k2 w hw).2 args) (fun w hw => hw) ty0 k3 k4 hown hK hB (wsB_D G ws) hS i hw k1 j hj (hg.at hl rfl args) (fun _ z => z) hfin hin hdc h1 rfl rfl hjl2 hd (go rfl)
    · cases hfit
  · have hfin : (tF c j).2.2.2 = false := by simpa using hfin
    split at hfit
    · rename_i x h1
      have hav := rvl_av hr (Or.inl ⟨x, rfl⟩)
      obtain ⟨w, rfl, ew⟩ := rvl_I hr
      exact va_put (Ts := u_ws (cN c) (tF c) (nF c)) (ref := (tF c j).1) (ty := .int) hx hb (fun w hw => hg.at (k2 w hw).1 (k2 w hw).2 args) (fun w hw => hw) ty0 k3 k4 hown hK hB (wsB_D G ws) hS i hw k1 j hj (hg.at hl rfl args) (fun _ z => z) hfin h1 rfl rfl hjl2 hd (go hav)
    · rename_i x h1
      have hav := rvl_av hr (Or.inl ⟨x, rfl⟩)
      obtain ⟨w, rfl, ew⟩ := rvl_I hr
      simp only [decide_eq_true_eq] at hfit
      exact va_put (Ts := u_ws (cN c) (tF c) (nF c)) (ref := (tF c j).1) (ty := .boolean) hx hb (fun w hw => hg.at (k2 w hw).1 (k2 w hw).2 args) (fun w hw => hw) ty0 k3 k4 hown hK hB (wsB_D G ws) hS i hw k1 j hj (hg.at hl rfl args) (fun _ z => z) hfin h1 (nar_Z (by rw [ew]; exact hfit)) (fit_Z (by rw [ew]; exact hfit)) hjl2 hd (go hav)
    · rename_i t k C h1
      simp only [decide_eq_true_eq] at hfit
      obtain ⟨-, rfl⟩ := rvl_idx hr hfit
      exact va_put (Ts := u_ws (cN c) (tF c) (nF c)) (ref := (tF c j).1) (ty := .object C) hx hb (fun w hw => hg.at (k2 w hw).1 (k2 w hw).2 args) (fun w hw => hw) ty0 k3 k4 hown hK hB (wsB_D G ws) hS i hw k1 j hj (hg.at hl rfl args) (fun _ z => z) hfin h1 rfl rfl hjl2 hd (go rfl)
    · rename_i t k C h1
      simp only [decide_eq_true_eq] at hfit
      obtain ⟨-, rfl⟩ := rvl_idx hr hfit
      exact va_put (Ts := u_ws (cN c) (tF c) (nF c)) (ref := (tF c j).1) (ty := .array C) hx hb (fun w hw => hg.at (k2 w hw).1 (k2 w hw).2 args) (fun w hw => hw) ty0 k3 k4 hown hK hB (wsB_D G ws) hS i hw k1 j hj (hg.at hl rfl args) (fun _ z => z) hfin h1 rfl rfl hjl2 hd (go rfl)
    · cases hfit
theorem vb_gtf {c j x i t k : Nat} {fs : List AV} {u : List (Nat × AV)} (X : Ctx p R s m meth c0 cc o nL G) (hK : va_K (gD G) vwCl (gT G) s) (hc : c < 13) (hj : j < nF c) (hx1 : x < 10000) (hlk : flk (o * 10000 + x) = some (c, j)) (hi : ws[i]? = some (0, c, fs, u)) (hf : fs[j]? = some (some (.inr (.inr (t, k))))) (hB : va_P (gD G) vwCl (wsB G ws) H) (hd : decode cc pc = .ok (.getfield x, 3))
    (kk : W p l e R s m args below meth c0 H locs cells slots Q (F0 m (pc + 3) ls (.ref (gB G + ixO t k) :: rest))) : W p l e R s m args below meth c0 H locs cells slots Q (F0 m pc ls (.ref (gB G + i) :: rest)) := by
  obtain ⟨hx, hb, hown, hg, hO, -⟩ := X
  obtain ⟨k1, k2, ⟨ty0, k3⟩, k4⟩ := cl_ok c hc
  have hl := flk_ok hlk
  simp only [flQ] at hl
  rw [show (o * 10000 + x) / 10000 = o by omega, show (o * 10000 + x) % 10000 = x by omega] at hl
  have hw := wsB_get G hi
  exact va_get (Ts := u_ws (cN c) (tF c) (nF c)) (ref := (tF c j).1) (v := .ref (gB G + ixO t k)) hx hb (fun w hw => hg.at (k2 w hw).1 (k2 w hw).2 args) (fun w hw => hw) hown hK hB i hw k1 j hj (hg.at hl rfl args) (fun _ z => z) (by rw [List.getElem?_map, hf]; rfl) hd kk
theorem vb_iast {i n : Nat} {u : List (Nat × AV)} {fs : List AV} {ix x : Int32} (X : Ctx p R s m meth c0 cc o nL G) (hK : va_K (gD G) vwCl (gT G) s) (hi : ws[i]? = some (1, n, fs, u)) (h0 : 0 ≤ ix.toInt) (h1 : ix.toInt < n) (hB : va_P (gD G) vwCl (wsB G ws) H) (hS : va_S (gA G) s.heap H locs) (hd : decode cc pc = .ok (.iastore, 1))
    (kk : ∀ (H1 : Heap) (locs1 : List Loc), va_P (gD G) vwCl (wsB G (ws.set i (1, n, fs, (ix.toInt.toNat, some (.inl x.toInt)) :: u))) H1 → va_S (gA G) s.heap H1 locs1 → W p l e R s m args below meth c0 H1 locs1 cells slots Q (F0 m (pc + 1) ls rest)) : W p l e R s m args below meth c0 H locs cells slots Q (F0 m pc ls (.int x :: .int ix :: .ref (gB G + i) :: rest)) := by
  obtain ⟨hx, hb, hown, hg, hO, -⟩ := X
  refine va_iast hx hb hK hB (wsB_D G ws) hS i 0 (wsB_get G hi) rfl (vp_in_iff.mpr ⟨h0, h1⟩) hd (fun H1 locs1 hP1 _ hS1 => kk H1 locs1 ?_ hS1)
  rw [← wsB_set]
  have : bE G (1, n, fs, (ix.toInt.toNat, some (.inl x.toInt)) :: u) = .inl (gC G 0, n, .inl (upd (fun i => Int32.ofInt (updI u i)) ix.toNatClampNeg x)) := by
    show (Sum.inl (gC G 0, n, .inl (fun i => Int32.ofInt (if i = ix.toInt.toNat then x.toInt else updI u i))) : va_E) = _
    congr 4
    funext j
    show _ = if j = ix.toNatClampNeg then x else _
    have hcn : ix.toNatClampNeg = ix.toInt.toNat := rfl
    rw [hcn]
    split
    · rw [to32]
    · rfl
  rw [this]
  exact hP1
theorem vb_aast {i n i2 t k : Nat} {u u2 : List (Nat × AV)} {fs fs2 : List AV} {ix : Int32} (X : Ctx p R s m meth c0 cc o nL G) (hK : va_K (gD G) vwCl (gT G) s) (hi : ws[i]? = some (4, n, fs, u)) (h2 : ws[i2]? = some (0, 7, fs2, u2)) (he : i2 = ixO t k) (h0 : 0 ≤ ix.toInt) (h1 : ix.toInt < n) (hB : va_P (gD G) vwCl (wsB G ws) H) (hS : va_S (gA G) s.heap H locs) (hd : decode cc pc = .ok (.aastore, 1))
    (kk : ∀ (H1 : Heap) (locs1 : List Loc), va_P (gD G) vwCl (wsB G (ws.set i (4, n, fs, (ix.toInt.toNat, some (.inr (.inr (t, k)))) :: u))) H1 → va_S (gA G) s.heap H1 locs1 → W p l e R s m args below meth c0 H1 locs1 cells slots Q (F0 m (pc + 1) ls rest)) : W p l e R s m args below meth c0 H locs cells slots Q (F0 m pc ls (.ref (gB G + i2) :: .int ix :: .ref (gB G + i) :: rest)) := by
  obtain ⟨hx, hb, hown, hg, hO, -⟩ := X
  obtain ⟨k1, -⟩ := cl_ok 7 (by omega)
  refine va_astq (r := (cN 7, tF 7, nF 7)) hx hb hK hB (wsB_D G ws) hS i 3 i2 7 (wsB_get G hi) rfl (wsB_get G h2) k1 (vp_in_iff.mpr ⟨h0, h1⟩) hd (fun H1 locs1 hP1 _ hS1 => kk H1 locs1 ?_ hS1)
  rw [← wsB_set]
  have : bE G (4, n, fs, (ix.toInt.toNat, some (.inr (.inr (t, k)))) :: u) = .inl (gC G 3, n, .inr (.inr (.inr (.inr (va_up (updR G u) ix.toNatClampNeg (some (gB G + i2))))))) := by
    subst he
    rfl
  rw [this]
  exact hP1
end CT
