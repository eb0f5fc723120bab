/-! THE CONSTRUCTORS, by a small machine of their own: cells are made one behind another. Written by wip/src/mk56b.py. -/
abbrev BC : Type := Nat × Nat × List AV × List (Nat × AV)
def avV (G : WG) : AV → Value
  | some (.inl x) => .int (Int32.ofInt x)
  | some (.inr (.inr (t, k))) => .ref (gB G + ixO t k)
  | _ => .null
def avI : AV → Int
  | some (.inl x) => x
  | _ => 0
def avR (G : WG) : AV → Option Nat
  | some (.inr (.inr (t, k))) => some (gB G + ixO t k)
  | _ => none
def updI : List (Nat × AV) → Nat → Int
  | [], _ => 0
  | q :: l, i => if i = q.1 then avI q.2 else updI l i
def updR (G : WG) : List (Nat × AV) → Nat → Option Nat
  | [], _ => none
  | q :: l, i => if i = q.1 then avR G q.2 else updR G l i
def bE (G : WG) (c : BC) : va_E := match c.1 with
  | 0 => .inr (c.2.1, c.2.2.1.map (avV G))
  | 1 => .inl (gC G 0, c.2.1, .inl (fun i => Int32.ofInt (updI c.2.2.2 i)))
  | 2 => .inl (gC G 1, c.2.1, .inl (fun i => Int32.ofInt (updI c.2.2.2 i)))
  | 3 => .inl (gC G 2, c.2.1, .inr (.inl (fun i => Int64.ofInt (updI c.2.2.2 i))))
  | _ => .inl (gC G 3, c.2.1, .inr (.inr (.inr (.inr (updR G c.2.2.2)))))
def wsB (G : WG) (ws : List BC) : va_W := ws.mapIdx (fun i c => (gB G + i, bE G c))
def slB (c : BC) : Nat := if c.1 = 0 then nF c.2.1 else c.2.1
def slW (ws : List BC) : Nat := (ws.map slB).sum
def kDef (c : Nat) : List AV := (List.range (nF c)).map (fun j => if (fK c j).1 < 2 then aI 0 else none)
theorem wsB_get (G : WG) {ws : List BC} {i : Nat} {c : BC} (h : ws[i]? = some c) : (wsB G ws)[i]? = some (gB G + i, bE G c) := by
  unfold wsB
  rw [List.getElem?_mapIdx, h]
  rfl
theorem wsB_push (G : WG) (ws : List BC) (c : BC) : wsB G (ws ++ [c]) = wsB G ws ++ [(gB G + ws.length, bE G c)] := by
  unfold wsB
  rw [List.mapIdx_append]
  simp
theorem wsB_set (G : WG) {ws : List BC} {i : Nat} (c : BC) : (wsB G ws).set i (gB G + i, bE G c) = wsB G (ws.set i c) := by
  apply List.ext_getElem?
  intro j
  unfold wsB
  rw [List.getElem?_set, List.getElem?_mapIdx, List.getElem?_mapIdx, List.getElem?_set, List.length_mapIdx]
  by_cases hj : i = j
  · subst hj
    rw [if_pos rfl, if_pos rfl]
    split <;> rfl
  · rw [if_neg hj, if_neg hj]
theorem wsB_D (G : WG) (ws : List BC) : va_D (gA G) (wsB G ws) := by
  have key : ∀ (i : Nat) (x : Nat × va_E), (wsB G ws)[i]? = some x → x.1 = gB G + i := by
    intro i x hx
    unfold wsB at hx
    rw [List.getElem?_mapIdx] at hx
    cases ho : ws[i]? with
    | none => rw [ho] at hx; cases hx
    | some q => rw [ho] at hx; cases hx; rfl
  refine ⟨fun i j x y hx hy e => ?_, fun i x hx => ?_⟩
  · have := key i x hx; have := key j y hy; omega
  · show gB G ≤ x.1
    rw [key i x hx]; omega
theorem ob_tags : obT.all (fun q => decide (q.1 ≠ 20 ∧ q.1 ≠ 21 ∧ q.1 ≠ 22)) = true := by decide +kernel
theorem ob_tag {i t k : Nat} (h : obT[i]? = some (t, k)) : t ≠ 20 ∧ t ≠ 21 ∧ t ≠ 22 := by
  have := List.all_eq_true.mp ob_tags _ (List.mem_of_getElem? h)
  simpa using this
theorem rvl_idx {G : WG} {t k : Nat} {V : Value} (h : rvl G (some (.inr (.inr (t, k)))) V) (h0 : t ≠ 20 ∧ t ≠ 21 ∧ t ≠ 22) : obT[ixO t k]? = some (t, k) ∧ V = .ref (gB G + ixO t k) := by
  obtain ⟨i, hi, e⟩ := rvl_A h h0.1 h0.2.1 h0.2.2
  rw [ix_ok hi]
  exact ⟨hi, e⟩
theorem rvl_av {G : WG} {v : AV} {V : Value} (h : rvl G v V) (hv : (∃ x, v = some (.inl x)) ∨ ∃ t k, v = some (.inr (.inr (t, k))) ∧ t ≠ 20 ∧ t ≠ 21 ∧ t ≠ 22) : avV G v = V := by
  rcases hv with ⟨x, rfl⟩ | ⟨t, k, rfl, h0⟩
  · obtain ⟨w, rfl, e⟩ := rvl_I h
    show Value.int (Int32.ofInt x) = _
    rw [← e, to32]
  · obtain ⟨-, rfl⟩ := rvl_idx h h0
    rfl
theorem df_all : (List.range 13).all (fun c => (List.range (nF c)).all (fun j => match parseFieldDescriptor (tF c j).2.2.1 with
    | some ty => decide (defaultValue ty = if (fK c j).1 < 2 then Value.int 0 else Value.null)
    | none => false)) = true := by decide +kernel
theorem df_ok {G : WG} {c j : Nat} {ty : FieldType} (hc : c < 13) (hj : j < nF c) (h : parseFieldDescriptor (tF c j).2.2.1 = some ty) : defaultValue ty = vp_V ((kDef c).map (avV G)) j := by
  have h1 := List.all_eq_true.mp (List.all_eq_true.mp df_all c (List.mem_range.mpr hc)) j (List.mem_range.mpr hj)
  rw [h] at h1
  simp only [decide_eq_true_eq] at h1
  rw [h1]
  unfold vp_V kDef
  rw [List.getD_eq_getElem?_getD, List.map_map, List.getElem?_map, List.getElem?_range hj]
  show _ = avV G (if (fK c j).1 < 2 then aI 0 else none)
  split <;> rfl
section SB
variable {p : Program} {l : Launch} {e : Env} {R : Room} {s : State} {m : MethodId} {args : Array Value} {below : List Frame} {meth : Method} {c0 : Code} {Q : State → Prop} {cells slots : Nat} {cc : ByteArray} {o nL : Nat} {G : WG}
variable {H : Heap} {locs : List Loc} {ls : Array Slot} {Vs : List Value} {pc pc' : Nat} {a : Int} {b c : Nat} {σ st σ' st' : List AV} {h h' : Hp} {BP : Heap → List Loc → Prop}
theorem sb_1 (X : Ctx p R s m meth c0 cc o nL G) (hck : ck1 o cc pc (1, a, b, c) = some pc') (hst : step1 (1, a, b, c) σ st h = some (σ', st', h')) (hL : LR G ls σ) (hS : SR G st Vs) (hH : BP H locs) 
    (K : ∀ (H2 : Heap) (locs2 : List Loc) (ls2 : Array Slot) (Vs2 : List Value), LR G ls2 σ' → SR G st' Vs2 → BP H2 locs2 → W p l e R s m args below meth c0 H2 locs2 cells slots Q (F0 m pc' ls2 Vs2)) : W p l e R s m args below meth c0 H locs cells slots Q (F0 m pc ls Vs) := by
  obtain ⟨hx, hb, hown, hg, -⟩ := X
  simp only [step1] at hst
  cases hst
  simp only [ck1] at hck
  split at hck
  · obtain ⟨q, rfl⟩ := ifo_ok hck
    rename_i n hd
    exact lv_iconst hx hb (dk_ok hd) rfl (K H locs ls _ hL ⟨rvl_mkI _ (by simpa using q), hS⟩ hH)
  · obtain ⟨q, rfl⟩ := ifo_ok hck
    rename_i n hd
    exact lv_bipush hx hb (dk_ok hd) rfl (K H locs ls _ hL ⟨rvl_mkI _ (by simpa using q), hS⟩ hH)
  · obtain ⟨q, rfl⟩ := ifo_ok hck
    rename_i n hd
    exact lv_sipush hx hb (dk_ok hd) rfl (K H locs ls _ hL ⟨rvl_mkI _ (by simpa using q), hS⟩ hH)
  · obtain ⟨q, rfl⟩ := ifo_ok hck
    rename_i n hd
    simp only [Bool.and_eq_true, decide_eq_true_eq, beq_iff_eq] at q
    have w := kik_ok q.1.2
    simp only [kiQ] at w
    rw [show (o * 10000 + n) / 10000 = o by omega, show (o * 10000 + n) % 10000 = n by omega] at w
    exact lv_ldc hx hb hown (hg.at w rfl args) (dk_ok hd) (K H locs ls _ hL ⟨rvl_mkI _ (of32 q.2), hS⟩ hH)
  · obtain ⟨q, rfl⟩ := ifo_ok hck
    rename_i n hd
    simp only [Bool.and_eq_true, decide_eq_true_eq, beq_iff_eq] at q
    have w := kik_ok q.1.2
    simp only [kiQ] at w
    rw [show (o * 10000 + n) / 10000 = o by omega, show (o * 10000 + n) % 10000 = n by omega] at w
    exact lv_ldcw hx hb hown (hg.at w rfl args) (dk_ok hd) (K H locs ls _ hL ⟨rvl_mkI _ (of32 q.2), hS⟩ hH)
  · cases hck
theorem sb_4 (X : Ctx p R s m meth c0 cc o nL G) (hck : ck1 o cc pc (4, a, b, c) = some pc') (hst : step1 (4, a, b, c) σ st h = some (σ', st', h')) (hL : LR G ls σ) (hS : SR G st Vs) (hH : BP H locs) 
    (K : ∀ (H2 : Heap) (locs2 : List Loc) (ls2 : Array Slot) (Vs2 : List Value), LR G ls2 σ' → SR G st' Vs2 → BP H2 locs2 → W p l e R s m args below meth c0 H2 locs2 cells slots Q (F0 m pc' ls2 Vs2)) : W p l e R s m args below meth c0 H locs cells slots Q (F0 m pc ls Vs) := by
  obtain ⟨hx, hb, -⟩ := X
  simp only [step1] at hst
  split at hst <;> cases hst
  rename_i x hg
  obtain ⟨V, hV, hr⟩ := LR_get hL hg
  obtain ⟨w, rfl, ew⟩ := rvl_I hr
  rcases ldx_ok hck with ⟨k, hk, hd, rfl⟩ | ⟨hd, rfl⟩
  · exact lv_iload_n hx hb hd hk hV (K H locs ls _ hL ⟨rvl_mkI w ew, hS⟩ hH)
  · exact lv_iload hx hb hd hV (K H locs ls _ hL ⟨rvl_mkI w ew, hS⟩ hH)
theorem sb_6 (X : Ctx p R s m meth c0 cc o nL G) (hck : ck1 o cc pc (6, a, b, c) = some pc') (hst : step1 (6, a, b, c) σ st h = some (σ', st', h')) (hL : LR G ls σ) (hS : SR G st Vs) (hH : BP H locs) 
    (K : ∀ (H2 : Heap) (locs2 : List Loc) (ls2 : Array Slot) (Vs2 : List Value), LR G ls2 σ' → SR G st' Vs2 → BP H2 locs2 → W p l e R s m args below meth c0 H2 locs2 cells slots Q (F0 m pc' ls2 Vs2)) : W p l e R s m args below meth c0 H locs cells slots Q (F0 m pc ls Vs) := by
  obtain ⟨hx, hb, -⟩ := X
  simp only [step1] at hst
  split at hst <;> cases hst
  rename_i t k hg
  obtain ⟨V, hV, hr⟩ := LR_get hL hg
  obtain ⟨q, rfl⟩ := rvl_R hr
  rcases ldx_ok hck with ⟨k, hk, hd, rfl⟩ | ⟨hd, rfl⟩
  · exact lv_aload_n hx hb hd hk hV (K H locs ls _ hL ⟨hr, hS⟩ hH)
  · exact lv_aload hx hb hd hV (K H locs ls _ hL ⟨hr, hS⟩ hH)
theorem sb_7 (X : Ctx p R s m meth c0 cc o nL G) (hck : ck1 o cc pc (7, a, b, c) = some pc') (hst : step1 (7, a, b, c) σ st h = some (σ', st', h')) (hL : LR G ls σ) (hS : SR G st Vs) (hH : BP H locs) 
    (K : ∀ (H2 : Heap) (locs2 : List Loc) (ls2 : Array Slot) (Vs2 : List Value), LR G ls2 σ' → SR G st' Vs2 → BP H2 locs2 → W p l e R s m args below meth c0 H2 locs2 cells slots Q (F0 m pc' ls2 Vs2)) : W p l e R s m args below meth c0 H locs cells slots Q (F0 m pc ls Vs) := by
  obtain ⟨hx, hb, -⟩ := X
  simp only [step1] at hst
  split at hst
  · rename_i x s0
    cases hs : lset σ b (aI x) with
    | none => rw [hs] at hst; cases hst
    | some r =>
      rw [hs] at hst
      cases hst
      obtain ⟨v, L, rfl, e1, hS⟩ := sI1 hS
      obtain ⟨lv, h1, h2⟩ := hL
      have hn := (lset_spec hs).1
      rcases ldx_ok hck with ⟨k, hk, hd, rfl⟩ | ⟨hd, rfl⟩
      · exact lv_istore_n hx hb hd hk h1 hn rfl (fun ls2 h3 => K H locs ls2 _ (LR_set hs h2 (fun u hu => by cases hu; exact rvl_mkI v e1) h3) hS hH)
      · exact lv_istore hx hb hd h1 hn rfl (fun ls2 h3 => K H locs ls2 _ (LR_set hs h2 (fun u hu => by cases hu; exact rvl_mkI v e1) h3) hS hH)
  · cases hst
theorem sb_9 (X : Ctx p R s m meth c0 cc o nL G) (hck : ck1 o cc pc (9, a, b, c) = some pc') (hst : step1 (9, a, b, c) σ st h = some (σ', st', h')) (hL : LR G ls σ) (hS : SR G st Vs) (hH : BP H locs) 
    (K : ∀ (H2 : Heap) (locs2 : List Loc) (ls2 : Array Slot) (Vs2 : List Value), LR G ls2 σ' → SR G st' Vs2 → BP H2 locs2 → W p l e R s m args below meth c0 H2 locs2 cells slots Q (F0 m pc' ls2 Vs2)) : W p l e R s m args below meth c0 H locs cells slots Q (F0 m pc ls Vs) := by
  obtain ⟨hx, hb, -⟩ := X
  simp only [step1] at hst
  split at hst
  · rename_i t k s0
    cases hs : lset σ b (aA t k) with
    | none => rw [hs] at hst; cases hst
    | some r =>
      rw [hs] at hst
      cases hst
      obtain ⟨q, L, rfl, e1, hS⟩ := sA hS
      obtain ⟨lv, h1, h2⟩ := hL
      have hn := (lset_spec hs).1
      rcases ldx_ok hck with ⟨k, hk, hd, rfl⟩ | ⟨hd, rfl⟩
      · exact lv_astore_n hx hb hd hk h1 hn rfl (fun ls2 h3 => K H locs ls2 _ (LR_set hs h2 (fun u hu => by cases hu; exact e1) h3) hS hH)
      · exact lv_astore hx hb hd h1 hn rfl (fun ls2 h3 => K H locs ls2 _ (LR_set hs h2 (fun u hu => by cases hu; exact e1) h3) hS hH)
  · rename_i s0
    cases hs : lset σ b none with
    | none => rw [hs] at hst; cases hst
    | some r =>
      rw [hs] at hst
      cases hst
      obtain ⟨V, L, rfl, e1, hS2⟩ := SR_cons hS
      obtain ⟨lv, h1, h2⟩ := hL
      have hn := (lset_spec hs).1
      clear hS
      rcases e1 with rfl | ⟨q, rfl⟩
      · rcases ldx_ok hck with ⟨k, hk, hd, rfl⟩ | ⟨hd, rfl⟩
        · exact lv_astore_nN hx hb hd hk h1 hn rfl (fun ls2 h3 => K H locs ls2 _ (LR_set hs h2 (fun u hu => by cases hu) h3) hS2 hH)
        · exact lv_astoreN hx hb hd h1 hn rfl (fun ls2 h3 => K H locs ls2 _ (LR_set hs h2 (fun u hu => by cases hu) h3) hS2 hH)
      · rcases ldx_ok hck with ⟨k, hk, hd, rfl⟩ | ⟨hd, rfl⟩
        · exact lv_astore_n hx hb hd hk h1 hn rfl (fun ls2 h3 => K H locs ls2 _ (LR_set hs h2 (fun u hu => by cases hu) h3) hS2 hH)
        · exact lv_astore hx hb hd h1 hn rfl (fun ls2 h3 => K H locs ls2 _ (LR_set hs h2 (fun u hu => by cases hu) h3) hS2 hH)
  · cases hst
theorem sb_10 (X : Ctx p R s m meth c0 cc o nL G) (hck : ck1 o cc pc (10, a, b, c) = some pc') (hst : step1 (10, a, b, c) σ st h = some (σ', st', h')) (hL : LR G ls σ) (hS : SR G st Vs) (hH : BP H locs) 
    (K : ∀ (H2 : Heap) (locs2 : List Loc) (ls2 : Array Slot) (Vs2 : List Value), LR G ls2 σ' → SR G st' Vs2 → BP H2 locs2 → W p l e R s m args below meth c0 H2 locs2 cells slots Q (F0 m pc' ls2 Vs2)) : W p l e R s m args below meth c0 H locs cells slots Q (F0 m pc ls Vs) := by
  obtain ⟨hx, hb, -⟩ := X
  obtain ⟨hd, rfl⟩ := one_ok hck
  simp only [step1] at hst
  split at hst
  · rename_i x hg
    cases hs : lset σ b (aI (w32 (x + a))) with
    | none => rw [hs] at hst; cases hst
    | some r =>
      rw [hs] at hst
      cases hst
      obtain ⟨lv, h1, h2⟩ := hL
      have hn := (lset_spec hs).1
      obtain ⟨V, hV, hr⟩ := h2 b _ (lget_get hg)
      obtain ⟨w, rfl, ew⟩ := rvl_I hr
      obtain ⟨k, hk⟩ := List.getElem?_of_mem hV
      refine lv_iinc hx hb hd h1 hk rfl hn rfl (fun ls2 h3 => K H locs ls2 _ (LR_set hs h2 (fun u hu => by cases hu; exact rvl_mkI _ (by rw [Int32.toInt_add, Int32.toInt_ofInt, ew, Int.add_bmod_bmod]; exact (w32_bmod _).symm)) h3) hS hH)
  · cases hst
theorem sb_47 (X : Ctx p R s m meth c0 cc o nL G) (hck : ck1 o cc pc (47, a, b, c) = some pc') (hst : step1 (47, a, b, c) σ st h = some (σ', st', h')) (hL : LR G ls σ) (hS : SR G st Vs) (hH : BP H locs) 
    (K : ∀ (H2 : Heap) (locs2 : List Loc) (ls2 : Array Slot) (Vs2 : List Value), LR G ls2 σ' → SR G st' Vs2 → BP H2 locs2 → W p l e R s m args below meth c0 H2 locs2 cells slots Q (F0 m pc' ls2 Vs2)) : W p l e R s m args below meth c0 H locs cells slots Q (F0 m pc ls Vs) := by
  obtain ⟨hx, hb, -⟩ := X
  obtain ⟨hd, rfl⟩ := one_ok hck
  simp only [step1] at hst
  split at hst
  · cases hst
    obtain ⟨v, L, rfl, e1, hS⟩ := sI1 hS
    exact lv_dup hx hb hd rfl (K H locs ls _ hL ⟨rvl_mkI v e1, rvl_mkI v e1, hS⟩ hH)
  · cases hst
    obtain ⟨q, L, rfl, e1, hS⟩ := sA hS
    exact lv_dup hx hb hd rfl (K H locs ls _ hL ⟨e1, e1, hS⟩ hH)
  · cases hst
theorem sb_any (X : Ctx p R s m meth c0 cc o nL G) (i : AC) (hi : i.1 = 1 ∨ i.1 = 4 ∨ i.1 = 6 ∨ i.1 = 7 ∨ i.1 = 9 ∨ i.1 = 10 ∨ i.1 = 47) (hck : ck1 o cc pc i = some pc') (hst : step1 i σ st h = some (σ', st', h')) (hL : LR G ls σ) (hS : SR G st Vs) (hH : BP H locs)
    (K : ∀ (H2 : Heap) (locs2 : List Loc) (ls2 : Array Slot) (Vs2 : List Value), LR G ls2 σ' → SR G st' Vs2 → BP H2 locs2 → W p l e R s m args below meth c0 H2 locs2 cells slots Q (F0 m pc' ls2 Vs2)) : W p l e R s m args below meth c0 H locs cells slots Q (F0 m pc ls Vs) := by
  obtain ⟨n, a, b, c⟩ := i
  simp only at hi
  rcases hi with rfl | rfl | rfl | rfl | rfl | rfl | rfl
  · exact sb_1 X hck hst hL hS hH K
  · exact sb_4 X hck hst hL hS hH K
  · exact sb_6 X hck hst hL hS hH K
  · exact sb_7 X hck hst hL hS hH K
  · exact sb_9 X hck hst hL hS hH K
  · exact sb_10 X hck hst hL hS hH K
  · exact sb_47 X hck hst hL hS hH K
end SB
