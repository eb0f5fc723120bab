/-! THE STEPS ON THE HEAP. -/
theorem lkpI_mem {t : Nat} : ∀ {T : List (Nat × Int)}, lkp 0 t T ≠ 0 → (t, lkp 0 t T) ∈ T := by
  intro T
  induction T with
  | nil => intro h; exact absurd rfl h
  | cons q T ih =>
    obtain ⟨p, c⟩ := q
    intro h
    simp only [lkp] at h ⊢
    split <;> rename_i e
    · have e : p = t := by simpa using e
      subst e
      exact List.mem_cons_self
    · rw [if_neg e] at h
      exact List.mem_cons_of_mem _ (ih h)
theorem aLen_all : aLenT.all (fun q => decide (100 ≤ q.1) && decide (zLen q.1 = 0) && decide (q.2 < 10000)) = true := by decide +kernel
theorem zLen_all : zLenT.all (fun q => decide (100 ≤ q.1) && decide (q.2 < 10000)) = true := by decide +kernel
theorem aLen_ok {t : Nat} (h : 0 < aLen t) : 100 ≤ t ∧ zLen t = 0 ∧ aLen t < 10000 := by
  have := List.all_eq_true.mp aLen_all _ (lkpI_mem (t := t) (T := aLenT) (by show aLen t ≠ 0; omega))
  simp only [Bool.and_eq_true, decide_eq_true_eq] at this
  exact ⟨this.1.1, this.1.2, this.2⟩
theorem zLen_ok {t : Nat} (h : 0 < zLen t) : 100 ≤ t ∧ zLen t < 10000 := by
  have := List.all_eq_true.mp zLen_all _ (lkpI_mem (t := t) (T := zLenT) (by show zLen t ≠ 0; omega))
  simp only [Bool.and_eq_true, decide_eq_true_eq] at this
  exact this
theorem cell_obj {G : WG} {h : Hp} {c k : Nat} (hc : c < 13) : cellE G h (c, k) = .inr (c, (List.range (nF c)).map (fun j => fval G h c j k)) := by
  unfold cellE; rw [if_pos hc]
theorem cell_int {G : WG} {h : Hp} {t k : Nat} (ht : 0 < aLen t) : cellE G h (t, k) = .inl (gC G 0, (aLen t).toNat, .inl (fun i => Int32.ofInt (h t k i))) := by
  obtain ⟨h1, h2, -⟩ := aLen_ok ht
  unfold cellE
  rw [if_neg (by show ¬ t < 13; omega), if_neg (by show ¬ t = 25; omega), if_neg (by show ¬ t = 26; omega), if_neg (by show ¬ 0 < zLen t; omega)]
theorem cell_boo {G : WG} {h : Hp} {t k : Nat} (ht : 0 < zLen t) : cellE G h (t, k) = .inl (gC G 1, (zLen t).toNat, .inl (fun i => Int32.ofInt (h t k i))) := by
  obtain ⟨h1, -⟩ := zLen_ok ht
  unfold cellE
  rw [if_neg (by show ¬ t < 13; omega), if_neg (by show ¬ t = 25; omega), if_neg (by show ¬ t = 26; omega), if_pos ht]
theorem fields_get {G : WG} {h : Hp} {c k j : Nat} (hj : j < nF c) : ((List.range (nF c)).map (fun j => fval G h c j k))[j]? = some (fval G h c j k) := by
  simp [hj]
theorem tg0 (c b : Nat) (h : tg c 0 ≤ b) : b = tg c (b - tg c 0) := by unfold tg at *; omega
theorem fields_set {G : WG} {h : Hp} {c k j : Nat} {x : Int} (hj : j < nF c) (hk : (fK c j).1 ≤ 1) : (List.range (nF c)).map (fun i => fval G (hset h (tg c j) k 0 x) c i k) = ((List.range (nF c)).map (fun i => fval G h c i k)).set j (.int (Int32.ofInt x)) := by
  have hc := nF_0 hj
  apply List.ext_getElem?
  intro i
  rw [List.getElem?_set]
  by_cases hi : j = i
  · subst hi
    rw [if_pos rfl, fields_get hj, if_pos (by simpa using hj)]
    congr 1
    unfold fval
    rcases e : fK c j with ⟨a, b1, b2⟩
    rw [e] at hk
    simp only at hk
    rcases (show a = 0 ∨ a = 1 by omega) with rfl | rfl <;> simp [hset]
  · rw [if_neg hi]
    by_cases hn : i < nF c
    · rw [fields_get hn, fields_get hn]
      congr 1
      refine fval_congr (fun _ _ => ?_)
      unfold hset
      rw [if_neg]
      rintro ⟨e1, -, -⟩
      exact hi (tg_inj hc hn hc hj e1).2.symm
    · simp [hn]
theorem in32_set {h : Hp} {t k i : Nat} {x : Int} (hr : ∀ t k i, t ≠ 25 → in32 (h t k i)) (hx : in32 x) : ∀ a b n, a ≠ 25 → in32 (hset h t k i x a b n) := by
  intro a b n ha
  unfold hset
  split
  · exact hx
  · exact hr a b n ha
theorem o25_all : obT.all (fun q => decide (q.1 = 25 → q.2 = 0)) = true := by decide +kernel
theorem o25_ok {i k : Nat} (h : obT[i]? = some (25, k)) : k = 0 := by
  have := List.all_eq_true.mp o25_all _ (List.mem_of_getElem? h)
  simpa using this
theorem sChr_all : sTxt.all (fun l => l.all (fun x => decide (0 ≤ x) && decide (x < 128)) && decide (l.length < 100)) = true := by decide +kernel
theorem sChr_in (k i : Nat) : in32 (sChr k i) := by
  unfold sChr
  rw [List.getD_eq_getElem?_getD, List.getD_eq_getElem?_getD]
  cases h1 : sTxt[k]? with
  | none => simp [in32]
  | some l =>
    cases h2 : l[i]? with
    | none => simp [h2, in32]
    | some x =>
      have := List.all_eq_true.mp sChr_all _ (List.mem_of_getElem? h1)
      simp only [Bool.and_eq_true] at this
      have := List.all_eq_true.mp this.1 _ (List.mem_of_getElem? h2)
      simp only [Bool.and_eq_true, decide_eq_true_eq] at this
      simp only [Option.getD_some, h2, in32]
      omega
theorem sLen_in (k : Nat) : 0 ≤ sLen k ∧ sLen k < 100 := by
  unfold sLen
  rw [List.getD_eq_getElem?_getD]
  cases h1 : sTxt[k]? with
  | none => simp
  | some l =>
    have := List.all_eq_true.mp sChr_all _ (List.mem_of_getElem? h1)
    simp only [Bool.and_eq_true, decide_eq_true_eq] at this
    simp only [Option.getD_some]
    omega
theorem upd_hset {h : Hp} {t k n : Nat} {x : Int} : (fun i => Int32.ofInt (hset h t k n x t k i)) = upd (fun i => Int32.ofInt (h t k i)) n (Int32.ofInt x) := by
  funext i
  unfold upd hset
  by_cases hi : i = n <;> simp [hi]
theorem nb_all : obT.all (fun q => decide (q.1 ≠ 20) && decide (q.1 ≠ 21) && decide (q.1 ≠ 22)) = true := by decide +kernel
theorem nb_ok {i t k : Nat} (h : obT[i]? = some (t, k)) : t ≠ 20 ∧ t ≠ 21 ∧ t ≠ 22 := by
  have := List.all_eq_true.mp nb_all _ (List.mem_of_getElem? h)
  simp only [Bool.and_eq_true, decide_eq_true_eq] at this
  exact ⟨this.1.1, this.1.2, this.2⟩
theorem z01 {w : Int32} {x : Int} (e : w.toInt = x) (h : x = 0 ∨ x = 1) : w = 0 ∨ w = 1 := by
  rcases h with rfl | rfl
  · exact Or.inl (Int32.toInt_inj.mp e)
  · exact Or.inr (Int32.toInt_inj.mp e)
theorem z01_nar {w : Int32} {x : Int} (e : w.toInt = x) (h : x = 0 ∨ x = 1) : narrow .boolean (.int w) = .int w := by
  rcases z01 e h with rfl | rfl <;> decide +kernel
theorem z01_fit {w : Int32} {x : Int} (e : w.toInt = x) (h : x = 0 ∨ x = 1) : fits .boolean (.int w) = true := by
  rcases z01 e h with rfl | rfl <;> decide +kernel
theorem z01_vp {w : Int32} {x : Int} (e : w.toInt = x) (h : x = 0 ∨ x = 1) : vp_nar .boolean w = w := by
  rcases z01 e h with rfl | rfl <;> decide +kernel
section Snd2
variable {p : Program} {l : Launch} {e : Env} {R : Room} {s : State} {m : MethodId} {args : Array Value} {below : List Frame} {meth : Method} {c0 : Code} {Q : State → Prop} {cells slots : Nat} {cc : ByteArray} {o nL : Nat} {G : WG}
variable {H : Heap} {locs : List Loc} {ls : Array Slot} {Vs : List Value} {pc pc' : Nat} {a : Int} {b c : Nat} {σ σ' st st' : List AV} {h h' : Hp}
/-- a new heap from a written one -/
theorem HR_put {t k i : Nat} {x : Int} {H2 : Heap} {locs2 : List Loc} (hH : HR G s h H locs) (ht : 100 ≤ t) (hx : in32 x) (hP : va_P (gD G) vwCl (wsOf G (hset h t k i x)) H2) (hS : va_S (gA G) s.heap H2 locs2) : HR G s (hset h t k i x) H2 locs2 := by
  obtain ⟨a1, -, -, a4, a5, a6, a7⟩ := hH
  refine ⟨a1, hP, hS, in32_set a4 hx, fun k' i' => ?_, ?_, fun j hj => ?_⟩
  · unfold hset; rw [if_neg (by omega)]; exact a5 k' i'
  · unfold hset; rw [if_neg (by omega)]; exact a6
  · unfold hset; rw [if_neg (by omega)]; exact a7 j hj
theorem inIdx {w : Int32} {i : Int} {n : Nat} (e1 : w.toInt = i) (h0 : 0 ≤ i) (h1 : i < (n : Int)) : vp_in w n ∧ w.toNatClampNeg = i.toNat := by
  refine ⟨vp_in_iff.mpr ⟨by omega, by omega⟩, ?_⟩
  show w.toInt.toNat = i.toNat
  rw [e1]
theorem sd_33 (X : Ctx p R s m meth c0 cc o nL G) (hck : ck1 o cc pc (33, a, b, c) = some pc') (hst : step1 (33, a, b, c) σ st h = some (σ', st', h')) (hL : LR G ls σ) (hS : SR G st Vs) (hH : HR G s h H locs) 
    (K : ∀ (H2 : Heap) (locs2 : List Loc) (ls2 : Array Slot) (Vs2 : List Value), LR G ls2 σ' → SR G st' Vs2 → HR G s h' H2 locs2 → W p l e R s m args below meth c0 H2 locs2 cells slots Q (F0 m pc' ls2 Vs2)) : W p l e R s m args below meth c0 H locs cells slots Q (F0 m pc ls Vs) := by
  obtain ⟨hx, hb, hown, hg, -⟩ := X
  simp only [step1] at hst
  split at hst
  · rename_i t k s0
    split at hst
    · rename_i htc
      subst htc
      cases hst
      simp only [ck1] at hck
      split at hck
      · rename_i x hd
        obtain ⟨q, rfl⟩ := ifo_ok hck
        simp only [Bool.and_eq_true, decide_eq_true_eq] at q
        obtain ⟨⟨q1, q2⟩, q3⟩ := q
        obtain ⟨hlk, hj⟩ := fld_ok q2
        have hbt := tg0 t b q1
        generalize b - tg t 0 = j at q2 q3 hlk hj hbt
        subst hbt
        have hc := nF_0 hj
        obtain ⟨v, L, rfl, e1, hT⟩ := sA hS
        clear hS
        obtain ⟨i, hi, e2⟩ := rvl_A e1 (by omega) (by omega) (by omega)
        cases e2
        obtain ⟨k1, k2, -⟩ := cl_ok t hc
        have hw := wsOf_get G h hi
        rw [cell_obj hc] at hw
        have hv : fval G h t j k = .int (Int32.ofInt (h (tg t j) k 0)) := by
          unfold fval
          rcases e : fK t j with ⟨a, b1, b2⟩
          rw [e] at q3
          simp only at q3
          rcases (show a = 0 ∨ a = 1 by omega) with rfl | rfl <;> rfl
        refine va_get (Ts := u_ws (cN t) (tF t) (nF t)) (ref := (tF t j).1) hx hb (fun w hw => hg.at (k2 w hw).1 (k2 w hw).2 args) (fun w hw => hw) hown hH.1 hH.2.1 i hw k1 j hj (hg.at hlk rfl args) (fun _ z => z) (v := .int (Int32.ofInt (h (tg t j) k 0))) (by rw [fields_get hj, hv]) (dk_ok hd) ?_
        exact K H locs ls _ hL ⟨rvl_mkI _ (of32 (hH.2.2.2.1 _ _ _ (by have := (tgC_ok hc hj).2; omega))), hT⟩ hH
      · cases hck
    · cases hst
  · cases hst
theorem sd_34 (X : Ctx p R s m meth c0 cc o nL G) (hck : ck1 o cc pc (34, a, b, c) = some pc') (hst : step1 (34, a, b, c) σ st h = some (σ', st', h')) (hL : LR G ls σ) (hS : SR G st Vs) (hH : HR G s h H locs) 
    (K : ∀ (H2 : Heap) (locs2 : List Loc) (ls2 : Array Slot) (Vs2 : List Value), LR G ls2 σ' → SR G st' Vs2 → HR G s h' H2 locs2 → W p l e R s m args below meth c0 H2 locs2 cells slots Q (F0 m pc' ls2 Vs2)) : W p l e R s m args below meth c0 H locs cells slots Q (F0 m pc ls Vs) := by
  obtain ⟨hx, hb, hown, hg, -⟩ := X
  simp only [step1] at hst
  split at hst
  · rename_i t k s0
    split at hst
    · rename_i htc
      subst htc
      cases hst
      simp only [ck1] at hck
      split at hck
      · rename_i x hd
        split at hck
        · rename_i c' j hf
          obtain ⟨q, rfl⟩ := ifo_ok hck
          simp only [Bool.and_eq_true, beq_iff_eq] at q
          obtain ⟨⟨⟨q1, q2⟩, q3⟩, q4⟩ := q
          obtain ⟨hlk, hj⟩ := fld_ok q2
          have hc := nF_0 hj
          obtain ⟨v, L, rfl, e1, hT⟩ := sA hS
          clear hS
          obtain ⟨i, hi, e2⟩ := rvl_A e1 (by omega) (by omega) (by omega)
          cases e2
          obtain ⟨k1, k2, -⟩ := cl_ok t hc
          have hw := wsOf_get G h hi
          rw [cell_obj hc] at hw
          have hrf := List.all_eq_true.mp refs_all (t, k) (List.mem_of_getElem? hi)
          simp only [refsOk, if_pos hc] at hrf
          have hrf := List.all_eq_true.mp hrf j (List.mem_range.mpr hj)
          rcases ef : fK t j with ⟨a1, b1, b2⟩
          rw [ef] at q3 q4  hrf
          simp only at q3 q4 
          subst q3; subst q4
          skip
          simp only [beq_iff_eq] at hrf
          have hv : fval G h t j k = .ref (gB G + ixO b1 k) := by unfold fval; rw [ef]; rfl
          have hne : b1 ≠ 20 ∧ b1 ≠ 21 ∧ b1 ≠ 22 := nb_ok hrf
          refine va_get (Ts := u_ws (cN t) (tF t) (nF t)) (ref := (tF t j).1) hx hb (fun w hw => hg.at (k2 w hw).1 (k2 w hw).2 args) (fun w hw => hw) hown hH.1 hH.2.1 i hw k1 j hj (hg.at hlk rfl args) (fun _ z => z) (v := .ref (gB G + ixO b1 k)) (by rw [fields_get hj, hv]) (dk_ok hd) ?_
          exact K H locs ls _ hL ⟨rvl_mkA hrf hne.1 hne.2.1 hne.2.2, hT⟩ hH
        · cases hck
      · cases hck
    · cases hst
  · cases hst
theorem sd_35 (X : Ctx p R s m meth c0 cc o nL G) (hck : ck1 o cc pc (35, a, b, c) = some pc') (hst : step1 (35, a, b, c) σ st h = some (σ', st', h')) (hL : LR G ls σ) (hS : SR G st Vs) (hH : HR G s h H locs) 
    (K : ∀ (H2 : Heap) (locs2 : List Loc) (ls2 : Array Slot) (Vs2 : List Value), LR G ls2 σ' → SR G st' Vs2 → HR G s h' H2 locs2 → W p l e R s m args below meth c0 H2 locs2 cells slots Q (F0 m pc' ls2 Vs2)) : W p l e R s m args below meth c0 H locs cells slots Q (F0 m pc ls Vs) := by
  obtain ⟨hx, hb, hown, hg, -⟩ := X
  simp only [step1] at hst
  split at hst
  · rename_i t k s0
    split at hst
    · rename_i htc
      subst htc
      cases hst
      simp only [ck1] at hck
      split at hck
      · rename_i x hd
        split at hck
        · rename_i c' j hf
          obtain ⟨q, rfl⟩ := ifo_ok hck
          simp only [Bool.and_eq_true, beq_iff_eq] at q
          obtain ⟨⟨⟨⟨q1, q2⟩, q3⟩, q4⟩, q5⟩ := q
          obtain ⟨hlk, hj⟩ := fld_ok q2
          have hc := nF_0 hj
          obtain ⟨v, L, rfl, e1, hT⟩ := sA hS
          clear hS
          obtain ⟨i, hi, e2⟩ := rvl_A e1 (by omega) (by omega) (by omega)
          cases e2
          obtain ⟨k1, k2, -⟩ := cl_ok t hc
          have hw := wsOf_get G h hi
          rw [cell_obj hc] at hw
          have hrf := List.all_eq_true.mp refs_all (t, k) (List.mem_of_getElem? hi)
          simp only [refsOk, if_pos hc] at hrf
          have hrf := List.all_eq_true.mp hrf j (List.mem_range.mpr hj)
          rcases ef : fK t j with ⟨a1, b1, b2⟩
          rw [ef] at q3 q4 q5 hrf
          simp only at q3 q4 q5
          subst q3; subst q4
          subst q5
          simp only [beq_iff_eq] at hrf
          have hv : fval G h t j k = .ref (gB G + ixO b1 a.toNat) := by unfold fval; rw [ef]; rfl
          have hne : b1 ≠ 20 ∧ b1 ≠ 21 ∧ b1 ≠ 22 := nb_ok hrf
          refine va_get (Ts := u_ws (cN t) (tF t) (nF t)) (ref := (tF t j).1) hx hb (fun w hw => hg.at (k2 w hw).1 (k2 w hw).2 args) (fun w hw => hw) hown hH.1 hH.2.1 i hw k1 j hj (hg.at hlk rfl args) (fun _ z => z) (v := .ref (gB G + ixO b1 a.toNat)) (by rw [fields_get hj, hv]) (dk_ok hd) ?_
          exact K H locs ls _ hL ⟨rvl_mkA hrf hne.1 hne.2.1 hne.2.2, hT⟩ hH
        · cases hck
      · cases hck
    · cases hst
  · cases hst
theorem sd_36 (X : Ctx p R s m meth c0 cc o nL G) (hck : ck1 o cc pc (36, a, b, c) = some pc') (hst : step1 (36, a, b, c) σ st h = some (σ', st', h')) (hL : LR G ls σ) (hS : SR G st Vs) (hH : HR G s h H locs) 
    (K : ∀ (H2 : Heap) (locs2 : List Loc) (ls2 : Array Slot) (Vs2 : List Value), LR G ls2 σ' → SR G st' Vs2 → HR G s h' H2 locs2 → W p l e R s m args below meth c0 H2 locs2 cells slots Q (F0 m pc' ls2 Vs2)) : W p l e R s m args below meth c0 H locs cells slots Q (F0 m pc ls Vs) := by
  obtain ⟨hx, hb, hown, hg, -⟩ := X
  simp only [step1] at hst
  split at hst
  · rename_i x t k s0
    split at hst
    · rename_i hcd
      obtain rfl := hcd
      cases hst
      simp only [ck1] at hck
      split at hck
      · rename_i x0 hd
        obtain ⟨q, rfl⟩ := ifo_ok hck
        simp only [Bool.and_eq_true, decide_eq_true_eq, beq_iff_eq] at q
        obtain ⟨⟨⟨⟨q1, q2⟩, q3⟩, q4⟩, q5⟩ := q
        obtain ⟨hlk, hj⟩ := fld_ok q2
        have hbt := tg0 t b q1
        generalize b - tg t 0 = j at q2 q3 q4 q5 hlk hj hbt
        subst hbt
        have hc := nF_0 hj
        obtain ⟨v, L1, rfl, ev, hS⟩ := sI1 hS
        obtain ⟨u, L, rfl, e1, hT⟩ := sA hS
        clear hS
        obtain ⟨i, hi, e2⟩ := rvl_A e1 (by omega) (by omega) (by omega)
        cases e2
        obtain ⟨k1, k2, ⟨ty0, k3⟩, k4⟩ := cl_ok t hc
        have hw := wsOf_get G h hi
        rw [cell_obj hc] at hw
        refine va_put (Ts := u_ws (cN t) (tF t) (nF t)) (ref := (tF t j).1) (ty := .int) (v := .int v) hx hb (fun w hw => hg.at (k2 w hw).1 (k2 w hw).2 args) (fun w hw => hw) ty0 k3 k4 hown hH.1 hH.2.1 (wsOf_D G h) hH.2.2.1 i hw k1 j hj (hg.at hlk rfl args) (fun _ z => z) q5 (by rw [q4]; decide +kernel) rfl rfl (by simpa using hj) (dk_ok hd) (fun H1 locs1 hP1 hD1 hS1 => ?_)
        have hst1 : (wsOf G h).set i (gB G + i, .inr (t, ((List.range (nF t)).map (fun j => fval G h t j k)).set j (.int v))) = wsOf G (hset h (tg t j) k 0 x) := by
          rw [← ws_put G hi hj (by omega), cell_obj hc, fields_set hj (by omega), ← ev, to32]
        rw [hst1] at hP1
        exact K H1 locs1 ls _ hL hT (HR_put hH (tgC_ok hc hj).2 (by rw [← ev]; exact in32_of v) hP1 hS1)
      · cases hck
    · cases hst
  · cases hst
theorem sd_37 (X : Ctx p R s m meth c0 cc o nL G) (hck : ck1 o cc pc (37, a, b, c) = some pc') (hst : step1 (37, a, b, c) σ st h = some (σ', st', h')) (hL : LR G ls σ) (hS : SR G st Vs) (hH : HR G s h H locs) 
    (K : ∀ (H2 : Heap) (locs2 : List Loc) (ls2 : Array Slot) (Vs2 : List Value), LR G ls2 σ' → SR G st' Vs2 → HR G s h' H2 locs2 → W p l e R s m args below meth c0 H2 locs2 cells slots Q (F0 m pc' ls2 Vs2)) : W p l e R s m args below meth c0 H locs cells slots Q (F0 m pc ls Vs) := by
  obtain ⟨hx, hb, hown, hg, -⟩ := X
  simp only [step1] at hst
  split at hst
  · rename_i x t k s0
    split at hst
    · rename_i hcd
      obtain ⟨rfl, hx01⟩ := hcd
      cases hst
      simp only [ck1] at hck
      split at hck
      · rename_i x0 hd
        obtain ⟨q, rfl⟩ := ifo_ok hck
        simp only [Bool.and_eq_true, decide_eq_true_eq, beq_iff_eq] at q
        obtain ⟨⟨⟨⟨q1, q2⟩, q3⟩, q4⟩, q5⟩ := q
        obtain ⟨hlk, hj⟩ := fld_ok q2
        have hbt := tg0 t b q1
        generalize b - tg t 0 = j at q2 q3 q4 q5 hlk hj hbt
        subst hbt
        have hc := nF_0 hj
        obtain ⟨v, L1, rfl, ev, hS⟩ := sI1 hS
        obtain ⟨u, L, rfl, e1, hT⟩ := sA hS
        clear hS
        obtain ⟨i, hi, e2⟩ := rvl_A e1 (by omega) (by omega) (by omega)
        cases e2
        obtain ⟨k1, k2, ⟨ty0, k3⟩, k4⟩ := cl_ok t hc
        have hw := wsOf_get G h hi
        rw [cell_obj hc] at hw
        refine va_put (Ts := u_ws (cN t) (tF t) (nF t)) (ref := (tF t j).1) (ty := .boolean) (v := .int v) hx hb (fun w hw => hg.at (k2 w hw).1 (k2 w hw).2 args) (fun w hw => hw) ty0 k3 k4 hown hH.1 hH.2.1 (wsOf_D G h) hH.2.2.1 i hw k1 j hj (hg.at hlk rfl args) (fun _ z => z) q5 (by rw [q4]; decide +kernel) (z01_nar ev hx01) (z01_fit ev hx01) (by simpa using hj) (dk_ok hd) (fun H1 locs1 hP1 hD1 hS1 => ?_)
        have hst1 : (wsOf G h).set i (gB G + i, .inr (t, ((List.range (nF t)).map (fun j => fval G h t j k)).set j (.int v))) = wsOf G (hset h (tg t j) k 0 x) := by
          rw [← ws_put G hi hj (by omega), cell_obj hc, fields_set hj (by omega), ← ev, to32]
        rw [hst1] at hP1
        exact K H1 locs1 ls _ hL hT (HR_put hH (tgC_ok hc hj).2 (by rw [← ev]; exact in32_of v) hP1 hS1)
      · cases hck
    · cases hst
  · cases hst
theorem sd_38 (X : Ctx p R s m meth c0 cc o nL G) (hck : ck1 o cc pc (38, a, b, c) = some pc') (hst : step1 (38, a, b, c) σ st h = some (σ', st', h')) (hL : LR G ls σ) (hS : SR G st Vs) (hH : HR G s h H locs) 
    (K : ∀ (H2 : Heap) (locs2 : List Loc) (ls2 : Array Slot) (Vs2 : List Value), LR G ls2 σ' → SR G st' Vs2 → HR G s h' H2 locs2 → W p l e R s m args below meth c0 H2 locs2 cells slots Q (F0 m pc' ls2 Vs2)) : W p l e R s m args below meth c0 H locs cells slots Q (F0 m pc ls Vs) := by
  obtain ⟨hx, hb, -⟩ := X
  obtain ⟨hd, rfl⟩ := one_ok hck
  simp only [step1] at hst
  split at hst
  · rename_i i t k s0
    split at hst
    · rename_i hcd
      cases hst
      have ht : 0 < aLen t := by omega
      obtain ⟨t1, -, t3⟩ := aLen_ok ht
      obtain ⟨v, L1, rfl, ev, hS⟩ := sI1 hS
      obtain ⟨u, L, rfl, e1, hT⟩ := sA hS
      clear hS
      obtain ⟨n, hn, e2⟩ := rvl_A e1 (by omega) (by omega) (by omega)
      cases e2
      have hw := wsOf_get G h hn
      rw [cell_int ht] at hw
      obtain ⟨i1, i2⟩ := inIdx (n := (aLen t).toNat) ev hcd.1 (by omega)
      refine va_iald hx hb hH.1 hH.2.1 n 0 hw rfl i1 hd (K H locs ls _ hL ⟨rvl_mkI _ ?_, hT⟩ hH)
      rw [i2]
      exact of32 (hH.2.2.2.1 _ _ _ (by omega))
    · cases hst
  · cases hst
theorem sd_40 (X : Ctx p R s m meth c0 cc o nL G) (hck : ck1 o cc pc (40, a, b, c) = some pc') (hst : step1 (40, a, b, c) σ st h = some (σ', st', h')) (hL : LR G ls σ) (hS : SR G st Vs) (hH : HR G s h H locs) 
    (K : ∀ (H2 : Heap) (locs2 : List Loc) (ls2 : Array Slot) (Vs2 : List Value), LR G ls2 σ' → SR G st' Vs2 → HR G s h' H2 locs2 → W p l e R s m args below meth c0 H2 locs2 cells slots Q (F0 m pc' ls2 Vs2)) : W p l e R s m args below meth c0 H locs cells slots Q (F0 m pc ls Vs) := by
  obtain ⟨hx, hb, -⟩ := X
  obtain ⟨hd, rfl⟩ := one_ok hck
  simp only [step1] at hst
  split at hst
  · rename_i i t k s0
    split at hst
    · rename_i hcd
      cases hst
      have ht : 0 < zLen t := by omega
      obtain ⟨t1, t3⟩ := zLen_ok ht
      obtain ⟨v, L1, rfl, ev, hS⟩ := sI1 hS
      obtain ⟨u, L, rfl, e1, hT⟩ := sA hS
      clear hS
      obtain ⟨n, hn, e2⟩ := rvl_A e1 (by omega) (by omega) (by omega)
      cases e2
      have hw := wsOf_get G h hn
      rw [cell_boo ht] at hw
      obtain ⟨i1, i2⟩ := inIdx (n := (zLen t).toNat) ev hcd.1 (by omega)
      refine va_zald hx hb hH.1 hH.2.1 n 1 hw rfl i1 hd (K H locs ls _ hL ⟨rvl_mkI _ ?_, hT⟩ hH)
      rw [i2]
      exact of32 (hH.2.2.2.1 _ _ _ (by omega))
    · cases hst
  · cases hst
theorem sd_39 (X : Ctx p R s m meth c0 cc o nL G) (hck : ck1 o cc pc (39, a, b, c) = some pc') (hst : step1 (39, a, b, c) σ st h = some (σ', st', h')) (hL : LR G ls σ) (hS : SR G st Vs) (hH : HR G s h H locs) 
    (K : ∀ (H2 : Heap) (locs2 : List Loc) (ls2 : Array Slot) (Vs2 : List Value), LR G ls2 σ' → SR G st' Vs2 → HR G s h' H2 locs2 → W p l e R s m args below meth c0 H2 locs2 cells slots Q (F0 m pc' ls2 Vs2)) : W p l e R s m args below meth c0 H locs cells slots Q (F0 m pc ls Vs) := by
  obtain ⟨hx, hb, -⟩ := X
  obtain ⟨hd, rfl⟩ := one_ok hck
  simp only [step1] at hst
  split at hst
  · rename_i x i t k s0
    split at hst
    · rename_i hcd
      cases hst
      have ht : 0 < aLen t := by omega
      obtain ⟨t1, -, t3⟩ := aLen_ok ht
      obtain ⟨w, L2, rfl, ew, hS⟩ := sI1 hS
      obtain ⟨v, L1, rfl, ev, hS⟩ := sI1 hS
      obtain ⟨u, L, rfl, e1, hT⟩ := sA hS
      clear hS
      obtain ⟨n, hn, e2⟩ := rvl_A e1 (by omega) (by omega) (by omega)
      cases e2
      have hw := wsOf_get G h hn
      rw [cell_int ht] at hw
      obtain ⟨i1, i2⟩ := inIdx (n := (aLen t).toNat) ev hcd.1 (by omega)
      refine va_iast hx hb hH.1 hH.2.1 (wsOf_D G h) hH.2.2.1 n 0 hw rfl i1 hd (fun H1 locs1 hP1 hD1 hS1 => ?_)
      have hst1 : (wsOf G h).set n (gB G + n, .inl (gC G 0, (aLen t).toNat, .inl (upd (fun i => Int32.ofInt (h t k i)) v.toNatClampNeg w))) = wsOf G (hset h t k i.toNat x) := by
        rw [← ws_row G (h := h) (h' := hset h t k i.toNat x) hn (by omega) (fun a b n hh => by unfold hset; rw [if_neg (by omega)]) (by omega), cell_int ht, i2, upd_hset, ← ew, to32]
      rw [hst1] at hP1
      exact K H1 locs1 ls _ hL hT (HR_put hH t1 (by rw [← ew]; exact in32_of w) hP1 hS1)
    · cases hst
  · cases hst
theorem sd_41 (X : Ctx p R s m meth c0 cc o nL G) (hck : ck1 o cc pc (41, a, b, c) = some pc') (hst : step1 (41, a, b, c) σ st h = some (σ', st', h')) (hL : LR G ls σ) (hS : SR G st Vs) (hH : HR G s h H locs) 
    (K : ∀ (H2 : Heap) (locs2 : List Loc) (ls2 : Array Slot) (Vs2 : List Value), LR G ls2 σ' → SR G st' Vs2 → HR G s h' H2 locs2 → W p l e R s m args below meth c0 H2 locs2 cells slots Q (F0 m pc' ls2 Vs2)) : W p l e R s m args below meth c0 H locs cells slots Q (F0 m pc ls Vs) := by
  obtain ⟨hx, hb, -⟩ := X
  obtain ⟨hd, rfl⟩ := one_ok hck
  simp only [step1] at hst
  split at hst
  · rename_i x i t k s0
    split at hst
    · rename_i hcd
      cases hst
      have ht : 0 < zLen t := by omega
      obtain ⟨t1, t3⟩ := zLen_ok ht
      obtain ⟨w, L2, rfl, ew, hS⟩ := sI1 hS
      obtain ⟨v, L1, rfl, ev, hS⟩ := sI1 hS
      obtain ⟨u, L, rfl, e1, hT⟩ := sA hS
      clear hS
      obtain ⟨n, hn, e2⟩ := rvl_A e1 (by omega) (by omega) (by omega)
      cases e2
      have hw := wsOf_get G h hn
      rw [cell_boo ht] at hw
      obtain ⟨i1, i2⟩ := inIdx (n := (zLen t).toNat) ev hcd.1.1 (by omega)
      refine va_zast hx hb hH.1 hH.2.1 (wsOf_D G h) hH.2.2.1 n 1 hw rfl i1 hd (fun H1 locs1 hP1 hD1 hS1 => ?_)
      have hst1 : (wsOf G h).set n (gB G + n, .inl (gC G 1, (zLen t).toNat, .inl (upd (fun i => Int32.ofInt (h t k i)) v.toNatClampNeg (vp_nar .boolean w)))) = wsOf G (hset h t k i.toNat x) := by
        rw [← ws_row G (h := h) (h' := hset h t k i.toNat x) hn (by omega) (fun a b n hh => by unfold hset; rw [if_neg (by omega)]) (by omega), cell_boo ht, i2, upd_hset, z01_vp ew hcd.2, ← ew, to32]
      rw [hst1] at hP1
      exact K H1 locs1 ls _ hL hT (HR_put hH t1 (by rw [← ew]; exact in32_of w) hP1 hS1)
    · cases hst
  · cases hst
theorem sd_42 (X : Ctx p R s m meth c0 cc o nL G) (hck : ck1 o cc pc (42, a, b, c) = some pc') (hst : step1 (42, a, b, c) σ st h = some (σ', st', h')) (hL : LR G ls σ) (hS : SR G st Vs) (hH : HR G s h H locs) 
    (K : ∀ (H2 : Heap) (locs2 : List Loc) (ls2 : Array Slot) (Vs2 : List Value), LR G ls2 σ' → SR G st' Vs2 → HR G s h' H2 locs2 → W p l e R s m args below meth c0 H2 locs2 cells slots Q (F0 m pc' ls2 Vs2)) : W p l e R s m args below meth c0 H locs cells slots Q (F0 m pc ls Vs) := by
  obtain ⟨hx, hb, -⟩ := X
  obtain ⟨hd, rfl⟩ := one_ok hck
  simp only [step1] at hst
  split at hst
  · rename_i i t k s0
    split at hst
    · rename_i hcd
      obtain ⟨rfl, rfl⟩ := hcd
      cases hst
      obtain ⟨v, L1, rfl, ev, hS⟩ := sI1 hS
      obtain ⟨u, L, rfl, e1, hT⟩ := sA hS
      clear hS
      obtain ⟨n, hn, e2⟩ := rvl_A e1 (by omega) (by omega) (by omega)
      cases e2
      have hk := o25_ok hn
      subst hk
      have hw := wsOf_get G h hn
      have hce : cellE G h (25, 0) = .inl (gC G 2, 1, .inr (.inl (fun i => Int64.ofInt (h 25 0 i)))) := rfl
      rw [hce] at hw
      obtain ⟨i1, i2⟩ := inIdx (n := 1) ev (by omega) (by omega)
      refine va_lald hx hb hH.1 hH.2.1 n 2 hw rfl i1 hd (K H locs ls _ hL ⟨rvl_mkJ _ ?_, hT⟩ hH)
      rw [i2]
      exact of64 (hH.2.2.2.2.1 _ _)
    · cases hst
  · cases hst
theorem sd_43 (X : Ctx p R s m meth c0 cc o nL G) (hck : ck1 o cc pc (43, a, b, c) = some pc') (hst : step1 (43, a, b, c) σ st h = some (σ', st', h')) (hL : LR G ls σ) (hS : SR G st Vs) (hH : HR G s h H locs) 
    (K : ∀ (H2 : Heap) (locs2 : List Loc) (ls2 : Array Slot) (Vs2 : List Value), LR G ls2 σ' → SR G st' Vs2 → HR G s h' H2 locs2 → W p l e R s m args below meth c0 H2 locs2 cells slots Q (F0 m pc' ls2 Vs2)) : W p l e R s m args below meth c0 H locs cells slots Q (F0 m pc ls Vs) := by
  obtain ⟨hx, hb, -⟩ := X
  obtain ⟨hd, rfl⟩ := one_ok hck
  simp only [step1] at hst
  split at hst
  · rename_i x i t k s0
    split at hst
    · rename_i hcd
      obtain ⟨rfl, rfl⟩ := hcd
      cases hst
      obtain ⟨w, L2, rfl, ew, hS⟩ := sJ1 hS
      obtain ⟨v, L1, rfl, ev, hS⟩ := sI1 hS
      obtain ⟨u, L, rfl, e1, hT⟩ := sA hS
      clear hS
      obtain ⟨n, hn, e2⟩ := rvl_A e1 (by omega) (by omega) (by omega)
      cases e2
      have hk := o25_ok hn
      subst hk
      have hw := wsOf_get G h hn
      have hce : ∀ h : Hp, cellE G h (25, 0) = .inl (gC G 2, 1, .inr (.inl (fun i => Int64.ofInt (h 25 0 i)))) := fun _ => rfl
      rw [hce] at hw
      obtain ⟨i1, i2⟩ := inIdx (n := 1) ev (by omega) (by omega)
      refine va_last hx hb hH.1 hH.2.1 (wsOf_D G h) hH.2.2.1 n 2 hw rfl i1 hd (fun H1 locs1 hP1 hD1 hS1 => ?_)
      have hst1 : (wsOf G h).set n (gB G + n, .inl (gC G 2, 1, .inr (.inl (vp_updL (fun i => Int64.ofInt (h 25 0 i)) v.toNatClampNeg w)))) = wsOf G (hset h 25 0 0 x) := by
        rw [← ws_row G (h := h) (h' := hset h 25 0 0 x) hn (by omega) (fun a b n hh => by unfold hset; rw [if_neg (by omega)]) (by omega), hce, i2]
        have hf : (fun i => Int64.ofInt (hset h 25 0 0 x 25 0 i)) = vp_updL (fun i => Int64.ofInt (h 25 0 i)) (0 : Int).toNat w := by
          funext j
          unfold vp_updL hset
          by_cases hj : j = 0
          · subst hj; simp [← ew, to64]
          · simp [hj]
        rw [hf]
      rw [hst1] at hP1
      obtain ⟨a1, -, -, a4, a5, a6, a7⟩ := hH
      refine K H1 locs1 ls _ hL hT ⟨a1, hP1, hS1, fun t k i ht => ?_, fun k i => ?_, ?_, fun j hj => ?_⟩
      · unfold hset; rw [if_neg (by omega)]; exact a4 t k i ht
      · unfold hset; split
        · rw [← ew]; exact in64_of w
        · exact a5 k i
      · unfold hset; rw [if_neg (by omega)]; exact a6
      · unfold hset; rw [if_neg (by omega)]; exact a7 j hj
    · cases hst
  · cases hst
theorem sd_44 (X : Ctx p R s m meth c0 cc o nL G) (hck : ck1 o cc pc (44, a, b, c) = some pc') (hst : step1 (44, a, b, c) σ st h = some (σ', st', h')) (hL : LR G ls σ) (hS : SR G st Vs) (hH : HR G s h H locs) 
    (K : ∀ (H2 : Heap) (locs2 : List Loc) (ls2 : Array Slot) (Vs2 : List Value), LR G ls2 σ' → SR G st' Vs2 → HR G s h' H2 locs2 → W p l e R s m args below meth c0 H2 locs2 cells slots Q (F0 m pc' ls2 Vs2)) : W p l e R s m args below meth c0 H locs cells slots Q (F0 m pc ls Vs) := by
  obtain ⟨hx, hb, -⟩ := X
  obtain ⟨hd, rfl⟩ := one_ok hck
  simp only [step1] at hst
  split at hst
  · rename_i i t k s0
    split at hst
    · rename_i hcd
      obtain ⟨⟨h0, h1⟩, rfl⟩ := hcd
      cases hst
      obtain ⟨v, L1, rfl, ev, hS⟩ := sI1 hS
      obtain ⟨u, L, rfl, e1, hT⟩ := sA hS
      clear hS
      obtain ⟨n, hn, e2⟩ := rvl_A e1 (by omega) (by omega) (by omega)
      cases e2
      have hw := wsOf_get G h hn
      have hce : cellE G h (26, k) = .inl (gC G 3, 12, .inr (.inr (.inr (.inr (fun i => some (gB G + ixO 7 (i + 3))))))) := rfl
      rw [hce] at hw
      obtain ⟨i1, i2⟩ := inIdx (n := 12) ev h0 (by omega)
      refine va_aldq hx hb hH.1 hH.2.1 n 3 hw rfl i1 hd (K H locs ls _ hL ⟨?_, hT⟩ hH)
      rw [i2]
      have hk := List.all_eq_true.mp kept_all i.toNat (List.mem_range.mpr (by omega))
      simp only [beq_iff_eq] at hk
      exact rvl_mkA hk (by omega) (by omega) (by omega)
    · cases hst
  · cases hst
theorem sd_45 (X : Ctx p R s m meth c0 cc o nL G) (hck : ck1 o cc pc (45, a, b, c) = some pc') (hst : step1 (45, a, b, c) σ st h = some (σ', st', h')) (hL : LR G ls σ) (hS : SR G st Vs) (hH : HR G s h H locs) 
    (K : ∀ (H2 : Heap) (locs2 : List Loc) (ls2 : Array Slot) (Vs2 : List Value), LR G ls2 σ' → SR G st' Vs2 → HR G s h' H2 locs2 → W p l e R s m args below meth c0 H2 locs2 cells slots Q (F0 m pc' ls2 Vs2)) : W p l e R s m args below meth c0 H locs cells slots Q (F0 m pc ls Vs) := by
  obtain ⟨hx, hb, -⟩ := X
  obtain ⟨hd, rfl⟩ := one_ok hck
  simp only [step1] at hst
  split at hst
  · rename_i t k s0
    split at hst
    · rename_i ht
      cases hst
      obtain ⟨t1, -, t3⟩ := aLen_ok ht
      obtain ⟨u, L, rfl, e1, hT⟩ := sA hS
      clear hS
      obtain ⟨n, hn, e2⟩ := rvl_A e1 (by omega) (by omega) (by omega)
      cases e2
      have hw := wsOf_get G h hn
      rw [cell_int ht] at hw
      refine va_alen hx hb hH.1 hH.2.1 n 0 hw rfl rfl hd (K H locs ls _ hL ⟨rvl_mkI _ ?_, hT⟩ hH)
      show (nI (aLen t).toNat).toInt = aLen t
      rw [nI_toInt (by omega)]; omega
    · cases hst
  · cases hst
theorem sd_46 (X : Ctx p R s m meth c0 cc o nL G) (hck : ck1 o cc pc (46, a, b, c) = some pc') (hst : step1 (46, a, b, c) σ st h = some (σ', st', h')) (hL : LR G ls σ) (hS : SR G st Vs) (hH : HR G s h H locs) 
    (K : ∀ (H2 : Heap) (locs2 : List Loc) (ls2 : Array Slot) (Vs2 : List Value), LR G ls2 σ' → SR G st' Vs2 → HR G s h' H2 locs2 → W p l e R s m args below meth c0 H2 locs2 cells slots Q (F0 m pc' ls2 Vs2)) : W p l e R s m args below meth c0 H locs cells slots Q (F0 m pc ls Vs) := by
  obtain ⟨hx, hb, hown, hg, hO, -⟩ := X
  simp only [step1] at hst
  split at hst
  · rename_i t k s0
    split at hst
    · rename_i htc
      subst htc
      cases hst
      simp only [ck1] at hck
      split at hck
      · rename_i x hd
        obtain ⟨q, rfl⟩ := ifo_ok hck
        simp only [Bool.and_eq_true, decide_eq_true_eq, beq_iff_eq] at q
        have w := xlk_ok q.2
        simp only [xlQ] at w
        rw [show (o * 10000 + x) / 10000 = o by omega, show (o * 10000 + x) % 10000 = x by omega] at w
        obtain ⟨u, L, rfl, e1, hT⟩ := sA hS
        clear hS
        have e1 : k < nSt ∧ Value.ref u = .ref (gK G k) := e1
        obtain ⟨hk, e2⟩ := e1
        cases e2
        exact vk_getf (v := (.ref (gV G k))) hx hb (hO.1 k hk).2.2.1 hH.2.2.1 hown (hg.at w rfl args) (fun _ z => z) (dk_ok hd) (K H locs ls _ hL ⟨⟨hk, rfl⟩, hT⟩ hH)
      · cases hck
    · cases hst
  · cases hst
theorem sd_57 (X : Ctx p R s m meth c0 cc o nL G) (hck : ck1 o cc pc (57, a, b, c) = some pc') (hst : step1 (57, a, b, c) σ st h = some (σ', st', h')) (hL : LR G ls σ) (hS : SR G st Vs) (hH : HR G s h H locs) 
    (K : ∀ (H2 : Heap) (locs2 : List Loc) (ls2 : Array Slot) (Vs2 : List Value), LR G ls2 σ' → SR G st' Vs2 → HR G s h' H2 locs2 → W p l e R s m args below meth c0 H2 locs2 cells slots Q (F0 m pc' ls2 Vs2)) : W p l e R s m args below meth c0 H locs cells slots Q (F0 m pc ls Vs) := by
  obtain ⟨hx, hb, hown, hg, hO, -⟩ := X
  simp only [step1] at hst
  split at hst
  · rename_i t k s0
    split at hst
    · rename_i htc
      subst htc
      cases hst
      simp only [ck1] at hck
      split at hck
      · rename_i x hd
        obtain ⟨q, rfl⟩ := ifo_ok hck
        simp only [Bool.and_eq_true, decide_eq_true_eq, beq_iff_eq] at q
        have w := xlk_ok q.2
        simp only [xlQ] at w
        rw [show (o * 10000 + x) / 10000 = o by omega, show (o * 10000 + x) % 10000 = x by omega] at w
        obtain ⟨u, L, rfl, e1, hT⟩ := sA hS
        clear hS
        have e1 : k < nSt ∧ Value.ref u = .ref (gK G k) := e1
        obtain ⟨hk, e2⟩ := e1
        cases e2
        exact vk_getf (v := (.int 0)) hx hb (hO.1 k hk).2.1 hH.2.2.1 hown (hg.at w rfl args) (fun _ z => z) (dk_ok hd) (K H locs ls _ hL ⟨rvl_mkI 0 rfl, hT⟩ hH)
      · cases hck
    · cases hst
  · cases hst
theorem sd_51 (X : Ctx p R s m meth c0 cc o nL G) (hck : ck1 o cc pc (51, a, b, c) = some pc') (hst : step1 (51, a, b, c) σ st h = some (σ', st', h')) (hL : LR G ls σ) (hS : SR G st Vs) (hH : HR G s h H locs) 
    (K : ∀ (H2 : Heap) (locs2 : List Loc) (ls2 : Array Slot) (Vs2 : List Value), LR G ls2 σ' → SR G st' Vs2 → HR G s h' H2 locs2 → W p l e R s m args below meth c0 H2 locs2 cells slots Q (F0 m pc' ls2 Vs2)) : W p l e R s m args below meth c0 H locs cells slots Q (F0 m pc ls Vs) := by
  obtain ⟨hx, hb, hown, hg, hO, -⟩ := X
  simp only [step1] at hst
  cases hst
  simp only [ck1] at hck
  split at hck
  · rename_i x hd
    obtain ⟨q, rfl⟩ := ifo_ok hck
    simp only [Bool.and_eq_true, decide_eq_true_eq, beq_iff_eq] at q
    have w := xlk_ok q.2
    simp only [xlQ] at w
    rw [show (o * 10000 + x) / 10000 = o by omega, show (o * 10000 + x) % 10000 = x by omega] at w
    rcases hO.2.2.2.2.2.1 with hz | ⟨t, hz⟩
    · exact va_gets hx hb hz hH.2.2.1 hown (hg.at w rfl args) (fun _ z => z) (dk_ok hd) (K H locs ls _ hL ⟨Or.inl rfl, hS⟩ hH)
    · exact va_gets hx hb hz hH.2.2.1 hown (hg.at w rfl args) (fun _ z => z) (dk_ok hd) (K H locs ls _ hL ⟨Or.inr ⟨t, rfl⟩, hS⟩ hH)
  · cases hck
theorem sd_58 (X : Ctx p R s m meth c0 cc o nL G) (hck : ck1 o cc pc (58, a, b, c) = some pc') (hst : step1 (58, a, b, c) σ st h = some (σ', st', h')) (hL : LR G ls σ) (hS : SR G st Vs) (hH : HR G s h H locs) 
    (K : ∀ (H2 : Heap) (locs2 : List Loc) (ls2 : Array Slot) (Vs2 : List Value), LR G ls2 σ' → SR G st' Vs2 → HR G s h' H2 locs2 → W p l e R s m args below meth c0 H2 locs2 cells slots Q (F0 m pc' ls2 Vs2)) : W p l e R s m args below meth c0 H locs cells slots Q (F0 m pc ls Vs) := by
  obtain ⟨hx, hb, hown, hg, hO, -⟩ := X
  simp only [step1] at hst
  cases hst
  simp only [ck1] at hck
  split at hck
  · rename_i x hd
    obtain ⟨q, rfl⟩ := ifo_ok hck
    simp only [Bool.and_eq_true, decide_eq_true_eq, beq_iff_eq] at q
    have w := xlk_ok q.1.2
    simp only [xlQ] at w
    rw [show (o * 10000 + x) / 10000 = o by omega, show (o * 10000 + x) % 10000 = x by omega] at w
    exact va_gets hx hb hO.2.2.2.2.1 hH.2.2.1 hown (hg.at w rfl args) (fun _ z => z) (dk_ok hd) (K H locs ls _ hL ⟨rvl_mkI 1 (by rw [q.2]; rfl), hS⟩ hH)
  · cases hck
theorem sd_53 (X : Ctx p R s m meth c0 cc o nL G) (hck : ck1 o cc pc (53, a, b, c) = some pc') (hst : step1 (53, a, b, c) σ st h = some (σ', st', h')) (hL : LR G ls σ) (hS : SR G st Vs) (hH : HR G s h H locs) 
    (K : ∀ (H2 : Heap) (locs2 : List Loc) (ls2 : Array Slot) (Vs2 : List Value), LR G ls2 σ' → SR G st' Vs2 → HR G s h' H2 locs2 → W p l e R s m args below meth c0 H2 locs2 cells slots Q (F0 m pc' ls2 Vs2)) : W p l e R s m args below meth c0 H locs cells slots Q (F0 m pc ls Vs) := by
  obtain ⟨hx, hb, hown, hg, hO, -⟩ := X
  obtain ⟨hd, rfl⟩ := one_ok hck
  simp only [step1] at hst
  split at hst
  · rename_i i t k s0
    split at hst
    · rename_i hcd
      obtain ⟨⟨h0, h1⟩, rfl⟩ := hcd
      cases hst
      obtain ⟨v, L1, rfl, ev, hS⟩ := sI1 hS
      obtain ⟨u, L, rfl, e1, hT⟩ := sA hS
      clear hS
      have e1 : Value.ref u = .ref (gS G) := e1
      cases e1
      obtain ⟨-, -, hX, hlt, -, -, -, -, hsz, -⟩ := hO
      rw [hH.2.2.2.2.2.1] at h1
      obtain ⟨i1, i2⟩ := inIdx (n := gL G) ev h0 h1
      refine va_sld hx hb hX (by omega) (fun z => by have : gB G ≤ gS G := z; omega) hH.2.2.1 i1 hd (K H locs ls _ hL ⟨rvl_mkI _ ?_, hT⟩ hH)
      rw [i2]
      exact (hH.2.2.2.2.2.2 _ (by omega)).symm
    · cases hst
  · cases hst
theorem sd_54 (X : Ctx p R s m meth c0 cc o nL G) (hck : ck1 o cc pc (54, a, b, c) = some pc') (hst : step1 (54, a, b, c) σ st h = some (σ', st', h')) (hL : LR G ls σ) (hS : SR G st Vs) (hH : HR G s h H locs) 
    (K : ∀ (H2 : Heap) (locs2 : List Loc) (ls2 : Array Slot) (Vs2 : List Value), LR G ls2 σ' → SR G st' Vs2 → HR G s h' H2 locs2 → W p l e R s m args below meth c0 H2 locs2 cells slots Q (F0 m pc' ls2 Vs2)) : W p l e R s m args below meth c0 H locs cells slots Q (F0 m pc ls Vs) := by
  obtain ⟨hx, hb, hown, hg, hO, -⟩ := X
  obtain ⟨hd, rfl⟩ := one_ok hck
  simp only [step1] at hst
  split at hst
  · rename_i t k s0
    split at hst
    · rename_i htc
      subst htc
      cases hst
      obtain ⟨u, L, rfl, e1, hT⟩ := sA hS
      clear hS
      have e1 : Value.ref u = .ref (gS G) := e1
      cases e1
      obtain ⟨-, -, hX, hlt, -, -, -, -, hsz, -⟩ := hO
      refine va_slen hx hb hX (by omega) (fun z => by have : gB G ≤ gS G := z; omega) hH.2.2.1 hd (K H locs ls _ hL ⟨rvl_mkI _ ?_, hT⟩ hH)
      rw [hH.2.2.2.2.2.1]
      have hr := hH.2.2.2.1 27 0 0 (by omega)
      rw [hH.2.2.2.2.2.1] at hr
      exact nI_toInt (by have := hr.2; omega)
    · cases hst
  · cases hst
theorem sd_55 (X : Ctx p R s m meth c0 cc o nL G) (hck : ck1 o cc pc (55, a, b, c) = some pc') (hst : step1 (55, a, b, c) σ st h = some (σ', st', h')) (hL : LR G ls σ) (hS : SR G st Vs) (hH : HR G s h H locs) 
    (K : ∀ (H2 : Heap) (locs2 : List Loc) (ls2 : Array Slot) (Vs2 : List Value), LR G ls2 σ' → SR G st' Vs2 → HR G s h' H2 locs2 → W p l e R s m args below meth c0 H2 locs2 cells slots Q (F0 m pc' ls2 Vs2)) : W p l e R s m args below meth c0 H locs cells slots Q (F0 m pc ls Vs) := by
  obtain ⟨hx, hb, hown, hg, hO, -⟩ := X
  obtain ⟨hd, rfl⟩ := one_ok hck
  simp only [step1] at hst
  split at hst
  · rename_i i t k s0
    split at hst
    · rename_i hcd
      obtain ⟨⟨h0, h1⟩, rfl⟩ := hcd
      cases hst
      obtain ⟨v, L1, rfl, ev, hS⟩ := sI1 hS
      obtain ⟨u, L, rfl, e1, hT⟩ := sA hS
      clear hS
      have e1 : k < nSt ∧ Value.ref u = .ref (gV G k) := e1
      obtain ⟨hk, e2⟩ := e1
      cases e2
      obtain ⟨i1, i2⟩ := inIdx (n := (sLen k).toNat) ev h0 (by omega)
      refine va_tb hx hb (hO.1 k hk).2.2.2 hH.2.2.1 i1 rfl hd (K H locs ls _ hL ⟨rvl_mkI _ ?_, hT⟩ hH)
      rw [i2]
      exact of32 (sChr_in k _)
    · cases hst
  · cases hst
theorem sd_56 (X : Ctx p R s m meth c0 cc o nL G) (hck : ck1 o cc pc (56, a, b, c) = some pc') (hst : step1 (56, a, b, c) σ st h = some (σ', st', h')) (hL : LR G ls σ) (hS : SR G st Vs) (hH : HR G s h H locs) 
    (K : ∀ (H2 : Heap) (locs2 : List Loc) (ls2 : Array Slot) (Vs2 : List Value), LR G ls2 σ' → SR G st' Vs2 → HR G s h' H2 locs2 → W p l e R s m args below meth c0 H2 locs2 cells slots Q (F0 m pc' ls2 Vs2)) : W p l e R s m args below meth c0 H locs cells slots Q (F0 m pc ls Vs) := by
  obtain ⟨hx, hb, hown, hg, hO, -⟩ := X
  obtain ⟨hd, rfl⟩ := one_ok hck
  simp only [step1] at hst
  split at hst
  · rename_i t k s0
    split at hst
    · rename_i htc
      subst htc
      cases hst
      obtain ⟨u, L, rfl, e1, hT⟩ := sA hS
      clear hS
      have e1 : k < nSt ∧ Value.ref u = .ref (gV G k) := e1
      obtain ⟨hk, e2⟩ := e1
      cases e2
      refine va_tlen hx hb (hO.1 k hk).2.2.2 hH.2.2.1 rfl hd (K H locs ls _ hL ⟨rvl_mkI _ ?_, hT⟩ hH)
      show (nI (sLen k).toNat).toInt = sLen k
      have := sLen_in k
      rw [nI_toInt (by omega)]; omega
    · cases hst
  · cases hst
theorem sd_50 (X : Ctx p R s m meth c0 cc o nL G) (hck : ck1 o cc pc (50, a, b, c) = some pc') (hst : step1 (50, a, b, c) σ st h = some (σ', st', h')) (hL : LR G ls σ) (hS : SR G st Vs) (hH : HR G s h H locs) (hnl : nL = σ.length)
    (K : ∀ (H2 : Heap) (locs2 : List Loc) (ls2 : Array Slot) (Vs2 : List Value), LR G ls2 σ' → SR G st' Vs2 → HR G s h' H2 locs2 → W p l e R s m args below meth c0 H2 locs2 cells slots Q (F0 m pc' ls2 Vs2)) : W p l e R s m args below meth c0 H locs cells slots Q (F0 m pc ls Vs) := by
  obtain ⟨hx, hb, hown, hg, hO, hml, hfr, hlo, -⟩ := X
  simp only [step1] at hst
  split at hst
  · rename_i n j t' k' i t k s0
    split at hst
    · rename_i hcd
      obtain ⟨⟨rfl, hkk⟩, rfl, rfl, h0, h1, hwd⟩ := hcd
      cases hst
      simp only [ck1] at hck
      split at hck
      · rename_i x hd
        obtain ⟨q, rfl⟩ := ifo_ok hck
        simp only [Bool.and_eq_true, decide_eq_true_eq, beq_iff_eq] at q
        have w := ack_ok q.2
        simp only [acQ] at w
        rw [show (o * 10000 + x) / 10000 = o by omega, show (o * 10000 + x) % 10000 = x by omega] at w
        obtain ⟨vn, L5, rfl, en, hS⟩ := sI1 hS
        obtain ⟨vj, L4, rfl, ej, hS⟩ := sI1 hS
        obtain ⟨u', L3, rfl, e1', hS⟩ := sA hS
        obtain ⟨vi, L2, rfl, ei, hS⟩ := sI1 hS
        obtain ⟨u, L, rfl, e1, hT⟩ := sA hS
        clear hS
        have ht : 0 < aLen t := by omega
        obtain ⟨t1, -, t3⟩ := aLen_ok ht
        obtain ⟨n1, hn1, e2⟩ := rvl_A e1 (by omega) (by omega) (by omega)
        cases e2
        obtain ⟨n2, hn2, e2'⟩ := rvl_A e1' (by omega) (by omega) (by omega)
        cases e2'
        have hw1 := wsOf_get G h hn1
        have hw2 := wsOf_get G h hn2
        rw [cell_int ht] at hw1 hw2
        have c1 : vi.toNatClampNeg = 0 := by show vi.toInt.toNat = 0; rw [ei]; rfl
        have c2 : vj.toNatClampNeg = 0 := by show vj.toInt.toNat = 0; rw [ej]; rfl
        have c3 : vn.toNatClampNeg = n.toNat := by show vn.toInt.toNat = n.toNat; rw [en]
        have nz : ∀ v : Int32, 0 ≤ v.toInt → ¬ v < 0 := fun v hv z => by
          have := Int32.lt_iff_toInt_lt.mp z
          have e0 : (0 : Int32).toInt = 0 := rfl
          omega
        have hwl := SR_wd hT
        have hwd2 := Nat.le_of_ble_eq_true hwd
        refine va_copyi (ty := .int) hx hb (by rw [hml, LR_size hL, hnl]) hown (hg.at w rfl args) (hg.at ac_nat rfl args) (hg.at ac_stat rfl args) (hg.at ac_ini rfl args) hH.1 hH.2.1 (wsOf_D G h) hH.2.2.1 n1 n2 0 0 hw1 hw2 rfl rfl rfl (nz _ (by omega)) (nz _ (by omega)) (nz _ (by omega)) (by rw [c1, c3]; omega) (by rw [c2, c3]; omega) (fun _ _ => rfl) (by omega) (by rw [hwl]; show wd _ + (7 + 11) ≤ R.locals; omega) (dk_ok hd) (fun H1 locs1 hP1 hD1 hS1 => ?_)
        have hst1 : (wsOf G h).set n2 (gB G + n2, .inl (gC G 0, (aLen t).toNat, .inl (va_cpy (fun i => Int32.ofInt (h t k i)) (fun i => Int32.ofInt (h t k' i)) vi.toNatClampNeg vj.toNatClampNeg vn.toNatClampNeg))) = wsOf G (hcpy h t k t k' 0 0 n.toNat) := by
          rw [← ws_row G (h := h) (h' := hcpy h t k t k' 0 0 n.toNat) hn2 (by omega) (fun a b n hh => by unfold hcpy; rw [if_neg (by omega)]) (by omega), cell_int ht, c1, c2, c3]
          have hf : (fun i => Int32.ofInt (hcpy h t k t k' 0 0 n.toNat t k' i)) = va_cpy (fun i => Int32.ofInt (h t k i)) (fun i => Int32.ofInt (h t k' i)) 0 0 n.toNat := by
            funext i
            unfold va_cpy hcpy
            by_cases hi : i < n.toNat <;> simp [hi]
          rw [hf]
        rw [hst1] at hP1
        obtain ⟨a1, -, -, a4, a5, a6, a7⟩ := hH
        refine K H1 locs1 ls _ hL hT ⟨a1, hP1, hS1, fun a b i ha => ?_, fun b i => ?_, ?_, fun i hi => ?_⟩
        · unfold hcpy; split
          · exact a4 _ _ _ (by omega)
          · exact a4 a b i ha
        · unfold hcpy; rw [if_neg (by omega)]; exact a5 b i
        · unfold hcpy; rw [if_neg (by omega)]; exact a6
        · unfold hcpy; rw [if_neg (by omega)]; exact a7 i hi
      · cases hck
    · cases hst
  · cases hst
end Snd2
