/-! THE STEPS THAT BRANCH. -/
/-- the offset leads to b -/
def jto (pc : Nat) (off : Int) (b n : Nat) : Option Nat := ifo (decide ((pc : Int) + off = (b : Int))) (pc + n)
theorem jto_ok {pc b n pc' : Nat} {off : Int} (h : jto pc off b n = some pc') : (pc : Int) + off = (b : Int) ∧ pc' = pc + n := by
  obtain ⟨h1, h2⟩ := ifo_ok h
  exact ⟨by simpa using h1, h2.symm⟩
def swr (pc : Nat) (ps : List (Int × Int)) : List (Int × Nat) := ps.map (fun q => (q.1, ((pc : Int) + q.2).toNat))
theorem swr_ok {pc : Nat} {d : Int} {x : Int} (hd : 0 ≤ (pc : Int) + d) : ∀ {ps : List (Int × Int)}, ps.all (fun q => decide (0 ≤ (pc : Int) + q.2)) = true → (pc : Int) + Op.lookupswitch.offset ps d x = (swp x ((pc : Int) + d).toNat (swr pc ps) : Nat) := by
  intro ps
  induction ps with
  | nil => intro _; show (pc : Int) + d = (((pc : Int) + d).toNat : Nat); omega
  | cons q ps ih =>
    intro h
    obtain ⟨a, b⟩ := q
    simp only [List.all_cons, Bool.and_eq_true, decide_eq_true_eq] at h
    rw [Op.lookupswitch.offset_cons]
    show _ = ((if x = a then ((pc : Int) + b).toNat else swp x ((pc : Int) + d).toNat (swr pc ps) : Nat) : Int)
    by_cases e : a = x
    · rw [if_pos e, if_pos e.symm]; omega
    · rw [if_neg e, if_neg (fun z => e z.symm)]
      exact ih (by simpa using h.2)
def swt (pc : Nat) : Int → List Int → List (Int × Nat)
  | _, [] => []
  | lo, q :: l => (lo, ((pc : Int) + q).toNat) :: swt pc (lo + 1) l
theorem swt_out {pc d : Nat} {x : Int} : ∀ {l : List Int} {lo : Int}, (x < lo ∨ lo + l.length ≤ x) → swp x d (swt pc lo l) = d := by
  intro l
  induction l with
  | nil => intro lo _; rfl
  | cons q l ih =>
    intro lo h
    simp only [List.length_cons] at h
    show (if x = lo then _ else swp x d (swt pc (lo + 1) l)) = d
    rw [if_neg (by omega)]
    exact ih (by omega)
theorem swt_in {pc d : Nat} {x : Int} : ∀ {l : List Int} {lo : Int}, lo ≤ x → x < lo + l.length → ∃ q, l[(x - lo).toNat]? = some q ∧ swp x d (swt pc lo l) = ((pc : Int) + q).toNat := by
  intro l
  induction l with
  | nil => intro lo h1 h2; simp at h2; omega
  | cons q l ih =>
    intro lo h1 h2
    simp only [List.length_cons] at h2
    by_cases e : x = lo
    · subst e
      refine ⟨q, by simp, ?_⟩
      show (if x = x then _ else _) = _
      rw [if_pos rfl]
    · obtain ⟨q', a1, a2⟩ := ih (lo := lo + 1) (by omega) (by omega)
      refine ⟨q', ?_, ?_⟩
      · rw [show (x - lo).toNat = (x - (lo + 1)).toNat + 1 by omega]
        simpa using a1
      · show (if x = lo then _ else swp x d (swt pc (lo + 1) l)) = _
        rw [if_neg e]
        exact a2
def ckJ (cc : ByteArray) (pc : Nat) (i : AC) : Option Nat := match i with
  | (60, _, b, _) => match dk cc pc with
    | some (.goto off, 3) => jto pc off b 3
    | _ => none
  | (61, _, b, _) => ifo (b == pc) pc
  | (62, _, b, _) => match dk cc pc with
    | some (.if_icmp .eq off, 3) => jto pc off b 3
    | _ => none
  | (63, _, b, _) => match dk cc pc with
    | some (.if_icmp .ne off, 3) => jto pc off b 3
    | _ => none
  | (64, _, b, _) => match dk cc pc with
    | some (.if_icmp .lt off, 3) => jto pc off b 3
    | _ => none
  | (65, _, b, _) => match dk cc pc with
    | some (.if_icmp .ge off, 3) => jto pc off b 3
    | _ => none
  | (66, _, b, _) => match dk cc pc with
    | some (.if_icmp .gt off, 3) => jto pc off b 3
    | _ => none
  | (67, _, b, _) => match dk cc pc with
    | some (.if_icmp .le off, 3) => jto pc off b 3
    | _ => none
  | (68, _, b, _) => match dk cc pc with
    | some (.ifCond .eq off, 3) => jto pc off b 3
    | _ => none
  | (69, _, b, _) => match dk cc pc with
    | some (.ifCond .ne off, 3) => jto pc off b 3
    | _ => none
  | (70, _, b, _) => match dk cc pc with
    | some (.ifCond .lt off, 3) => jto pc off b 3
    | _ => none
  | (71, _, b, _) => match dk cc pc with
    | some (.ifCond .ge off, 3) => jto pc off b 3
    | _ => none
  | (72, _, b, _) => match dk cc pc with
    | some (.ifCond .gt off, 3) => jto pc off b 3
    | _ => none
  | (73, _, b, _) => match dk cc pc with
    | some (.ifCond .le off, 3) => jto pc off b 3
    | _ => none
  | (74, _, _, _) => match dk cc pc with
    | some (.ifnull _, 3) => some (pc + 3)
    | _ => none
  | (75, _, b, _) => match dk cc pc with
    | some (.ifnonnull off, 3) => jto pc off b 3
    | _ => none
  | (76, _, b, _) => match dk cc pc with
    | some (.lookupswitch d ps, n) => ifo ((ps.toList.zip (ps.toList.drop 1)).all (fun (a, next) => a.1 < next.1) && ps.toList.all (fun q => decide (0 ≤ (pc : Int) + q.2)) && decide (0 ≤ (pc : Int) + d) && decide (swT b = swr pc ps.toList) && decide (swD b = ((pc : Int) + d).toNat)) (pc + n)
    | some (.tableswitch d lo hi offs, n) => ifo (decide (hi + 1 = lo + offs.toList.length) && offs.toList.all (fun q => decide (0 ≤ (pc : Int) + q)) && decide (0 ≤ (pc : Int) + d) && decide (swT b = swt pc lo offs.toList) && decide (swD b = ((pc : Int) + d).toNat)) (pc + n)
    | _ => none
  | _ => none
theorem eq0 {v : Int32} : v = 0 ↔ v.toInt = 0 := ⟨fun h => by rw [h]; rfl, fun h => Int32.toInt_inj.mp h⟩
theorem lt0 {v : Int32} : v < 0 ↔ v.toInt < 0 := Int32.lt_iff_toInt_lt
theorem gt0 {v : Int32} : 0 < v ↔ 0 < v.toInt := Int32.lt_iff_toInt_lt
theorem ge0 {v : Int32} : 0 ≤ v ↔ 0 ≤ v.toInt := Int32.le_iff_toInt_le
theorem le0 {v : Int32} : v ≤ 0 ↔ v.toInt ≤ 0 := Int32.le_iff_toInt_le
section Jmp
variable {p : Program} {l : Launch} {e : Env} {R : Room} {s : State} {m : MethodId} {args : Array Value} {below : List Frame} {meth : Method} {c0 : Code} {Q : State → Prop} {cells slots : Nat} {cc : ByteArray} {o nL : Nat} {G : WG}
variable {H : Heap} {locs : List Loc} {ls : Array Slot} {Vs : List Value} {pc pc' : Nat} {a : Int} {b c : Nat} {st : List AV} {h : Hp} {ct : Ct}
theorem sj_60 (X : Ctx p R s m meth c0 cc o nL G) (hck : ckJ cc pc (60, a, b, c) = some pc') (hct : ctl (60, a, b, c) st h = some ct) (hS : SR G st Vs)
    (KJ : ∀ (b2 : Nat) (s2 : List AV) (Vs2 : List Value), ct = cjmp b2 s2 → SR G s2 Vs2 → W p l e R s m args below meth c0 H locs cells slots Q (F0 m b2 ls Vs2))
    (KN : ∀ (s2 : List AV) (Vs2 : List Value), ct = cnxt s2 → SR G s2 Vs2 → W p l e R s m args below meth c0 H locs cells slots Q (F0 m pc' ls Vs2)) : W p l e R s m args below meth c0 H locs cells slots Q (F0 m pc ls Vs) := by
  obtain ⟨hx, hb, -⟩ := X
  simp only [ckJ] at hck
  split at hck
  · rename_i off hd
    obtain ⟨ht, rfl⟩ := jto_ok hck
    have hd := dk_ok hd
    simp only [ctl] at hct
    cases hct
    exact lv_goto hx hb hd ht (KJ _ _ _ rfl hS)
  · cases hck
theorem sj_61 (X : Ctx p R s m meth c0 cc o nL G) (hck : ckJ cc pc (61, a, b, c) = some pc') (hct : ctl (61, a, b, c) st h = some ct) (hS : SR G st Vs)
    (KJ : ∀ (b2 : Nat) (s2 : List AV) (Vs2 : List Value), ct = cjmp b2 s2 → SR G s2 Vs2 → W p l e R s m args below meth c0 H locs cells slots Q (F0 m b2 ls Vs2))
    (KN : ∀ (s2 : List AV) (Vs2 : List Value), ct = cnxt s2 → SR G s2 Vs2 → W p l e R s m args below meth c0 H locs cells slots Q (F0 m pc' ls Vs2)) : W p l e R s m args below meth c0 H locs cells slots Q (F0 m pc ls Vs) := by
  obtain ⟨hx, hb, -⟩ := X
  obtain ⟨h1, rfl⟩ := ifo_ok hck
  have h1 : b = pc := by simpa using h1
  subst h1
  simp only [ctl] at hct
  cases hct
  exact KJ _ _ _ rfl hS
theorem sj_62 (X : Ctx p R s m meth c0 cc o nL G) (hck : ckJ cc pc (62, a, b, c) = some pc') (hct : ctl (62, a, b, c) st h = some ct) (hS : SR G st Vs)
    (KJ : ∀ (b2 : Nat) (s2 : List AV) (Vs2 : List Value), ct = cjmp b2 s2 → SR G s2 Vs2 → W p l e R s m args below meth c0 H locs cells slots Q (F0 m b2 ls Vs2))
    (KN : ∀ (s2 : List AV) (Vs2 : List Value), ct = cnxt s2 → SR G s2 Vs2 → W p l e R s m args below meth c0 H locs cells slots Q (F0 m pc' ls Vs2)) : W p l e R s m args below meth c0 H locs cells slots Q (F0 m pc ls Vs) := by
  obtain ⟨hx, hb, -⟩ := X
  simp only [ckJ] at hck
  split at hck
  · rename_i off hd
    obtain ⟨ht, rfl⟩ := jto_ok hck
    have hd := dk_ok hd
    simp only [ctl] at hct
    split at hct
    · rename_i y x s0
      cases hct
      obtain ⟨v, w, L, rfl, e1, e2, hS2⟩ := sI hS
      subst e1; subst e2
      refine lv_icmp_eq hx hb hd ht (fun hP => KJ _ _ _ ?_ hS2) (fun hP => KN _ _ ?_ hS2)
      · exact if_pos (congrArg Int32.toInt hP)
      · exact if_neg (fun z => hP (Int32.toInt_inj.mp z))
    · cases hct
  · cases hck
theorem sj_63 (X : Ctx p R s m meth c0 cc o nL G) (hck : ckJ cc pc (63, a, b, c) = some pc') (hct : ctl (63, a, b, c) st h = some ct) (hS : SR G st Vs)
    (KJ : ∀ (b2 : Nat) (s2 : List AV) (Vs2 : List Value), ct = cjmp b2 s2 → SR G s2 Vs2 → W p l e R s m args below meth c0 H locs cells slots Q (F0 m b2 ls Vs2))
    (KN : ∀ (s2 : List AV) (Vs2 : List Value), ct = cnxt s2 → SR G s2 Vs2 → W p l e R s m args below meth c0 H locs cells slots Q (F0 m pc' ls Vs2)) : W p l e R s m args below meth c0 H locs cells slots Q (F0 m pc ls Vs) := by
  obtain ⟨hx, hb, -⟩ := X
  simp only [ckJ] at hck
  split at hck
  · rename_i off hd
    obtain ⟨ht, rfl⟩ := jto_ok hck
    have hd := dk_ok hd
    simp only [ctl] at hct
    split at hct
    · rename_i y x s0
      cases hct
      obtain ⟨v, w, L, rfl, e1, e2, hS2⟩ := sI hS
      subst e1; subst e2
      refine lv_icmp_ne hx hb hd ht (fun hP => KJ _ _ _ ?_ hS2) (fun hP => KN _ _ ?_ hS2)
      · exact if_neg (fun z => hP (Int32.toInt_inj.mp z))
      · exact if_pos (congrArg Int32.toInt hP)
    · cases hct
  · cases hck
theorem sj_64 (X : Ctx p R s m meth c0 cc o nL G) (hck : ckJ cc pc (64, a, b, c) = some pc') (hct : ctl (64, a, b, c) st h = some ct) (hS : SR G st Vs)
    (KJ : ∀ (b2 : Nat) (s2 : List AV) (Vs2 : List Value), ct = cjmp b2 s2 → SR G s2 Vs2 → W p l e R s m args below meth c0 H locs cells slots Q (F0 m b2 ls Vs2))
    (KN : ∀ (s2 : List AV) (Vs2 : List Value), ct = cnxt s2 → SR G s2 Vs2 → W p l e R s m args below meth c0 H locs cells slots Q (F0 m pc' ls Vs2)) : W p l e R s m args below meth c0 H locs cells slots Q (F0 m pc ls Vs) := by
  obtain ⟨hx, hb, -⟩ := X
  simp only [ckJ] at hck
  split at hck
  · rename_i off hd
    obtain ⟨ht, rfl⟩ := jto_ok hck
    have hd := dk_ok hd
    simp only [ctl] at hct
    split at hct
    · rename_i y x s0
      cases hct
      obtain ⟨v, w, L, rfl, e1, e2, hS2⟩ := sI hS
      subst e1; subst e2
      refine lv_icmp_lt hx hb hd ht (fun hP => KJ _ _ _ ?_ hS2) (fun hP => KN _ _ ?_ hS2)
      · exact if_pos (Int32.lt_iff_toInt_lt.mp hP)
      · exact if_neg (fun z => hP (Int32.lt_iff_toInt_lt.mpr z))
    · cases hct
  · cases hck
theorem sj_65 (X : Ctx p R s m meth c0 cc o nL G) (hck : ckJ cc pc (65, a, b, c) = some pc') (hct : ctl (65, a, b, c) st h = some ct) (hS : SR G st Vs)
    (KJ : ∀ (b2 : Nat) (s2 : List AV) (Vs2 : List Value), ct = cjmp b2 s2 → SR G s2 Vs2 → W p l e R s m args below meth c0 H locs cells slots Q (F0 m b2 ls Vs2))
    (KN : ∀ (s2 : List AV) (Vs2 : List Value), ct = cnxt s2 → SR G s2 Vs2 → W p l e R s m args below meth c0 H locs cells slots Q (F0 m pc' ls Vs2)) : W p l e R s m args below meth c0 H locs cells slots Q (F0 m pc ls Vs) := by
  obtain ⟨hx, hb, -⟩ := X
  simp only [ckJ] at hck
  split at hck
  · rename_i off hd
    obtain ⟨ht, rfl⟩ := jto_ok hck
    have hd := dk_ok hd
    simp only [ctl] at hct
    split at hct
    · rename_i y x s0
      cases hct
      obtain ⟨v, w, L, rfl, e1, e2, hS2⟩ := sI hS
      subst e1; subst e2
      refine lv_icmp_ge hx hb hd ht (fun hP => KJ _ _ _ ?_ hS2) (fun hP => KN _ _ ?_ hS2)
      · exact if_neg (Int.not_lt.mpr (Int32.le_iff_toInt_le.mp hP))
      · exact if_pos (Int.not_le.mp (fun z => hP (Int32.le_iff_toInt_le.mpr z)))
    · cases hct
  · cases hck
theorem sj_66 (X : Ctx p R s m meth c0 cc o nL G) (hck : ckJ cc pc (66, a, b, c) = some pc') (hct : ctl (66, a, b, c) st h = some ct) (hS : SR G st Vs)
    (KJ : ∀ (b2 : Nat) (s2 : List AV) (Vs2 : List Value), ct = cjmp b2 s2 → SR G s2 Vs2 → W p l e R s m args below meth c0 H locs cells slots Q (F0 m b2 ls Vs2))
    (KN : ∀ (s2 : List AV) (Vs2 : List Value), ct = cnxt s2 → SR G s2 Vs2 → W p l e R s m args below meth c0 H locs cells slots Q (F0 m pc' ls Vs2)) : W p l e R s m args below meth c0 H locs cells slots Q (F0 m pc ls Vs) := by
  obtain ⟨hx, hb, -⟩ := X
  simp only [ckJ] at hck
  split at hck
  · rename_i off hd
    obtain ⟨ht, rfl⟩ := jto_ok hck
    have hd := dk_ok hd
    simp only [ctl] at hct
    split at hct
    · rename_i y x s0
      cases hct
      obtain ⟨v, w, L, rfl, e1, e2, hS2⟩ := sI hS
      subst e1; subst e2
      refine lv_icmp_gt hx hb hd ht (fun hP => KJ _ _ _ ?_ hS2) (fun hP => KN _ _ ?_ hS2)
      · exact if_pos (Int32.lt_iff_toInt_lt.mp hP)
      · exact if_neg (fun z => hP (Int32.lt_iff_toInt_lt.mpr z))
    · cases hct
  · cases hck
theorem sj_67 (X : Ctx p R s m meth c0 cc o nL G) (hck : ckJ cc pc (67, a, b, c) = some pc') (hct : ctl (67, a, b, c) st h = some ct) (hS : SR G st Vs)
    (KJ : ∀ (b2 : Nat) (s2 : List AV) (Vs2 : List Value), ct = cjmp b2 s2 → SR G s2 Vs2 → W p l e R s m args below meth c0 H locs cells slots Q (F0 m b2 ls Vs2))
    (KN : ∀ (s2 : List AV) (Vs2 : List Value), ct = cnxt s2 → SR G s2 Vs2 → W p l e R s m args below meth c0 H locs cells slots Q (F0 m pc' ls Vs2)) : W p l e R s m args below meth c0 H locs cells slots Q (F0 m pc ls Vs) := by
  obtain ⟨hx, hb, -⟩ := X
  simp only [ckJ] at hck
  split at hck
  · rename_i off hd
    obtain ⟨ht, rfl⟩ := jto_ok hck
    have hd := dk_ok hd
    simp only [ctl] at hct
    split at hct
    · rename_i y x s0
      cases hct
      obtain ⟨v, w, L, rfl, e1, e2, hS2⟩ := sI hS
      subst e1; subst e2
      refine lv_icmp_le hx hb hd ht (fun hP => KJ _ _ _ ?_ hS2) (fun hP => KN _ _ ?_ hS2)
      · exact if_neg (Int.not_lt.mpr (Int32.le_iff_toInt_le.mp hP))
      · exact if_pos (Int.not_le.mp (fun z => hP (Int32.le_iff_toInt_le.mpr z)))
    · cases hct
  · cases hck
theorem sj_68 (X : Ctx p R s m meth c0 cc o nL G) (hck : ckJ cc pc (68, a, b, c) = some pc') (hct : ctl (68, a, b, c) st h = some ct) (hS : SR G st Vs)
    (KJ : ∀ (b2 : Nat) (s2 : List AV) (Vs2 : List Value), ct = cjmp b2 s2 → SR G s2 Vs2 → W p l e R s m args below meth c0 H locs cells slots Q (F0 m b2 ls Vs2))
    (KN : ∀ (s2 : List AV) (Vs2 : List Value), ct = cnxt s2 → SR G s2 Vs2 → W p l e R s m args below meth c0 H locs cells slots Q (F0 m pc' ls Vs2)) : W p l e R s m args below meth c0 H locs cells slots Q (F0 m pc ls Vs) := by
  obtain ⟨hx, hb, -⟩ := X
  simp only [ckJ] at hck
  split at hck
  · rename_i off hd
    obtain ⟨ht, rfl⟩ := jto_ok hck
    have hd := dk_ok hd
    simp only [ctl] at hct
    split at hct
    · rename_i x s0
      cases hct
      obtain ⟨v, L, rfl, e1, hS2⟩ := sI1 hS
      subst e1
      refine lv_if_eq hx hb hd ht (fun hP => KJ _ _ _ ?_ hS2) (fun hP => KN _ _ ?_ hS2)
      · exact if_pos (eq0.mp hP)
      · exact if_neg (fun z => hP (eq0.mpr z))
    · cases hct
  · cases hck
theorem sj_69 (X : Ctx p R s m meth c0 cc o nL G) (hck : ckJ cc pc (69, a, b, c) = some pc') (hct : ctl (69, a, b, c) st h = some ct) (hS : SR G st Vs)
    (KJ : ∀ (b2 : Nat) (s2 : List AV) (Vs2 : List Value), ct = cjmp b2 s2 → SR G s2 Vs2 → W p l e R s m args below meth c0 H locs cells slots Q (F0 m b2 ls Vs2))
    (KN : ∀ (s2 : List AV) (Vs2 : List Value), ct = cnxt s2 → SR G s2 Vs2 → W p l e R s m args below meth c0 H locs cells slots Q (F0 m pc' ls Vs2)) : W p l e R s m args below meth c0 H locs cells slots Q (F0 m pc ls Vs) := by
  obtain ⟨hx, hb, -⟩ := X
  simp only [ckJ] at hck
  split at hck
  · rename_i off hd
    obtain ⟨ht, rfl⟩ := jto_ok hck
    have hd := dk_ok hd
    simp only [ctl] at hct
    split at hct
    · rename_i x s0
      cases hct
      obtain ⟨v, L, rfl, e1, hS2⟩ := sI1 hS
      subst e1
      refine lv_if_ne hx hb hd ht (fun hP => KJ _ _ _ ?_ hS2) (fun hP => KN _ _ ?_ hS2)
      · exact if_neg (fun z => hP (eq0.mpr z))
      · exact if_pos (eq0.mp hP)
    · cases hct
  · cases hck
theorem sj_70 (X : Ctx p R s m meth c0 cc o nL G) (hck : ckJ cc pc (70, a, b, c) = some pc') (hct : ctl (70, a, b, c) st h = some ct) (hS : SR G st Vs)
    (KJ : ∀ (b2 : Nat) (s2 : List AV) (Vs2 : List Value), ct = cjmp b2 s2 → SR G s2 Vs2 → W p l e R s m args below meth c0 H locs cells slots Q (F0 m b2 ls Vs2))
    (KN : ∀ (s2 : List AV) (Vs2 : List Value), ct = cnxt s2 → SR G s2 Vs2 → W p l e R s m args below meth c0 H locs cells slots Q (F0 m pc' ls Vs2)) : W p l e R s m args below meth c0 H locs cells slots Q (F0 m pc ls Vs) := by
  obtain ⟨hx, hb, -⟩ := X
  simp only [ckJ] at hck
  split at hck
  · rename_i off hd
    obtain ⟨ht, rfl⟩ := jto_ok hck
    have hd := dk_ok hd
    simp only [ctl] at hct
    split at hct
    · rename_i x s0
      cases hct
      obtain ⟨v, L, rfl, e1, hS2⟩ := sI1 hS
      subst e1
      refine lv_if_lt hx hb hd ht (fun hP => KJ _ _ _ ?_ hS2) (fun hP => KN _ _ ?_ hS2)
      · exact if_pos (lt0.mp hP)
      · exact if_neg (fun z => hP (lt0.mpr z))
    · cases hct
  · cases hck
theorem sj_71 (X : Ctx p R s m meth c0 cc o nL G) (hck : ckJ cc pc (71, a, b, c) = some pc') (hct : ctl (71, a, b, c) st h = some ct) (hS : SR G st Vs)
    (KJ : ∀ (b2 : Nat) (s2 : List AV) (Vs2 : List Value), ct = cjmp b2 s2 → SR G s2 Vs2 → W p l e R s m args below meth c0 H locs cells slots Q (F0 m b2 ls Vs2))
    (KN : ∀ (s2 : List AV) (Vs2 : List Value), ct = cnxt s2 → SR G s2 Vs2 → W p l e R s m args below meth c0 H locs cells slots Q (F0 m pc' ls Vs2)) : W p l e R s m args below meth c0 H locs cells slots Q (F0 m pc ls Vs) := by
  obtain ⟨hx, hb, -⟩ := X
  simp only [ckJ] at hck
  split at hck
  · rename_i off hd
    obtain ⟨ht, rfl⟩ := jto_ok hck
    have hd := dk_ok hd
    simp only [ctl] at hct
    split at hct
    · rename_i x s0
      cases hct
      obtain ⟨v, L, rfl, e1, hS2⟩ := sI1 hS
      subst e1
      refine lv_if_ge hx hb hd ht (fun hP => KJ _ _ _ ?_ hS2) (fun hP => KN _ _ ?_ hS2)
      · exact if_neg (Int.not_lt.mpr (ge0.mp hP))
      · exact if_pos (Int.not_le.mp (fun z => hP (ge0.mpr z)))
    · cases hct
  · cases hck
theorem sj_72 (X : Ctx p R s m meth c0 cc o nL G) (hck : ckJ cc pc (72, a, b, c) = some pc') (hct : ctl (72, a, b, c) st h = some ct) (hS : SR G st Vs)
    (KJ : ∀ (b2 : Nat) (s2 : List AV) (Vs2 : List Value), ct = cjmp b2 s2 → SR G s2 Vs2 → W p l e R s m args below meth c0 H locs cells slots Q (F0 m b2 ls Vs2))
    (KN : ∀ (s2 : List AV) (Vs2 : List Value), ct = cnxt s2 → SR G s2 Vs2 → W p l e R s m args below meth c0 H locs cells slots Q (F0 m pc' ls Vs2)) : W p l e R s m args below meth c0 H locs cells slots Q (F0 m pc ls Vs) := by
  obtain ⟨hx, hb, -⟩ := X
  simp only [ckJ] at hck
  split at hck
  · rename_i off hd
    obtain ⟨ht, rfl⟩ := jto_ok hck
    have hd := dk_ok hd
    simp only [ctl] at hct
    split at hct
    · rename_i x s0
      cases hct
      obtain ⟨v, L, rfl, e1, hS2⟩ := sI1 hS
      subst e1
      refine lv_if_gt hx hb hd ht (fun hP => KJ _ _ _ ?_ hS2) (fun hP => KN _ _ ?_ hS2)
      · exact if_pos (gt0.mp hP)
      · exact if_neg (fun z => hP (gt0.mpr z))
    · cases hct
  · cases hck
theorem sj_73 (X : Ctx p R s m meth c0 cc o nL G) (hck : ckJ cc pc (73, a, b, c) = some pc') (hct : ctl (73, a, b, c) st h = some ct) (hS : SR G st Vs)
    (KJ : ∀ (b2 : Nat) (s2 : List AV) (Vs2 : List Value), ct = cjmp b2 s2 → SR G s2 Vs2 → W p l e R s m args below meth c0 H locs cells slots Q (F0 m b2 ls Vs2))
    (KN : ∀ (s2 : List AV) (Vs2 : List Value), ct = cnxt s2 → SR G s2 Vs2 → W p l e R s m args below meth c0 H locs cells slots Q (F0 m pc' ls Vs2)) : W p l e R s m args below meth c0 H locs cells slots Q (F0 m pc ls Vs) := by
  obtain ⟨hx, hb, -⟩ := X
  simp only [ckJ] at hck
  split at hck
  · rename_i off hd
    obtain ⟨ht, rfl⟩ := jto_ok hck
    have hd := dk_ok hd
    simp only [ctl] at hct
    split at hct
    · rename_i x s0
      cases hct
      obtain ⟨v, L, rfl, e1, hS2⟩ := sI1 hS
      subst e1
      refine lv_if_le hx hb hd ht (fun hP => KJ _ _ _ ?_ hS2) (fun hP => KN _ _ ?_ hS2)
      · exact if_neg (Int.not_lt.mpr (le0.mp hP))
      · exact if_pos (Int.not_le.mp (fun z => hP (le0.mpr z)))
    · cases hct
  · cases hck
theorem sj_74 (X : Ctx p R s m meth c0 cc o nL G) (hck : ckJ cc pc (74, a, b, c) = some pc') (hct : ctl (74, a, b, c) st h = some ct) (hS : SR G st Vs)
    (KJ : ∀ (b2 : Nat) (s2 : List AV) (Vs2 : List Value), ct = cjmp b2 s2 → SR G s2 Vs2 → W p l e R s m args below meth c0 H locs cells slots Q (F0 m b2 ls Vs2))
    (KN : ∀ (s2 : List AV) (Vs2 : List Value), ct = cnxt s2 → SR G s2 Vs2 → W p l e R s m args below meth c0 H locs cells slots Q (F0 m pc' ls Vs2)) : W p l e R s m args below meth c0 H locs cells slots Q (F0 m pc ls Vs) := by
  obtain ⟨hx, hb, -⟩ := X
  simp only [ckJ] at hck
  split at hck
  · rename_i off hd
    cases hck
    have hd := dk_ok hd
    simp only [ctl] at hct
    split at hct
    · split at hct
      · cases hct
        obtain ⟨q, L, rfl, -, hS⟩ := sA hS
        exact lv_ifnull hx hb hd (KN _ _ rfl hS)
      · cases hct
    · cases hct
  · cases hck
theorem sj_75 (X : Ctx p R s m meth c0 cc o nL G) (hck : ckJ cc pc (75, a, b, c) = some pc') (hct : ctl (75, a, b, c) st h = some ct) (hS : SR G st Vs)
    (KJ : ∀ (b2 : Nat) (s2 : List AV) (Vs2 : List Value), ct = cjmp b2 s2 → SR G s2 Vs2 → W p l e R s m args below meth c0 H locs cells slots Q (F0 m b2 ls Vs2))
    (KN : ∀ (s2 : List AV) (Vs2 : List Value), ct = cnxt s2 → SR G s2 Vs2 → W p l e R s m args below meth c0 H locs cells slots Q (F0 m pc' ls Vs2)) : W p l e R s m args below meth c0 H locs cells slots Q (F0 m pc ls Vs) := by
  obtain ⟨hx, hb, -⟩ := X
  simp only [ckJ] at hck
  split at hck
  · rename_i off hd
    obtain ⟨ht, rfl⟩ := jto_ok hck
    have hd := dk_ok hd
    simp only [ctl] at hct
    split at hct
    · split at hct
      · cases hct
        obtain ⟨q, L, rfl, -, hS⟩ := sA hS
        exact lv_ifnonnull hx hb hd ht (KJ _ _ _ rfl hS)
      · cases hct
    · cases hct
  · cases hck
theorem sj_76 (X : Ctx p R s m meth c0 cc o nL G) (hck : ckJ cc pc (76, a, b, c) = some pc') (hct : ctl (76, a, b, c) st h = some ct) (hS : SR G st Vs)
    (KJ : ∀ (b2 : Nat) (s2 : List AV) (Vs2 : List Value), ct = cjmp b2 s2 → SR G s2 Vs2 → W p l e R s m args below meth c0 H locs cells slots Q (F0 m b2 ls Vs2))
    (KN : ∀ (s2 : List AV) (Vs2 : List Value), ct = cnxt s2 → SR G s2 Vs2 → W p l e R s m args below meth c0 H locs cells slots Q (F0 m pc' ls Vs2)) : W p l e R s m args below meth c0 H locs cells slots Q (F0 m pc ls Vs) := by
  obtain ⟨hx, hb, -⟩ := X
  simp only [ctl] at hct
  split at hct
  · rename_i x s0
    cases hct
    obtain ⟨v, L, rfl, e1, hS2⟩ := sI1 hS
    subst e1
    simp only [ckJ] at hck
    split at hck
    · rename_i d ps n hd
      obtain ⟨h1, rfl⟩ := ifo_ok hck
      have hd := dk_ok hd
      rw [Bool.and_eq_true, Bool.and_eq_true, Bool.and_eq_true, Bool.and_eq_true, decide_eq_true_eq, decide_eq_true_eq, decide_eq_true_eq] at h1
      obtain ⟨⟨⟨⟨h1, h2⟩, h3⟩, h4⟩, h5⟩ := h1
      refine lv_lookup hx hb hd h1 rfl (swr_ok h3 h2) (KJ _ _ _ ?_ hS2)
      rw [h4, h5]
    · rename_i d lo hi offs n hd
      obtain ⟨h1, rfl⟩ := ifo_ok hck
      have hd := dk_ok hd
      rw [Bool.and_eq_true, Bool.and_eq_true, Bool.and_eq_true, Bool.and_eq_true, decide_eq_true_eq, decide_eq_true_eq, decide_eq_true_eq, decide_eq_true_eq] at h1
      obtain ⟨⟨⟨⟨h1, h2⟩, h3⟩, h4⟩, h5⟩ := h1
      by_cases hr : v.toInt < lo ∨ hi < v.toInt
      · refine lv_tableOut (tgt := ((pc : Int) + d).toNat) hx hb hd hr (by omega) (KJ _ _ _ ?_ hS2)
        rw [h4, h5, swt_out (by omega)]
      · obtain ⟨q, q1, q2⟩ := swt_in (pc := pc) (d := ((pc : Int) + d).toNat) (x := v.toInt) (l := offs.toList) (lo := lo) (by omega) (by omega)
        have q3 := List.all_eq_true.mp h2 q (List.mem_of_getElem? q1)
        have q3 : 0 ≤ (pc : Int) + q := by simpa using q3
        refine lv_tableIn (tgt := ((pc : Int) + q).toNat) hx hb hd (by omega) (by omega) (by rw [← q1]; simp) (by omega) (KJ _ _ _ ?_ hS2)
        rw [h4, h5, q2]
    · cases hck
  · cases hct
end Jmp
