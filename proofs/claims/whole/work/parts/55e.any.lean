/-! THE MASTER THEOREM: what the abstract machine does, the JVM does. Written by wip/src/mk55e.py. -/
theorem step1_len {i : AC} {σ st : List AV} {h : Hp} {q : List AV × List AV × Hp} (hh : step1 i σ st h = some q) : q.1.length = σ.length := by
  obtain ⟨n, a, b, c⟩ := i
  unfold step1 at hh
  split at hh
  all_goals
    (try (repeat' split at hh))
    all_goals first
      | (cases hh; rfl)
      | cases hh
      | (obtain ⟨r, h1, h2⟩ := Option.map_eq_some_iff.mp hh; cases h2; exact (lset_spec h1).2.1)
      | (obtain ⟨r, h1, h2⟩ := Option.map_eq_some_iff.mp hh; cases h2; exact (lset2_spec h1).2.1)
section Master
variable {p : Program} {l : Launch} {e : Env} {R : Room} {s : State} {m : MethodId} {args : Array Value} {below : List Frame} {meth : Method} {c0 : Code} {Q : State → Prop} {cells slots : Nat} {cc : ByteArray} {o nL : Nat} {G : WG}
variable {H : Heap} {locs : List Loc} {ls : Array Slot} {Vs : List Value} {pc pc' : Nat} {σ st σ' st' : List AV} {h h' : Hp}
theorem sd_any (X : Ctx p R s m meth c0 cc o nL G) (i : AC) (hi : i.1 < 60) (hck : ck1 o cc pc i = some pc') (hst : step1 i σ st h = some (σ', st', h')) (hnl : nL = σ.length) (hL : LR G ls σ) (hS : SR G st Vs) (hH : HR G s h H locs)
    (K : ∀ (H2 : Heap) (locs2 : List Loc) (ls2 : Array Slot) (Vs2 : List Value), LR G ls2 σ' → SR G st' Vs2 → HR G s h' H2 locs2 → W p l e R s m args below meth c0 H2 locs2 cells slots Q (F0 m pc' ls2 Vs2)) : W p l e R s m args below meth c0 H locs cells slots Q (F0 m pc ls Vs) := by
  obtain ⟨n, a, b, c⟩ := i
  match n, hi, hck, hst with
  | 0, _, _, hst => cases hst
  | 1, _, hck, hst => exact sd_1 X hck hst hL hS hH K
  | 2, _, hck, hst => exact sd_2 X hck hst hL hS hH K
  | 3, _, hck, hst => exact sd_3 X hck hst hL hS hH K
  | 4, _, hck, hst => exact sd_4 X hck hst hL hS hH K
  | 5, _, hck, hst => exact sd_5 X hck hst hL hS hH K
  | 6, _, hck, hst => exact sd_6 X hck hst hL hS hH K
  | 7, _, hck, hst => exact sd_7 X hck hst hL hS hH K
  | 8, _, hck, hst => exact sd_8 X hck hst hL hS hH K
  | 9, _, hck, hst => exact sd_9 X hck hst hL hS hH K
  | 10, _, hck, hst => exact sd_10 X hck hst hL hS hH K
  | 11, _, hck, hst => exact sd_11 X hck hst hL hS hH K
  | 12, _, hck, hst => exact sd_12 X hck hst hL hS hH K
  | 13, _, hck, hst => exact sd_13 X hck hst hL hS hH K
  | 14, _, hck, hst => exact sd_14 X hck hst hL hS hH K
  | 15, _, hck, hst => exact sd_15 X hck hst hL hS hH K
  | 16, _, hck, hst => exact sd_16 X hck hst hL hS hH K
  | 17, _, hck, hst => exact sd_17 X hck hst hL hS hH K
  | 18, _, hck, hst => exact sd_18 X hck hst hL hS hH K
  | 19, _, hck, hst => exact sd_19 X hck hst hL hS hH K
  | 20, _, hck, hst => exact sd_20 X hck hst hL hS hH K
  | 21, _, hck, hst => exact sd_21 X hck hst hL hS hH K
  | 22, _, hck, hst => exact sd_22 X hck hst hL hS hH K
  | 23, _, hck, hst => exact sd_23 X hck hst hL hS hH K
  | 24, _, hck, hst => exact sd_24 X hck hst hL hS hH K
  | 25, _, hck, hst => exact sd_25 X hck hst hL hS hH K
  | 26, _, hck, hst => exact sd_26 X hck hst hL hS hH K
  | 27, _, hck, hst => exact sd_27 X hck hst hL hS hH K
  | 28, _, hck, hst => exact sd_28 X hck hst hL hS hH K
  | 29, _, hck, hst => exact sd_29 X hck hst hL hS hH K
  | 30, _, hck, hst => exact sd_30 X hck hst hL hS hH K
  | 31, _, hck, hst => exact sd_31 X hck hst hL hS hH K
  | 32, _, hck, hst => exact sd_32 X hck hst hL hS hH K
  | 33, _, hck, hst => exact sd_33 X hck hst hL hS hH K
  | 34, _, hck, hst => exact sd_34 X hck hst hL hS hH K
  | 35, _, hck, hst => exact sd_35 X hck hst hL hS hH K
  | 36, _, hck, hst => exact sd_36 X hck hst hL hS hH K
  | 37, _, hck, hst => exact sd_37 X hck hst hL hS hH K
  | 38, _, hck, hst => exact sd_38 X hck hst hL hS hH K
  | 39, _, hck, hst => exact sd_39 X hck hst hL hS hH K
  | 40, _, hck, hst => exact sd_40 X hck hst hL hS hH K
  | 41, _, hck, hst => exact sd_41 X hck hst hL hS hH K
  | 42, _, hck, hst => exact sd_42 X hck hst hL hS hH K
  | 43, _, hck, hst => exact sd_43 X hck hst hL hS hH K
  | 44, _, hck, hst => exact sd_44 X hck hst hL hS hH K
  | 45, _, hck, hst => exact sd_45 X hck hst hL hS hH K
  | 46, _, hck, hst => exact sd_46 X hck hst hL hS hH K
  | 47, _, hck, hst => exact sd_47 X hck hst hL hS hH K
  | 48, _, hck, hst => exact sd_48 X hck hst hL hS hH K
  | 49, _, hck, hst => exact sd_49 X hck hst hL hS hH K
  | 50, _, hck, hst => exact sd_50 X hck hst hL hS hH hnl K
  | 51, _, hck, hst => exact sd_51 X hck hst hL hS hH K
  | 52, _, hck, hst => exact sd_52 X hck hst hL hS hH K
  | 53, _, hck, hst => exact sd_53 X hck hst hL hS hH K
  | 54, _, hck, hst => exact sd_54 X hck hst hL hS hH K
  | 55, _, hck, hst => exact sd_55 X hck hst hL hS hH K
  | 56, _, hck, hst => exact sd_56 X hck hst hL hS hH K
  | 57, _, hck, hst => exact sd_57 X hck hst hL hS hH K
  | 58, _, hck, hst => exact sd_58 X hck hst hL hS hH K
  | 59, _, _, hst => cases hst
  | n + 60, hi, _, _ => exact absurd hi (by simp)
theorem sj_any {ct : Ct} (X : Ctx p R s m meth c0 cc o nL G) (i : AC) (hck : ckJ cc pc i = some pc') (hct : ctl i st h = some ct) (hS : SR G st Vs)
    (KJ : ∀ (b2 : Nat) (s2 : List AV) (Vs2 : List Value), ct = cjmp b2 s2 → SR G s2 Vs2 → W p l e R s m args below meth c0 H locs cells slots Q (F0 m b2 ls Vs2))
    (KN : ∀ (s2 : List AV) (Vs2 : List Value), ct = cnxt s2 → SR G s2 Vs2 → W p l e R s m args below meth c0 H locs cells slots Q (F0 m pc' ls Vs2)) : W p l e R s m args below meth c0 H locs cells slots Q (F0 m pc ls Vs) := by
  obtain ⟨n, a, b, c⟩ := i
  have hn : 60 ≤ n ∧ n < 77 := by
    unfold ckJ at hck
    split at hck
    all_goals first
      | (cases hck; done)
      | (rename_i e1; simp only [Prod.mk.injEq] at e1; omega)
      | (simp_all; done)
      | omega
  match n, hn, hck, hct with
  | 0, hn, _, _ => exact absurd hn.1 (by simp)
  | 1, hn, _, _ => exact absurd hn.1 (by simp)
  | 2, hn, _, _ => exact absurd hn.1 (by simp)
  | 3, hn, _, _ => exact absurd hn.1 (by simp)
  | 4, hn, _, _ => exact absurd hn.1 (by simp)
  | 5, hn, _, _ => exact absurd hn.1 (by simp)
  | 6, hn, _, _ => exact absurd hn.1 (by simp)
  | 7, hn, _, _ => exact absurd hn.1 (by simp)
  | 8, hn, _, _ => exact absurd hn.1 (by simp)
  | 9, hn, _, _ => exact absurd hn.1 (by simp)
  | 10, hn, _, _ => exact absurd hn.1 (by simp)
  | 11, hn, _, _ => exact absurd hn.1 (by simp)
  | 12, hn, _, _ => exact absurd hn.1 (by simp)
  | 13, hn, _, _ => exact absurd hn.1 (by simp)
  | 14, hn, _, _ => exact absurd hn.1 (by simp)
  | 15, hn, _, _ => exact absurd hn.1 (by simp)
  | 16, hn, _, _ => exact absurd hn.1 (by simp)
  | 17, hn, _, _ => exact absurd hn.1 (by simp)
  | 18, hn, _, _ => exact absurd hn.1 (by simp)
  | 19, hn, _, _ => exact absurd hn.1 (by simp)
  | 20, hn, _, _ => exact absurd hn.1 (by simp)
  | 21, hn, _, _ => exact absurd hn.1 (by simp)
  | 22, hn, _, _ => exact absurd hn.1 (by simp)
  | 23, hn, _, _ => exact absurd hn.1 (by simp)
  | 24, hn, _, _ => exact absurd hn.1 (by simp)
  | 25, hn, _, _ => exact absurd hn.1 (by simp)
  | 26, hn, _, _ => exact absurd hn.1 (by simp)
  | 27, hn, _, _ => exact absurd hn.1 (by simp)
  | 28, hn, _, _ => exact absurd hn.1 (by simp)
  | 29, hn, _, _ => exact absurd hn.1 (by simp)
  | 30, hn, _, _ => exact absurd hn.1 (by simp)
  | 31, hn, _, _ => exact absurd hn.1 (by simp)
  | 32, hn, _, _ => exact absurd hn.1 (by simp)
  | 33, hn, _, _ => exact absurd hn.1 (by simp)
  | 34, hn, _, _ => exact absurd hn.1 (by simp)
  | 35, hn, _, _ => exact absurd hn.1 (by simp)
  | 36, hn, _, _ => exact absurd hn.1 (by simp)
  | 37, hn, _, _ => exact absurd hn.1 (by simp)
  | 38, hn, _, _ => exact absurd hn.1 (by simp)
  | 39, hn, _, _ => exact absurd hn.1 (by simp)
  | 40, hn, _, _ => exact absurd hn.1 (by simp)
  | 41, hn, _, _ => exact absurd hn.1 (by simp)
  | 42, hn, _, _ => exact absurd hn.1 (by simp)
  | 43, hn, _, _ => exact absurd hn.1 (by simp)
  | 44, hn, _, _ => exact absurd hn.1 (by simp)
  | 45, hn, _, _ => exact absurd hn.1 (by simp)
  | 46, hn, _, _ => exact absurd hn.1 (by simp)
  | 47, hn, _, _ => exact absurd hn.1 (by simp)
  | 48, hn, _, _ => exact absurd hn.1 (by simp)
  | 49, hn, _, _ => exact absurd hn.1 (by simp)
  | 50, hn, _, _ => exact absurd hn.1 (by simp)
  | 51, hn, _, _ => exact absurd hn.1 (by simp)
  | 52, hn, _, _ => exact absurd hn.1 (by simp)
  | 53, hn, _, _ => exact absurd hn.1 (by simp)
  | 54, hn, _, _ => exact absurd hn.1 (by simp)
  | 55, hn, _, _ => exact absurd hn.1 (by simp)
  | 56, hn, _, _ => exact absurd hn.1 (by simp)
  | 57, hn, _, _ => exact absurd hn.1 (by simp)
  | 58, hn, _, _ => exact absurd hn.1 (by simp)
  | 59, hn, _, _ => exact absurd hn.1 (by simp)
  | 60, _, hck, hct => exact sj_60 X hck hct hS KJ KN
  | 61, _, hck, hct => exact sj_61 X hck hct hS KJ KN
  | 62, _, hck, hct => exact sj_62 X hck hct hS KJ KN
  | 63, _, hck, hct => exact sj_63 X hck hct hS KJ KN
  | 64, _, hck, hct => exact sj_64 X hck hct hS KJ KN
  | 65, _, hck, hct => exact sj_65 X hck hct hS KJ KN
  | 66, _, hck, hct => exact sj_66 X hck hct hS KJ KN
  | 67, _, hck, hct => exact sj_67 X hck hct hS KJ KN
  | 68, _, hck, hct => exact sj_68 X hck hct hS KJ KN
  | 69, _, hck, hct => exact sj_69 X hck hct hS KJ KN
  | 70, _, hck, hct => exact sj_70 X hck hct hS KJ KN
  | 71, _, hck, hct => exact sj_71 X hck hct hS KJ KN
  | 72, _, hck, hct => exact sj_72 X hck hct hS KJ KN
  | 73, _, hck, hct => exact sj_73 X hck hct hS KJ KN
  | 74, _, hck, hct => exact sj_74 X hck hct hS KJ KN
  | 75, _, hck, hct => exact sj_75 X hck hct hS KJ KN
  | 76, _, hck, hct => exact sj_76 X hck hct hS KJ KN
  | n + 77, hn, _, _ => exact absurd hn.2 (by simp)
end Master
