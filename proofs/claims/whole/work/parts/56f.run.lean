/-! THE SMALL MACHINE IS SOUND. -/
theorem isPl_to {n : Nat} (h : isPl n = true) : n = 1 ∨ n = 4 ∨ n = 6 ∨ n = 7 ∨ n = 9 ∨ n = 10 ∨ n = 47 := by
  simp only [isPl, Bool.or_eq_true, beq_iff_eq] at h
  omega
theorem app_len (ws : List BC) (c : BC) {L0 : Nat} (h : L0 ≤ ws.length) : (ws ++ [c]).length - L0 = ws.length - L0 + 1 := by
  rw [List.length_append, List.length_singleton]; omega
theorem app_sl (ws : List BC) (c : BC) {S0 : Nat} (h : S0 ≤ slW ws) : slW (ws ++ [c]) - S0 = slW ws - S0 + slB c := by
  rw [slW_app]; omega
theorem kT_ck {k pc nx : Nat} {i : AC} (hk : k < 13) (h : lkp none pc ((kT k).map (fun q => (q.1, some q.2))) = some (i, nx)) : ckB k pc i nx = true := by
  have h1 := lkp_mem h
  obtain ⟨q, hq, e⟩ := List.mem_map.mp h1
  simp only [Prod.mk.injEq, Option.some.injEq] at e
  have h2 := List.all_eq_true.mp (List.all_eq_true.mp ckc_all k (List.mem_range.mpr hk)) q hq
  rw [e.1, e.2] at h2
  exact h2
set_option maxHeartbeats 4000000 in
theorem brn_ok {l : Launch} (G : WG) : ∀ (n k pc : Nat) (σ st : List AV) (ws ws2 : List BC), k < 13 → brn n k pc σ st ws = some ws2 → BOk l G n k pc σ st ws ws2 := by
  intro n
  induction n with
  | zero => intro k pc σ st ws ws2 _ h; cases h
  | succ n ih =>
    intro k pc σ st ws ws2 hk h
    unfold brn at h
    cases hl : lkp none pc ((kT k).map (fun q => (q.1, some q.2))) with
    | none => rw [hl] at h; cases h
    | some q =>
      obtain ⟨i, nx⟩ := q
      rw [hl] at h
      have hck := kT_ck hk hl
      simp only at h
      unfold bstep at h
      unfold ckB at hck
      by_cases hp : isPl i.1 = true
      · rw [if_pos hp] at h hck
        cases hs : step1 i σ st h00 with
        | none => rw [hs] at h; cases h
        | some q =>
          obtain ⟨σ', st', h'⟩ := q
          rw [hs] at h
          obtain ⟨i1, i2⟩ := ih k nx σ' st' ws ws2 hk h
          simp only [decide_eq_true_eq] at hck
          refine ⟨i1, fun p e R s m args below meth c0 L0 S0 X hK hao hin hret hs0 hL0 hS0 hc hsl hfr hlo ls Vs H locs hσ hLR hSR hP hS => ?_⟩
          exact sb_any (BP := fun H locs => va_P (gD G) vwCl (wsB G ws) H ∧ va_S (gA G) s.heap H locs) X i (isPl_to hp) hck hs hLR hSR ⟨hP, hS⟩ (fun H2 locs2 ls2 Vs2 g1 g2 g3 => i2 p e R s m args below meth c0 L0 S0 X hK hao hin hret hs0 hL0 hS0 hc hsl (by omega) (by omega) ls2 Vs2 H2 locs2 (hσ.trans (step1_len hs).symm) g1 g2 g3.1 g3.2)
      · rw [if_neg hp] at h hck
        unfold bS1 at h
        split at h
        · -- new
          simp only at hck
          split at h
          · rename_i t k2 hob
            split at h
            · rename_i hcd
              obtain ⟨rfl, hc13⟩ := hcd
              obtain ⟨i1, i2⟩ := ih k nx σ _ _ ws2 hk h
              refine ⟨mono_app i1, fun p e R s m args below meth c0 L0 S0 X hK hao hin hret hs0 hL0 hS0 hc hsl hfr hlo ls Vs H locs hσ hLR hSR hP hS => ?_⟩
              obtain ⟨j1, j2⟩ := i1
              rw [List.length_append, List.length_singleton] at j1
              rw [slW_app] at j2
              have hsb : slB (0, t, kDef t, []) = nF t := rfl
              split at hck
              · rename_i x hd
                simp only [Bool.and_eq_true, decide_eq_true_eq] at hck
                obtain ⟨⟨q1, q2⟩, rfl⟩ := hck
                refine vb_new X hK hc13 q1 q2 hP (by omega) hS (by omega) (by omega) (dk_ok hd) (fun H1 g1 g2 => ?_)
                have := i2 p e R s m args below meth c0 L0 S0 X hK hao hin hret hs0 (by rw [List.length_append]; omega) (by rw [slW_app]; omega) hc hsl (by omega) (by omega) ls (.ref (gB G + ws.length) :: Vs) H1 locs hσ hLR ⟨rvl_mkA hob (ob_tag hob).1 (ob_tag hob).2.1 (ob_tag hob).2.2, hSR⟩ g1 g2
                rw [app_len _ _ hL0, app_sl _ _ hS0, hsb] at this
                exact this
              · cases hck
            · cases h
          · cases h
        · -- Object.<init>
          simp only at hck
          split at h
          · rename_i q s0
            split at h
            rotate_left
            · cases h
            rename_i hwd0
            have hwd := Nat.le_of_ble_eq_true hwd0
            obtain ⟨i1, i2⟩ := ih k nx σ _ _ ws2 hk h
            refine ⟨i1, fun p e R s m args below meth c0 L0 S0 X hK hao hin hret hs0 hL0 hS0 hc hsl hfr hlo ls Vs H locs hσ hLR hSR hP hS => ?_⟩
            split at hck
            · rename_i x hd
              simp only [Bool.and_eq_true, decide_eq_true_eq] at hck
              obtain ⟨⟨q1, q2⟩, rfl⟩ := hck
              obtain ⟨a, Rs, rfl, e1, hR2⟩ := sA hSR
              have hX := X
              obtain ⟨hx, hb, hown, hg, hO, hml, -⟩ := X
              have hlnk := ozk_ok q2
              simp only [ozQ] at hlnk
              rw [show (k * 10000 + x) / 10000 = k by omega, show (k * 10000 + x) % 10000 = x by omega] at hlnk
              have hk1 := i2 p e R s m args below meth c0 L0 S0 hX hK hao hin hret hs0 hL0 hS0 hc hsl (by omega) (by omega) ls Rs H locs hσ hLR hR2 hP hS
              exact W.objInit (g := F0 m pc ls (.ref a :: Rs)) hx hb hown (hg.at hlnk rfl args) (hg.at oi_inst rfl args) (hg.at oi_code rfl args) rfl (by rw [hml, hσ]; exact LR_size hLR) rfl (dk_ok hd) (by omega) (by show 2 * 0 + _ + 12 ≤ _; rw [SR_wd hR2]; omega) hk1
            · cases hck
          · cases h
        · -- a constructor
          simp only at hck
          split at h
          · rename_i z ht
            obtain ⟨as, s0⟩ := z
            split at h
            · rename_i hcd
              obtain ⟨⟨hrc, hwd⟩, hc13⟩ := hcd
              split at h
              · rename_i wsm hcall
                simp only at hcall h
                split at hcall
                · rename_i hlen
                  have ihc := ih _ 0 _ [] ws wsm hc13 hcall
                  have hM := CB_of hc13 hlen ihc
                  obtain ⟨i1, i2⟩ := ih k nx σ _ _ ws2 hk h
                  obtain ⟨m1, m2⟩ := ihc.1
                  refine ⟨⟨by have := i1.1; omega, by have := i1.2; omega⟩, fun p e R s m args below meth c0 L0 S0 X hK hao hin hret hs0 hL0 hS0 hc hsl hfr hlo ls Vs H locs hσ hLR hSR hP hS => ?_⟩
                  obtain ⟨j1, j2⟩ := i1
                  split at hck
                  · rename_i x hd
                    simp only [Bool.and_eq_true, Bool.or_eq_true, decide_eq_true_eq] at hck
                    obtain ⟨⟨q1, q2⟩, rfl⟩ := hck
                    refine W_sz (fun hz1 => ?_)
                    have hz2 := sz_lo (L0 := L0) hP hL0 (by rw [← hs0]; exact hS.1)
                    refine vb_call X hK hao hc13 q1 q2 ht hrc hwd hM (by rw [hσ]; exact LR_size hLR) hSR hP (by omega) hS ⟨by omega, by omega⟩ ⟨by omega, by omega⟩ (dk_ok hd) (fun H1 locs1 Rs g0 g1 g2 => ?_)
                    have := i2 p e R s m args below meth c0 L0 S0 X hK hao hin hret hs0 (by omega) (by omega) hc hsl (by omega) (by omega) ls Rs H1 locs1 hσ hLR g0 g1 g2
                    rw [show wsm.length - L0 = ws.length - L0 + (wsm.length - ws.length) by omega, show slW wsm - S0 = slW ws - S0 + (slW wsm - slW ws) by omega] at this
                    exact this
                  · cases hck
                · cases hcall
              · cases h
            · cases h
          · cases h
        · -- putfield
          simp only at hck
          split at h
          · rename_i v t k2 s0
            split at h
            · rename_i c' fs u hws
              split at h
              · rename_i hcd
                obtain ⟨⟨rfl, rfl, hc13⟩, hjl, hfit⟩ := hcd
                obtain ⟨i1, i2⟩ := ih k nx σ _ _ ws2 hk h
                refine ⟨mono_set i1 hws rfl, fun p e R s m args below meth c0 L0 S0 X hK hao hin hret hs0 hL0 hS0 hc hsl hfr hlo ls Vs H locs hσ hLR hSR hP hS => ?_⟩
                split at hck
                · rename_i x hd
                  simp only [Bool.and_eq_true, decide_eq_true_eq] at hck
                  obtain ⟨⟨⟨⟨q1, q2⟩, rfl⟩, q4⟩, q5⟩ := hck
                  obtain ⟨V, L1, rfl, hv, hS1⟩ := SR_cons hSR
                  obtain ⟨a, Rs, rfl, e1, hR2⟩ := sA hS1
                  obtain ⟨-, e3⟩ := rvl_idx e1 ⟨by omega, by omega, by omega⟩
                  cases e3
                  refine vb_put X hK hin hc13 q4 q1 q2 q5 hfit hv hws hjl hP hS (dk_ok hd) (fun H1 locs1 g1 g2 => ?_)
                  have := i2 p e R s m args below meth c0 L0 S0 X hK hao hin hret hs0 (by rw [List.length_set]; exact hL0) (by rw [slW_setk hws]; exact hS0) hc hsl (by omega) (by omega) ls Rs H1 locs1 hσ hLR hR2 g1 g2
                  rw [List.length_set, slW_setk hws] at this
                  exact this
                · cases hck
              · cases h
            · cases h
          · cases h
        · -- getfield
          simp only at hck
          split at h
          · rename_i t k2 s0
            split at h
            · rename_i c' fs u hws
              split at h
              · rename_i t2 k3 hf
                split at h
                · rename_i hcd
                  obtain ⟨⟨rfl, rfl, hc13⟩, hob⟩ := hcd
                  obtain ⟨i1, i2⟩ := ih k nx σ _ _ ws2 hk h
                  refine ⟨i1, fun p e R s m args below meth c0 L0 S0 X hK hao hin hret hs0 hL0 hS0 hc hsl hfr hlo ls Vs H locs hσ hLR hSR hP hS => ?_⟩
                  split at hck
                  · rename_i x hd
                    simp only [Bool.and_eq_true, decide_eq_true_eq] at hck
                    obtain ⟨⟨⟨q1, q2⟩, rfl⟩, q4⟩ := hck
                    obtain ⟨a, Rs, rfl, e1, hR2⟩ := sA hSR
                    obtain ⟨-, e3⟩ := rvl_idx e1 ⟨by omega, by omega, by omega⟩
                    cases e3
                    exact vb_gtf X hK hc13 q4 q1 q2 hws hf hP (dk_ok hd) (i2 p e R s m args below meth c0 L0 S0 X hK hao hin hret hs0 hL0 hS0 hc hsl (by omega) (by omega) ls (.ref (gB G + ixO t2 k3) :: Rs) H locs hσ hLR ⟨rvl_mkA hob (ob_tag hob).1 (ob_tag hob).2.1 (ob_tag hob).2.2, hR2⟩ hP hS)
                  · cases hck
                · cases h
              · cases h
            · cases h
          · cases h
        · -- newarray
          simp only at hck
          split at h
          · rename_i x s0
            split at h
            · rename_i t k2 hob
              split at h
              · rename_i hcd
                obtain ⟨⟨hx0, hx1⟩, hkd⟩ := hcd
                obtain ⟨i1, i2⟩ := ih k nx σ _ _ ws2 hk h
                refine ⟨mono_app i1, fun p e R s m args below meth c0 L0 S0 X hK hao hin hret hs0 hL0 hS0 hc hsl hfr hlo ls Vs H locs hσ hLR hSR hP hS => ?_⟩
                obtain ⟨j1, j2⟩ := i1
                rw [List.length_append, List.length_singleton] at j1
                rw [slW_app] at j2
                obtain ⟨w, Rs, rfl, ew, hR2⟩ := sI1 hSR
                subst ew
                split at hck
                · rename_i at0 hd
                  simp only [Bool.and_eq_true, Bool.or_eq_true, decide_eq_true_eq] at hck
                  obtain ⟨hka, rfl⟩ := hck
                  have fin : ∀ (kd : Nat) (H1 : Heap), slB (kd, w.toInt.toNat, [], []) = w.toInt.toNat → (∀ (L0 S0 : Nat), True) → BOk l G n k (pc + 2) σ (aA t k2 :: s0) (ws ++ [(kd, w.toInt.toNat, [], [])]) ws2 → va_P (gD G) vwCl (wsB G (ws ++ [(kd, w.toInt.toNat, [], [])])) H1 → va_S (gA G) s.heap H1 locs → W p l e R s m args below meth c0 H1 locs (ws.length - L0 + 1) (slW ws - S0 + w.toInt.toNat) (MQ below (QcB G ws2) args s (ws2.length - L0) (slW ws2 - S0) (gA G)) (F0 m (pc + 2) ls (.ref (gB G + ws.length) :: Rs)) := by
                    intro kd H1 hsb _ hbk g1 g2
                    have := hbk.2 p e R s m args below meth c0 L0 S0 X hK hao hin hret hs0 (by rw [List.length_append]; omega) (by rw [slW_app]; omega) hc hsl (by omega) (by omega) ls (.ref (gB G + ws.length) :: Rs) H1 locs hσ hLR ⟨rvl_mkA hob (ob_tag hob).1 (ob_tag hob).2.1 (ob_tag hob).2.2, hR2⟩ g1 g2
                    rw [app_len _ _ hL0, app_sl _ _ hS0, hsb] at this
                    exact this
                  rcases hka with (⟨rfl, rfl⟩ | ⟨rfl, rfl⟩) | ⟨rfl, rfl⟩
                  · have hsb : slB ((1 : Int).toNat, w.toInt.toNat, [], []) = w.toInt.toNat := rfl
                    rw [hsb] at j2
                    exact vb_newa (kd := 1) (j := 0) (ty := .int) X hK rfl ar_I rfl (fun _ z => z) hx0 hx1 rfl (fun cA => rfl) (by decide) hP (by omega) hS (by omega) (by omega) (dk_ok hd) (fun H1 g1 g2 => fin 1 H1 rfl (fun _ _ => trivial) (ih k (pc + 2) σ _ _ ws2 hk h) g1 g2)
                  · have hsb : slB ((2 : Int).toNat, w.toInt.toNat, [], []) = w.toInt.toNat := rfl
                    rw [hsb] at j2
                    exact vb_newa (kd := 2) (j := 1) (ty := .boolean) X hK rfl ar_Z rfl (fun _ z => z) hx0 hx1 rfl (fun cA => rfl) (by decide) hP (by omega) hS (by omega) (by omega) (dk_ok hd) (fun H1 g1 g2 => fin 2 H1 rfl (fun _ _ => trivial) (ih k (pc + 2) σ _ _ ws2 hk h) g1 g2)
                  · have hsb : slB ((3 : Int).toNat, w.toInt.toNat, [], []) = w.toInt.toNat := rfl
                    rw [hsb] at j2
                    exact vb_newa (kd := 3) (j := 2) (ty := .long) X hK rfl ar_J rfl (fun _ z => z) hx0 hx1 rfl (fun cA => rfl) (by decide) hP (by omega) hS (by omega) (by omega) (dk_ok hd) (fun H1 g1 g2 => fin 3 H1 rfl (fun _ _ => trivial) (ih k (pc + 2) σ _ _ ws2 hk h) g1 g2)
                · cases hck
              · cases h
            · cases h
          · cases h
        · -- anewarray
          simp only at hck
          split at h
          · rename_i x s0
            split at h
            · rename_i t k2 hob
              split at h
              · rename_i hcd
                obtain ⟨hx0, hx1⟩ := hcd
                obtain ⟨i1, i2⟩ := ih k nx σ _ _ ws2 hk h
                refine ⟨mono_app i1, fun p e R s m args below meth c0 L0 S0 X hK hao hin hret hs0 hL0 hS0 hc hsl hfr hlo ls Vs H locs hσ hLR hSR hP hS => ?_⟩
                obtain ⟨j1, j2⟩ := i1
                rw [List.length_append, List.length_singleton] at j1
                rw [slW_app] at j2
                obtain ⟨w, Rs, rfl, ew, hR2⟩ := sI1 hSR
                subst ew
                have hsb : slB (4, w.toInt.toNat, [], []) = w.toInt.toNat := rfl
                rw [hsb] at j2
                split at hck
                · rename_i x2 hd
                  simp only [Bool.and_eq_true, decide_eq_true_eq] at hck
                  obtain ⟨⟨q1, q2⟩, rfl⟩ := hck
                  refine vb_newq X hK hao q1 q2 hx0 hx1 hP (by omega) hS (by omega) (by omega) (dk_ok hd) (fun H1 g1 g2 => ?_)
                  have := i2 p e R s m args below meth c0 L0 S0 X hK hao hin hret hs0 (by rw [List.length_append]; omega) (by rw [slW_app]; omega) hc hsl (by omega) (by omega) ls (.ref (gB G + ws.length) :: Rs) H1 locs hσ hLR ⟨rvl_mkA hob (ob_tag hob).1 (ob_tag hob).2.1 (ob_tag hob).2.2, hR2⟩ g1 g2
                  rw [app_len _ _ hL0, app_sl _ _ hS0, hsb] at this
                  exact this
                · cases hck
              · cases h
            · cases h
          · cases h
        · -- iastore
          simp only at hck
          split at h
          · rename_i v ix t k2 s0
            split at h
            · rename_i n0 fs u hws
              split at h
              · rename_i hcd
                obtain ⟨⟨hx0, hx1⟩, ht100⟩ := hcd
                obtain ⟨i1, i2⟩ := ih k nx σ _ _ ws2 hk h
                refine ⟨mono_set i1 hws rfl, fun p e R s m args below meth c0 L0 S0 X hK hao hin hret hs0 hL0 hS0 hc hsl hfr hlo ls Vs H locs hσ hLR hSR hP hS => ?_⟩
                simp only [Bool.and_eq_true, decide_eq_true_eq] at hck
                obtain ⟨hd, rfl⟩ := hck
                obtain ⟨wv, L1, rfl, ev, hS1⟩ := sI1 hSR
                obtain ⟨wi, L2, rfl, ei, hS2⟩ := sI1 hS1
                obtain ⟨a, Rs, rfl, e1, hR2⟩ := sA hS2
                obtain ⟨-, e3⟩ := rvl_idx e1 ⟨by omega, by omega, by omega⟩
                cases e3
                subst ev
                subst ei
                refine vb_iast X hK hws hx0 hx1 hP hS (dk_ok hd) (fun H1 locs1 g1 g2 => ?_)
                have := i2 p e R s m args below meth c0 L0 S0 X hK hao hin hret hs0 (by rw [List.length_set]; exact hL0) (by rw [slW_setk hws]; exact hS0) hc hsl (by omega) (by omega) ls Rs H1 locs1 hσ hLR hR2 g1 g2
                rw [List.length_set, slW_setk hws] at this
                exact this
              · cases h
            · cases h
          · cases h
        · -- aastore
          simp only at hck
          split at h
          · rename_i t2 k3 ix t k2 s0
            split at h
            · rename_i n0 fs u fs2 u2 hws hws2
              split at h
              · rename_i hcd
                obtain ⟨⟨hx0, hx1⟩, rfl, rfl⟩ := hcd
                obtain ⟨i1, i2⟩ := ih k nx σ _ _ ws2 hk h
                refine ⟨mono_set i1 hws rfl, fun p e R s m args below meth c0 L0 S0 X hK hao hin hret hs0 hL0 hS0 hc hsl hfr hlo ls Vs H locs hσ hLR hSR hP hS => ?_⟩
                simp only [Bool.and_eq_true, decide_eq_true_eq] at hck
                obtain ⟨hd, rfl⟩ := hck
                obtain ⟨a2, L1, rfl, e2, hS1⟩ := sA hSR
                obtain ⟨wi, L2, rfl, ei, hS2⟩ := sI1 hS1
                obtain ⟨a, Rs, rfl, e1, hR2⟩ := sA hS2
                obtain ⟨-, e3⟩ := rvl_idx e1 ⟨by omega, by omega, by omega⟩
                cases e3
                obtain ⟨-, e4⟩ := rvl_idx e2 ⟨by omega, by omega, by omega⟩
                cases e4
                subst ei
                refine vb_aast X hK hws hws2 rfl hx0 hx1 hP hS (dk_ok hd) (fun H1 locs1 g1 g2 => ?_)
                have := i2 p e R s m args below meth c0 L0 S0 X hK hao hin hret hs0 (by rw [List.length_set]; exact hL0) (by rw [slW_setk hws]; exact hS0) hc hsl (by omega) (by omega) ls Rs H1 locs1 hσ hLR hR2 g1 g2
                rw [List.length_set, slW_setk hws] at this
                exact this
              · cases h
            · cases h
          · cases h
        · -- if_icmpge
          simp only [decide_eq_true_eq] at hck
          split at h
          · rename_i y x s0
            have hm : mono ws ws2 := by
              split at h
              · exact (ih k nx σ _ _ ws2 hk h).1
              · exact (ih k _ σ _ _ ws2 hk h).1
            refine ⟨hm, fun p e R s m args below meth c0 L0 S0 X hK hao hin hret hs0 hL0 hS0 hc hsl hfr hlo ls Vs H locs hσ hLR hSR hP hS => ?_⟩
            refine sj_65 (h := h00) X hck rfl hSR (fun b2 s2 Vs2 e1 g1 => ?_) (fun s2 Vs2 e1 g1 => ?_)
            · by_cases hxy : x < y
              · rw [if_pos hxy] at e1; cases e1
              · rw [if_neg hxy] at e1 h
                cases e1
                exact (ih k _ σ _ _ ws2 hk h).2 p e R s m args below meth c0 L0 S0 X hK hao hin hret hs0 hL0 hS0 hc hsl (by omega) (by omega) ls Vs2 H locs hσ hLR g1 hP hS
            · by_cases hxy : x < y
              · rw [if_pos hxy] at e1 h
                cases e1
                exact (ih k _ σ _ _ ws2 hk h).2 p e R s m args below meth c0 L0 S0 X hK hao hin hret hs0 hL0 hS0 hc hsl (by omega) (by omega) ls Vs2 H locs hσ hLR g1 hP hS
              · rw [if_neg hxy] at e1; cases e1
          · cases h
        · -- goto
          simp only [decide_eq_true_eq] at hck
          obtain ⟨i1, i2⟩ := ih k _ σ _ _ ws2 hk h
          refine ⟨i1, fun p e R s m args below meth c0 L0 S0 X hK hao hin hret hs0 hL0 hS0 hc hsl hfr hlo ls Vs H locs hσ hLR hSR hP hS => ?_⟩
          refine sj_60 (h := h00) X hck rfl hSR (fun b2 s2 Vs2 e1 g1 => ?_) (fun s2 Vs2 e1 g1 => by cases e1)
          cases e1
          exact i2 p e R s m args below meth c0 L0 S0 X hK hao hin hret hs0 hL0 hS0 hc hsl (by omega) (by omega) ls Vs2 H locs hσ hLR g1 hP hS
        · -- return
          simp only [decide_eq_true_eq] at hck
          split at h
          · cases h
            refine ⟨⟨Nat.le_refl _, Nat.le_refl _⟩, fun p e R s m args below meth c0 L0 S0 X hK hao hin hret hs0 hL0 hS0 hc hsl hfr hlo ls Vs H locs hσ hLR hSR hP hS => ?_⟩
            obtain ⟨hx, hb, hown, hg, hO, hml, -, -, hlk⟩ := X
            rw [SR_nil hSR]
            refine W_sz (fun hz1 => ?_)
            have hz2 := sz_lo (L0 := L0) hP hL0 (by rw [← hs0]; exact hS.1)
            exact W.vret hx hb hret (fun t ht hW => ⟨rfl, by rw [ht]; exact hP, by rw [ht]; omega, by rw [va_F, ht]; exact ⟨hS.1, hS.2.1⟩⟩) (fun q hq => hS.2.2 q hq) (dk_ok hck) hlk
          · cases h
        · cases h
