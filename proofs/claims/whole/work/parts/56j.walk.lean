/-! THE WALK OF THE LAW, out of one run of the abstract machine. -/
theorem dl_0 : decode code 0 = .ok (.new 8, 3) := by decide +kernel
theorem dl_4 : decode code 4 = .ok (.invokespecial 143, 3) := by decide +kernel
theorem dl_8 : decode code 8 = .ok (.new 144, 3) := by decide +kernel
theorem dl_12 : decode code 12 = .ok (.invokespecial 146, 3) := by decide +kernel
theorem dl_17 : decode code 17 = .ok (.newarray .long, 2) := by decide +kernel
theorem cl_3 : ck1 13 code 3 (47, 0, 0, 0) = some 4 := by decide +kernel
theorem cl_7 : ck1 13 code 7 (9, 0, 1, 0) = some 8 := by decide +kernel
theorem cl_11 : ck1 13 code 11 (47, 0, 0, 0) = some 12 := by decide +kernel
theorem cl_15 : ck1 13 code 15 (9, 0, 2, 0) = some 16 := by decide +kernel
theorem cl_16 : ck1 13 code 16 (1, 1, 0, 0) = some 17 := by decide +kernel
theorem cl_19 : ck1 13 code 19 (9, 0, 3, 0) = some 20 := by decide +kernel
theorem lk_8 : czk (13 * 10000 + 8) = some 11 := by decide +kernel
theorem lk_144 : czk (13 * 10000 + 144) = some 12 := by decide +kernel
theorem lk_143 : ilk (13 * 10000 + 143) = some 11 := by decide +kernel
theorem lk_146 : ilk (13 * 10000 + 146) = some 12 := by decide +kernel
theorem ob_0 : obT[0]? = some (11, 0) := rfl
def sg3 : List AV := [aA 22 0, aA 11 0, aA 12 0, aA 25 0, none, none, none]
/-- the abstract machine's run from the loop's head on, in the world G -/
def goes1 (G : WG) : Prop := ∃ (lv : Nat) (h' : Hp) (k : Nat), lv ≤ 1000 ∧ k ≤ 600 ∧ run lv 368 20 sg3 [] (h0 G) = some (.inl (some (aI 1)), h', k)
section Walk
variable {p : Program} {l : Launch} {e : Env} {s : State} {m : MethodId} {below : List Frame} {meth : Method} {c : Code} {b L : Nat} {xs : Nat → Int32} {G : WG}
theorem law_go (hl : l.stackTraces = false) (C0 : lw_At p s m meth c b L xs) (hL : L ≤ 3072) (hB : gB G = s.heap.size) (hLL : gL G = L) (hXX : gX G = xs) (hSS : gS G = b) (hg : GW s) (hO : Old G s s.heap) (hK : va_K (gD G) vwCl (gT G) s) (htb : c.exceptionTable.toList = [])
    (hrun : goes1 G) {H : Heap} {locs : List Loc} {ls : Array Slot} {cells slots : Nat} (hP : va_P (gD G) vwCl (wsOf G (h0 G)) H) (hS : va_S (gA G) s.heap H locs) (hLR : LR G ls sg3) (hc : cells ≤ 5000) (hs : slots ≤ 30000) :
    W p l e room_1 s m #[Value.ref b] below meth c H locs cells slots (lw_Z below #[Value.ref b] s) (F0 m 20 ls []) := by
  obtain ⟨hx, hb, hr, hml, hown, hts, hX, hbl, hlocks, hgv⟩ := C0
  obtain ⟨m1, m2, m3, m4⟩ := mo368
  obtain ⟨lv, h', k, hlv, hk, hrn⟩ := hrun
  obtain ⟨n, hn⟩ := rnL_to hrn
  have X : Ctx p room_1 s m meth c (mCode 368) (mOwn 368) 7 G := ⟨hx, by rw [m2]; exact hb, by rw [m1]; exact hown, hg, hO, hml, by show 8 ≤ 2048; omega, by show 400 ≤ 84000; omega, hlocks⟩
  refine W.widen (k := 5000) (n := 6 * 5000) hc (by omega) ?_
  refine rn_ok (R0 := (.inl (some (aI 1)), h', 5000 + k)) (lv := lv) X (by omega) (fun b as h r hb hc => cm_ok hl G lv b as h r hb hc) ⟨by show 11 + lv ≤ 2048; omega, by show 560 + 60 * lv ≤ 84000; omega⟩ ⟨by show 5000 + k ≤ 601024; omega, by show 6 * (5000 + k) ≤ 7293034; omega⟩ (by rw [htb, m4]; rfl) ?_ ?_ n 20 sg3 [] (h0 G) _ hn ls [] H locs 5000 rfl hLR trivial ⟨hK, hP, hS, h0_HV G (by omega)⟩ ⟨rfl, rfl, rfl⟩
  · intro i pc pc' st h Vs ls H locs c' r h1 h2 hk hct hls hSR hH hfit
    obtain ⟨n, a, b', c''⟩ := i
    have : n = 82 ∨ n = 83 ∨ n = 84 ∨ n = 85 ∨ n = 86 ∨ n = 87 ∨ n = 88 := by simp only at h1 h2; omega
    rcases this with rfl | rfl | rfl | rfl | rfl | rfl | rfl
    · obtain ⟨hk1, -⟩ := ifo_ok (show ifo (decide (dk (mCode 368) pc = some (.ireturn, 1)) && decide (mRet 368 = some .int)) pc = some pc' from hk)
      rw [m3] at hk1; simp at hk1
    · obtain ⟨hk1, -⟩ := ifo_ok (show ifo (decide (dk (mCode 368) pc = some (.return_, 1)) && decide (mRet 368 = none)) pc = some pc' from hk)
      rw [m3] at hk1; simp at hk1
    · obtain ⟨hk1, -⟩ := ifo_ok (show ifo (ckT (mCode 368) pc b' && decide (mOwn 368 = 11) && (mHh 368).isEmpty) pc = some pc' from hk)
      rw [m1] at hk1; simp at hk1
    · obtain ⟨hk1, -⟩ := ifo_ok (show ifo (decide (dk (mCode 368) pc = some (.ireturn, 1)) && decide (mRet 368 = some .boolean)) pc = some pc' from hk)
      simp only [Bool.and_eq_true, decide_eq_true_eq] at hk1
      simp only [ctl] at hct
      split at hct
      · split at hct
        · cases hct
          obtain ⟨v, L, rfl, e1, e2⟩ := sI1 hSR
          rw [SR_nil e2]
          have hx1 := hfit.1
          have hv : v = 1 := by
            apply Int32.toInt_inj.mp
            rw [e1]
            simp only [ri] at hx1
            cases hx1
            rfl
          subst hv
          have hfit3 := hfit.2.2
          have hd := dk_ok hk1.1
          rw [m2] at hd
          refine va_forget (fun q hq => by have := hH.2.2.1.2.2 q hq; unfold gA at this; omega) ?_
          refine W.widen (k := 601024) (n := 7293034) (by simp only at hfit3; omega) (by simp only at hfit3; omega) ?_
          exact lw_ret hx hb hr hlocks hd
        · cases hct
      · cases hct
    · obtain ⟨hk1, -⟩ := ifo_ok (show ifo (decide (dk (mCode 368) pc = some (.ireturn, 1)) && decide (mRet 368 = some .char)) pc = some pc' from hk)
      rw [m3] at hk1; simp at hk1
    · obtain ⟨hk1, -⟩ := ifo_ok (show ifo (decide (dk (mCode 368) pc = some (.ireturn, 1)) && decide (mRet 368 = some .byte)) pc = some pc' from hk)
      rw [m3] at hk1; simp at hk1
    · obtain ⟨hk1, -⟩ := ifo_ok (show ifo (decide (dk (mCode 368) pc = some (.lreturn, 1)) && decide (mRet 368 = some .long)) pc = some pc' from hk)
      rw [m3] at hk1; simp at hk1
  · intro x ce q H1 locs1 pc ls rest h c' _ _ h0
    cases h0
set_option maxHeartbeats 4000000 in
theorem whole_go (hl : l.stackTraces = false) (hL : L ≤ 3072) (C0 : lw_At p s m meth c b L xs) (htb : c.exceptionTable.toList = []) (hrun : ∀ G : WG, gL G = L → goes1 G) :
    W p l e room_1 s m #[Value.ref b] below meth c s.heap [] 0 0 (lw_Z below #[Value.ref b] s) (entryFrame m ([Value.ref b] : List Value).toArray 7) := by
  obtain ⟨G, hB, hLL, hXX, hSS, hg, hO, hK, hao⟩ := start_G C0
  have C1 := C0
  obtain ⟨hx, hb, hr, hml, hown, hts, hX, hbl, hlocks, hgv⟩ := C0
  have X : Ctx p room_1 s m meth c code 13 7 G := ⟨hx, hb, hown, hg, hO, hml, by show 8 ≤ 2048; omega, by show 400 ≤ 84000; omega, hlocks⟩
  have hev := ev_ok
  unfold evC at hev
  cases h1 : ev1 with
  | none => rw [h1] at hev; cases hev
  | some ws1 =>
    rw [h1] at hev
    simp only [Bool.and_eq_true, decide_eq_true_eq] at hev
    obtain ⟨o1, hev⟩ := hev
    cases h2 : ev2 ws1 with
    | none => rw [h2] at hev; cases hev
    | some ws2 =>
      rw [h2] at hev
      simp only [Bool.and_eq_true, decide_eq_true_eq] at hev
      obtain ⟨⟨⟨o2, hlen⟩, hsl⟩, hok⟩ := hev
      have B1 := brn_ok (l := l) G 300 11 0 _ [] wA ws1 (by omega) h1
      have B2 := brn_ok (l := l) G 300 12 0 _ [] _ ws2 (by omega) h2
      have M1 := CB_of (as := [aA 11 0]) (by omega) (Nat.le_of_ble_eq_true (by decide +kernel)) B1
      have M2 := CB_of (as := [aA 12 0]) (by omega) (Nat.le_of_ble_eq_true (by decide +kernel)) B2
      obtain ⟨⟨n1, n2⟩, -⟩ := B1
      obtain ⟨⟨n3, n4⟩, -⟩ := B2
      rw [List.length_append, List.length_singleton] at n3
      rw [slW_app] at n4
      have e11 : slW wA = nF 11 := rfl
      have e12 : slB (0, 12, kDef 12, []) = nF 12 := rfl
      have lA : wA.length = 1 := rfl
      have f11 : nF 11 ≤ 100 := Nat.le_of_ble_eq_true (by decide +kernel)
      have f12 : nF 12 ≤ 100 := Nat.le_of_ble_eq_true (by decide +kernel)
      rw [lg_entry_eq]
      have hLR0 : LR G ((lg_sl [Value.ref b] ++ List.replicate (7 - (lg_sl [Value.ref b]).length) Slot.unset).toArray) (ini 7 [aA 22 0]) := LR_entry (as := [aA 22 0]) (Vs := [Value.ref b]) ⟨by rw [← hSS]; rfl, trivial⟩ (Nat.le_of_ble_eq_true rfl)
      have hLR0 : LR G ((lg_sl [Value.ref b] ++ List.replicate (7 - (lg_sl [Value.ref b]).length) Slot.unset).toArray) [aA 22 0, none, none, none, none, none, none] := hLR0
      generalize (lg_sl [Value.ref b] ++ List.replicate (7 - (lg_sl [Value.ref b]).length) Slot.unset).toArray = ls0 at hLR0 ⊢
      -- new FourHands()
      refine vb_new (ws := []) (c := 11) (x := 8) X hK (by omega) (by omega) lk_8 (fun k q h => by cases h) (by rw [hB]; rfl) va_S.rf (by show 0 + 1 ≤ 601024; omega) (by show 0 + nF 11 ≤ 7293034; omega) dl_0 (fun H1 hP1 hS1 => ?_)
      refine sb_any (BP := fun H locs => va_P (gD G) vwCl (wsB G wA) H ∧ va_S (gA G) s.heap H locs) (h := h00) (σ := [aA 22 0, none, none, none, none, none, none]) (st := [aA 11 0]) X (47, 0, 0, 0) (by simp) cl_3 rfl hLR0 ⟨rvl_mkA (i := 0) ob_0 (by omega) (by omega) (by omega), trivial⟩ ⟨hP1, hS1⟩ (fun H2 locs2 ls2 Vs2 hLR2 hSR2 hB2 => ?_)
      refine W_sz (fun hz => ?_)
      have hz2 := sz_lo (L0 := 0) hB2.1 (Nat.zero_le _) (by rw [hB]; exact hB2.2.1)
      refine vb_call (c := 11) (x := 143) (n := 300) (as := [aA 11 0]) (s0 := [aA 11 0]) X hK hao (by omega) (by omega) (Or.inl lk_143) rfl rfl rfl M1 (LR_size hLR2) hSR2 hB2.1 (by omega) hB2.2 ⟨by show 311 ≤ 2048; omega, by show 560 + 60 * 300 ≤ 84000; omega⟩ ⟨by show 0 + 1 + _ ≤ 601024; omega, by show 0 + nF 11 + _ ≤ 7293034; omega⟩ dl_4 (fun H3 locs3 Rs3 hSR3 hP3 hS3 => ?_)
      refine sb_any (BP := fun H locs => va_P (gD G) vwCl (wsB G ws1) H ∧ va_S (gA G) s.heap H locs) (h := h00) (σ := [aA 22 0, none, none, none, none, none, none]) (st := [aA 11 0]) X (9, 0, 1, 0) (by simp) cl_7 rfl hLR2 hSR3 ⟨hP3, hS3⟩ (fun H4 locs4 ls4 Vs4 hLR4 hSR4 hB4 => ?_)
      rw [SR_nil hSR4]
      -- new FourHandsModel()
      refine vb_new (ws := ws1) (c := 12) (x := 144) X hK (by omega) (by omega) lk_144 hB4.1 (by rw [hB]; omega) hB4.2 (by show _ ≤ 601024; omega) (by show _ ≤ 7293034; omega) dl_8 (fun H5 hP5 hS5 => ?_)
      refine sb_any (BP := fun H locs => va_P (gD G) vwCl (wsB G (ws1 ++ [(0, 12, kDef 12, [])])) H ∧ va_S (gA G) s.heap H locs) (h := h00) (σ := [aA 22 0, aA 11 0, none, none, none, none, none]) (st := [aA 12 0]) X (47, 0, 0, 0) (by simp) cl_11 rfl hLR4 ⟨rvl_mkA (i := ws1.length) o1 (by omega) (by omega) (by omega), trivial⟩ ⟨hP5, hS5⟩ (fun H6 locs6 ls6 Vs6 hLR6 hSR6 hB6 => ?_)
      refine W_sz (fun hz6 => ?_)
      have hz7 := sz_lo (L0 := 0) hB6.1 (Nat.zero_le _) (by rw [hB]; exact hB6.2.1)
      have lB : (ws1 ++ [(0, 12, kDef 12, [])]).length = ws1.length + 1 := by rw [List.length_append, List.length_singleton]
      have sB : slW (ws1 ++ [(0, 12, kDef 12, [])]) = slW ws1 + nF 12 := by rw [slW_app, e12]
      refine vb_call (c := 12) (x := 146) (n := 300) (as := [aA 12 0]) (s0 := [aA 12 0]) X hK hao (by omega) (by omega) (Or.inl lk_146) rfl rfl rfl M2 (LR_size hLR6) hSR6 hB6.1 (by omega) hB6.2 ⟨by show 311 ≤ 2048; omega, by show 560 + 60 * 300 ≤ 84000; omega⟩ ⟨by show _ ≤ 601024; omega, by show _ ≤ 7293034; omega⟩ dl_12 (fun H7 locs7 Rs7 hSR7 hP7 hS7 => ?_)
      refine sb_any (BP := fun H locs => va_P (gD G) vwCl (wsB G ws2) H ∧ va_S (gA G) s.heap H locs) (h := h00) (σ := [aA 22 0, aA 11 0, none, none, none, none, none]) (st := [aA 12 0]) X (9, 0, 2, 0) (by simp) cl_15 rfl hLR6 hSR7 ⟨hP7, hS7⟩ (fun H8 locs8 ls8 Vs8 hLR8 hSR8 hB8 => ?_)
      refine sb_any (BP := fun H locs => va_P (gD G) vwCl (wsB G ws2) H ∧ va_S (gA G) s.heap H locs) (h := h00) (σ := [aA 22 0, aA 11 0, aA 12 0, none, none, none, none]) (st := []) X (1, 1, 0, 0) (by simp) cl_16 rfl hLR8 hSR8 hB8 (fun H9 locs9 ls9 Vs9 hLR9 hSR9 hB9 => ?_)
      obtain ⟨w, Rs9, rfl, ew, hSR9'⟩ := sI1 hSR9
      have hw1 : w.toInt.toNat = 1 := by rw [ew]; rfl
      -- new long[1]
      refine vb_newa (ws := ws2) (kd := 3) (j := 2) (ty := .long) X hK rfl ar_J rfl (fun _ z => z) (by rw [ew]; decide) (by rw [ew]; decide) rfl (fun cA => rfl) (by decide) hB9.1 (by rw [hB]; omega) hB9.2 (by show _ ≤ 601024; omega) (by rw [hw1]; show _ ≤ 7293034; omega) dl_17 (fun H10 hP10 hS10 => ?_)
      rw [hw1] at hP10 ⊢
      refine sb_any (BP := fun H locs => va_P (gD G) vwCl (wsB G (ws2 ++ [(3, 1, [], [])])) H ∧ va_S (gA G) s.heap H locs) (h := h00) (σ := [aA 22 0, aA 11 0, aA 12 0, none, none, none, none]) (st := [aA 25 0]) X (9, 0, 3, 0) (by simp) cl_19 rfl hLR9 ⟨rvl_mkA (i := ws2.length) o2 (by omega) (by omega) (by omega), hSR9'⟩ ⟨hP10, hS10⟩ (fun H11 locs11 ls11 Vs11 hLR11 hSR11 hB11 => ?_)
      rw [SR_nil hSR11]
      exact law_go hl C1 hL hB hLL hXX hSS hg hO hK htb (hrun G hLL) (conv_ok hok hlen hB11.1) hB11.2 hLR11 (by omega) (by omega)
end Walk
