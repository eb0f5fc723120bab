/-! THE TEXT OF A PIECE, purely. A memory with its numbers of hands and notes; a line; the lines. -/
def wNote : List Int := [110, 111, 116, 101]
def wOf : List Int := [111, 102]
def wAt : List Int := [97, 116]
def wReach : List Int := [114, 101, 97, 99, 104]
def wSkill : List Int := [115, 107, 105, 108, 108]
def wSlip : List Int := [115, 108, 105, 112]
abbrev PcS : Type := (Nat → Int) × Nat × Nat
def pAft (t : Nat → Int) (e : Nat) (w : List Int) (hi : Int) (p : Nat) : PR Int := if isW t e p w = true then pNum t e (nxt t e p) hi else .inl p
def phM (M : Nat → Int) (H : Nat) (a b c d : Int) : Nat → Int := upM (upM (upM (upM (upM (upM (upM M (14 + 6 * H) a) (14 + 6 * H + 1) b) (14 + 6 * H + 2) c) (14 + 6 * H + 3) d) (14 + 6 * H + 4) 0) (14 + 6 * H + 5) 0) 3 ((H : Int) + 1)
def pnM (M : Nat → Int) (N : Nat) (b k d : Int) : Nat → Int := upM (upM (upM (upM (upM M (50 + 4 * N) b) (50 + 4 * N + 1) k) (50 + 4 * N + 2) d) (50 + 4 * N + 3) 0) 4 ((N : Int) + 1)
def pcHand (t : Nat → Int) (e : Nat) (S : PcS) (p : Nat) : PR PcS := match pAft t e wOf 2 (nxt t e p) with
  | .inl f => .inl f
  | .inr (a, p1) => match pAft t e wAt 63 p1 with
    | .inl f => .inl f
    | .inr (b, p2) => match pAft t e wReach 40 p2 with
      | .inl f => .inl f
      | .inr (c, p3) => match pAft t e wSkill 9 p3 with
        | .inl f => .inl f
        | .inr (d, p4) => .inr ((phM S.1 S.2.1 a b c d, S.2.1 + 1, S.2.2), p4)
def pcHard (t : Nat → Int) (e p : Nat) : PR Int := if isW t e p wHard = true then pNum t e (nxt t e p) 9 else .inr (0, p)
def pcNote (t : Nat → Int) (e : Nat) (S : PcS) (p : Nat) : PR PcS := match pNum t e (nxt t e p) 63 with
  | .inl f => .inl f
  | .inr (k, p1) => match pAft t e wAt 11 p1 with
    | .inl f => .inl f
    | .inr (b, p2) => if anyB (thB S.1 k b (-1)) S.2.2 = true then .inl (nxt t e p1) else match pcHard t e p2 with
      | .inl f => .inl f
      | .inr (d, p3) => .inr ((pnM S.1 S.2.2 b k d, S.2.1, S.2.2 + 1), p3)
def pcTell (t : Nat → Int) (e : Nat) (S : PcS) (j : Nat) (hi : Int) (p : Nat) : PR PcS := match pNum t e (nxt t e p) hi with
  | .inl f => .inl f
  | .inr (v, q) => .inr ((upM S.1 j v, S.2.1, S.2.2), q)
def pcLine (t : Nat → Int) (e : Nat) (S : PcS) (p : Nat) : PR PcS := if isW t e p wHand = true then (if S.2.1 < 6 then pcHand t e S p else .inl p) else if isW t e p wNote = true then (if S.2.2 < 14 then pcNote t e S p else .inl p) else if isW t e p wSlip = true then pcTell t e S 7 100 p else if isW t e p wBeat = true then pcTell t e S 5 11 p else if isW t e p wPage = true then pcTell t e S 6 999 p else .inl p
def pcAll (t : Nat → Int) (e : Nat) : Nat → PcS → Nat → Nat ⊕ PcS
  | 0, _, p => .inl p
  | n + 1, S, p => match pcLine t e S p with
    | .inl f => .inl f
    | .inr (S', q) => if q = e then .inr S' else if isC t e q 59 = true then pcAll t e n S' (nxt t e q) else .inl q
def pcOf (t : Nat → Int) (e : Nat) (S : PcS) : Nat ⊕ PcS := if sk t e 0 = e then .inr S else pcAll t e 14 S (sk t e 0)
def GP (S : PcS) : Prop := GM S.1 S.2.1 S.2.2
theorem GM_hd {M : Nat → Int} {H N : Nat} {a b c d : Int} (hH : H < 6) (ha : 0 ≤ a ∧ a ≤ 2) (hb : 0 ≤ b ∧ b ≤ 63) (hc : 0 ≤ c ∧ c ≤ 40) (hd : 0 ≤ d ∧ d ≤ 9) (G : GM M H N) : GM (phM M H a b c d) (H + 1) N := by
  have o : ∀ j, j ≠ 3 → (j < 14 + 6 * H ∨ 14 + 6 * H + 6 ≤ j) → phM M H a b c d j = M j := fun j h1 h2 => by
    unfold phM
    rw [up_ne h1, up_ne (by omega), up_ne (by omega), up_ne (by omega), up_ne (by omega), up_ne (by omega), up_ne (by omega)]
  obtain ⟨⟨a1, a2, a3⟩, ⟨b1, b2, b3, b4⟩, ⟨c1, c2, c3, c4, c5⟩⟩ := G
  refine ⟨⟨by unfold phM; rw [up_eq]; rfl, by omega, fun i hi => ?_⟩, ⟨by rw [o _ (by omega) (by omega)]; exact b1, b2, fun n hn => ?_, fun n n' hn hn' hne s1 s2 q => ?_⟩, ⟨by rw [o _ (by omega) (by omega)]; exact c1, by rw [o _ (by omega) (by omega)]; exact c2, by rw [o _ (by omega) (by omega)]; exact c3, by rw [o _ (by omega) (by omega)]; exact c4, fun j hj => by rw [o _ (by omega) (by omega)]; exact c5 j hj⟩⟩
  · by_cases e : i = H
    · subst e
      unfold phM
      refine ⟨?_, ?_, ?_, ?_, ?_, ?_⟩
      · rw [up_ne (by omega), up_ne (by omega), up_ne (by omega), up_ne (by omega), up_ne (by omega), up_ne (by omega), up_eq]; exact ha
      · rw [up_ne (by omega), up_ne (by omega), up_ne (by omega), up_ne (by omega), up_ne (by omega), up_eq]; exact hb
      · rw [up_ne (by omega), up_ne (by omega), up_ne (by omega), up_ne (by omega), up_eq]; exact hc
      · rw [up_ne (by omega), up_ne (by omega), up_ne (by omega), up_eq]; exact hd
      · rw [up_ne (by omega), up_ne (by omega), up_eq]; omega
      · rw [up_ne (by omega), up_eq]; exact Or.inl rfl
    · rw [o _ (by omega) (by omega), o _ (by omega) (by omega), o _ (by omega) (by omega), o _ (by omega) (by omega), o _ (by omega) (by omega), o _ (by omega) (by omega)]
      exact a3 i (by omega)
  · rw [o _ (by omega) (by omega), o _ (by omega) (by omega), o _ (by omega) (by omega), o _ (by omega) (by omega)]
    exact b3 n hn
  · unfold stB at s1 s2
    rw [o _ (by omega) (by omega)] at s1 s2
    rw [o _ (by omega) (by omega), o _ (by omega) (by omega)] at q ⊢
    exact b4 n n' hn hn' hne s1 s2 q
theorem GM_nt {M : Nat → Int} {H N : Nat} {b k d : Int} (hN : N < 14) (hb : 0 ≤ b ∧ b ≤ 11) (hk : 0 ≤ k ∧ k ≤ 63) (hd : 0 ≤ d ∧ d ≤ 9) (ho : ¬ anyB (thB M k b (-1)) N = true) (G : GM M H N) : GM (pnM M N b k d) H (N + 1) := by
  have o : ∀ j, j ≠ 4 → (j < 50 + 4 * N ∨ 50 + 4 * N + 4 ≤ j) → pnM M N b k d j = M j := fun j h1 h2 => by
    unfold pnM
    rw [up_ne h1, up_ne (by omega), up_ne (by omega), up_ne (by omega), up_ne (by omega)]
  have n0 : pnM M N b k d (50 + 4 * N) = b := by unfold pnM; rw [up_ne (by omega), up_ne (by omega), up_ne (by omega), up_ne (by omega), up_eq]
  have n1 : pnM M N b k d (50 + 4 * N + 1) = k := by unfold pnM; rw [up_ne (by omega), up_ne (by omega), up_ne (by omega), up_eq]
  have n2 : pnM M N b k d (50 + 4 * N + 2) = d := by unfold pnM; rw [up_ne (by omega), up_ne (by omega), up_eq]
  have n3 : pnM M N b k d (50 + 4 * N + 3) = 0 := by unfold pnM; rw [up_ne (by omega), up_eq]
  obtain ⟨⟨a1, a2, a3⟩, ⟨b1, b2, b3, b4⟩, ⟨c1, c2, c3, c4, c5⟩⟩ := G
  have free : ∀ n, n < N → stB M n = true → M (50 + 4 * n) = b → M (50 + 4 * n + 1) ≠ k := fun n hn h1 h2 h3 => ho (anyB_iff.mpr ⟨n, hn, by unfold thB atB; rw [h1, decide_eq_true h2, decide_eq_true h3, decide_eq_true (show (n : Int) ≠ -1 by omega)]; rfl⟩)
  refine ⟨⟨by rw [o _ (by omega) (by omega)]; exact a1, a2, fun i hi => by rw [o _ (by omega) (by omega), o _ (by omega) (by omega), o _ (by omega) (by omega), o _ (by omega) (by omega), o _ (by omega) (by omega), o _ (by omega) (by omega)]; exact a3 i hi⟩, ⟨by unfold pnM; rw [up_eq]; rfl, by omega, fun n hn => ?_, fun n n' hn hn' hne s1 s2 q => ?_⟩, ⟨by rw [o _ (by omega) (by omega)]; exact c1, by rw [o _ (by omega) (by omega)]; exact c2, by rw [o _ (by omega) (by omega)]; exact c3, by rw [o _ (by omega) (by omega)]; exact c4, fun j hj => by rw [o _ (by omega) (by omega)]; exact c5 j hj⟩⟩
  · by_cases e : n = N
    · subst e; rw [n0, n1, n2, n3]; exact ⟨hb, hk, hd, Or.inl rfl⟩
    · rw [o _ (by omega) (by omega), o _ (by omega) (by omega), o _ (by omega) (by omega), o _ (by omega) (by omega)]
      exact b3 n (by omega)
  · unfold stB at s1 s2
    by_cases e1 : n = N
    · subst e1
      rw [o (50 + 4 * n' + 3) (by omega) (by omega)] at s2
      rw [n0, o _ (by omega) (by omega)] at q
      rw [n1, o _ (by omega) (by omega)]
      exact fun z => free n' (by omega) s2 q.symm z.symm
    · by_cases e2 : n' = N
      · subst e2
        rw [o (50 + 4 * n + 3) (by omega) (by omega)] at s1
        rw [n0, o _ (by omega) (by omega)] at q
        rw [n1, o _ (by omega) (by omega)]
        exact free n (by omega) s1 q
      · rw [o _ (by omega) (by omega)] at s1 s2
        rw [o _ (by omega) (by omega), o _ (by omega) (by omega)] at q ⊢
        exact b4 n n' (by omega) (by omega) hne s1 s2 q
theorem pAft_len {t : Nat → Int} {e p : Nat} {w : List Int} {hi v : Int} {q : Nat} (hp : p ≤ e) (hw : 1 ≤ w.length) (h : pAft t e w hi p = .inr (v, q)) : p < q ∧ q ≤ e ∧ 0 ≤ v ∧ v ≤ hi := by
  unfold pAft at h
  split at h
  · rename_i hc
    have hn := nxt_b t (isW_lt hp hc hw)
    have := pNum_len hn.2 h
    omega
  · cases h
theorem GX_up {M : Nat → Int} {H N j : Nat} {v : Int} (hj : (j = 7 ∧ v ≤ 100) ∨ (j = 5 ∧ v ≤ 11) ∨ (j = 6 ∧ v ≤ 999)) (h0 : 0 ≤ v) (G : GM M H N) : GM (upM M j v) H N := by
  obtain ⟨⟨a1, a2, a3⟩, ⟨b1, b2, b3, b4⟩, gx⟩ := G
  refine GM_ch (fun i h1 h2 => up_ne (by omega)) (up_ne (by omega)) (up_ne (by omega)) (fun i hi => ?_) ?_ ⟨⟨a1, a2, a3⟩, ⟨b1, b2, b3, b4⟩, gx⟩
  · obtain ⟨q0, q1, q2, q3, q4, q5⟩ := a3 i hi
    rw [up_ne (by omega), up_ne (by omega), up_ne (by omega), up_ne (by omega), up_ne (by omega), up_ne (by omega)]
    exact ⟨rfl, q1, rfl, rfl, q4, rfl⟩
  · obtain ⟨c1, c2, c3, c4, c5⟩ := gx
    refine ⟨by rw [up_ne (by omega)]; exact c1, ?_, ?_, ?_, fun i hi => by rw [up_ne (by omega)]; exact c5 i hi⟩
    · by_cases c : 5 = j
      · rw [← c, up_eq]; omega
      · rw [up_ne c]; exact c2
    · by_cases c : 6 = j
      · rw [← c, up_eq]; omega
      · rw [up_ne c]; exact c3
    · by_cases c : 7 = j
      · rw [← c, up_eq]; omega
      · rw [up_ne c]; exact c4
/-- what a line leaves behind: places, numbers -/
theorem pcLine_ok {t : Nat → Int} {e p : Nat} {S S' : PcS} {q : Nat} (hp : p ≤ e) (G : GP S) (h : pcLine t e S p = .inr (S', q)) : GP S' ∧ p < q ∧ q ≤ e ∧ ∀ j, j = 0 ∨ j = 1 ∨ j = 2 ∨ (8 ≤ j ∧ j < 14) ∨ 106 ≤ j → S'.1 j = S.1 j := by
  have hH := G.1.2.1
  have hN := G.2.1.2.1
  unfold pcLine at h
  split at h
  · rename_i hw
    have hn := nxt_b t (isW_lt hp hw (by decide))
    split at h
    · rename_i h6
      unfold pcHand at h
      split at h
      · cases h
      · rename_i a p1 q1
        have l1 := pAft_len hn.2 (by decide) q1
        split at h
        · cases h
        · rename_i b p2 q2
          have l2 := pAft_len l1.2.1 (by decide) q2
          split at h
          · cases h
          · rename_i c p3 q3
            have l3 := pAft_len l2.2.1 (by decide) q3
            split at h
            · cases h
            · rename_i d p4 q4
              have l4 := pAft_len l3.2.1 (by decide) q4
              cases h
              refine ⟨GM_hd h6 l1.2.2 l2.2.2 l3.2.2 l4.2.2 G, by omega, by omega, fun j hj => ?_⟩
              show phM _ _ _ _ _ _ j = _
              unfold phM
              rw [up_ne (by omega), up_ne (by omega), up_ne (by omega), up_ne (by omega), up_ne (by omega), up_ne (by omega), up_ne (by omega)]
    · cases h
  · split at h
    · rename_i hw
      have hn := nxt_b t (isW_lt hp hw (by decide))
      split at h
      · rename_i h14
        unfold pcNote at h
        split at h
        · cases h
        · rename_i k p1 q1
          have l1 := pNum_len hn.2 q1
          split at h
          · cases h
          · rename_i b p2 q2
            have l2 := pAft_len l1.2.1 (by decide) q2
            split at h
            · cases h
            · rename_i ho
              split at h
              · cases h
              · rename_i d p3 q3
                have l3 : p2 ≤ p3 ∧ p3 ≤ e ∧ 0 ≤ d ∧ d ≤ 9 := by
                  unfold pcHard at q3
                  split at q3
                  · rename_i hw2
                    have hn2 := nxt_b t (isW_lt l2.2.1 hw2 (by decide))
                    have := pNum_len hn2.2 q3
                    omega
                  · cases q3; omega
                cases h
                refine ⟨GM_nt h14 l2.2.2 l1.2.2.2.2 l3.2.2 ho G, by omega, by omega, fun j hj => ?_⟩
                show pnM _ _ _ _ _ j = _
                unfold pnM
                rw [up_ne (by omega), up_ne (by omega), up_ne (by omega), up_ne (by omega), up_ne (by omega)]
      · cases h
    · have tl : ∀ (j : Nat) (hi : Int) (w : List Int), isW t e p w = true → 1 ≤ w.length → ((j = 7 ∧ hi = 100) ∨ (j = 5 ∧ hi = 11) ∨ (j = 6 ∧ hi = 999)) → pcTell t e S j hi p = .inr (S', q) → GP S' ∧ p < q ∧ q ≤ e ∧ ∀ j, j = 0 ∨ j = 1 ∨ j = 2 ∨ (8 ≤ j ∧ j < 14) ∨ 106 ≤ j → S'.1 j = S.1 j := by
        intro j hi w hw h1 hj h
        have hn := nxt_b t (isW_lt hp hw h1)
        unfold pcTell at h
        split at h
        · cases h
        · rename_i v r q1
          have l1 := pNum_len hn.2 q1
          cases h
          exact ⟨GX_up (by omega) l1.2.2.2.2.1 G, by omega, by omega, fun i hi => up_ne (by omega)⟩
      split at h
      · rename_i hw; exact tl 7 100 _ hw (by decide) (by omega) h
      · split at h
        · rename_i hw; exact tl 5 11 _ hw (by decide) (by omega) h
        · split at h
          · rename_i hw; exact tl 6 999 _ hw (by decide) (by omega) h
          · cases h
