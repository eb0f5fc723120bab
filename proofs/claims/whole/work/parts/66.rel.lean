/-! WHAT A STATE OF THE CLASS HAS TO DO WITH A MEMORY OF THE REFERENCE. -/
def bdB (M : Nat → Int) (i : Nat) : Bool := decide (M (14 + 6 * i + 5) ≠ 0)
def RH (h : Hp) (k : Nat) (M : Nat → Int) (H : Nat) : Prop := h 139 k 0 = (H : Int) ∧ H ≤ 6 ∧ (∃ c : Nat, h 141 k 0 = (c : Int) ∧ c < 128 ∧ ∀ i, i < H → c.testBit i = bdB M i) ∧ ∀ i, i < H → h 129 k i = M (14 + 6 * i) ∧ h 130 k i = M (14 + 6 * i + 1) ∧ h 131 k i = M (14 + 6 * i + 2) ∧ h 132 k i = M (14 + 6 * i + 3) ∧ h 133 k i = M (14 + 6 * i + 4)
def RX (h : Hp) (k : Nat) (M : Nat → Int) : Prop := h 143 k 0 = M 0 ∧ h 144 k 0 = M 5 ∧ h 145 k 0 = M 6 ∧ h 146 k 0 = M 7 ∧ h 147 k 0 = M 13 ∧ ∀ j, j < 4 → h 137 k j = M (8 + j)
def RS (h : Hp) (k : Nat) (M : Nat → Int) (H N : Nat) : Prop := RH h k M H ∧ RN h k M N ∧ RX h k M ∧ RL h k M
/-- the numbers of a memory are in their bounds -/
def GH (M : Nat → Int) (H : Nat) : Prop := M 3 = (H : Int) ∧ H ≤ 6 ∧ ∀ i, i < H → (0 ≤ M (14 + 6 * i) ∧ M (14 + 6 * i) ≤ 2) ∧ (0 ≤ M (14 + 6 * i + 1) ∧ M (14 + 6 * i + 1) ≤ 63) ∧ (0 ≤ M (14 + 6 * i + 2) ∧ M (14 + 6 * i + 2) ≤ 40) ∧ (0 ≤ M (14 + 6 * i + 3) ∧ M (14 + 6 * i + 3) ≤ 9) ∧ (0 ≤ M (14 + 6 * i + 4) ∧ M (14 + 6 * i + 4) ≤ 99) ∧ (M (14 + 6 * i + 5) = 0 ∨ M (14 + 6 * i + 5) = 1)
def GN (M : Nat → Int) (N : Nat) : Prop := M 4 = (N : Int) ∧ N ≤ 14 ∧ (∀ n, n < N → (0 ≤ M (50 + 4 * n) ∧ M (50 + 4 * n) ≤ 11) ∧ (0 ≤ M (50 + 4 * n + 1) ∧ M (50 + 4 * n + 1) ≤ 63) ∧ (0 ≤ M (50 + 4 * n + 2) ∧ M (50 + 4 * n + 2) ≤ 9) ∧ (M (50 + 4 * n + 3) = 0 ∨ M (50 + 4 * n + 3) = 1)) ∧ ∀ n n', n < N → n' < N → n ≠ n' → stB M n = true → stB M n' = true → M (50 + 4 * n) = M (50 + 4 * n') → M (50 + 4 * n + 1) ≠ M (50 + 4 * n' + 1)
def GX (M : Nat → Int) : Prop := (0 ≤ M 0 ∧ M 0 ≤ 12) ∧ (0 ≤ M 5 ∧ M 5 ≤ 11) ∧ (0 ≤ M 6 ∧ M 6 ≤ 9999) ∧ (0 ≤ M 7 ∧ M 7 ≤ 100) ∧ (∀ j, j < 4 → 0 ≤ M (8 + j) ∧ M (8 + j) ≤ 9999)
def GM (M : Nat → Int) (H N : Nat) : Prop := GH M H ∧ GN M N ∧ GX M
/-- only what the state holds counts -/
def stTag (t : Nat) : Prop := (129 ≤ t ∧ t ≤ 147) ∨ (121 ≤ t ∧ t ≤ 123)
theorem tgS_mem {t : Nat} (h : stTag t) (h8 : t ≠ 138) : (t = 121 ∧ (t, 60) ∈ tgS) ∨ ((t = 122 ∨ t = 123 ∨ (139 ≤ t ∧ t ≤ 147)) ∧ (t, 1) ∈ tgS) ∨ ((129 ≤ t ∧ t ≤ 133) ∧ (t, 6) ∈ tgS) ∨ ((134 ≤ t ∧ t ≤ 136) ∧ (t, 14) ∈ tgS) ∨ (t = 137 ∧ (t, 4) ∈ tgS) := by
  rcases h with h | h
  · have : t = 129 ∨ t = 130 ∨ t = 131 ∨ t = 132 ∨ t = 133 ∨ t = 134 ∨ t = 135 ∨ t = 136 ∨ t = 137 ∨ t = 139 ∨ t = 140 ∨ t = 141 ∨ t = 142 ∨ t = 143 ∨ t = 144 ∨ t = 145 ∨ t = 146 ∨ t = 147 := by omega
    rcases this with rfl | rfl | rfl | rfl | rfl | rfl | rfl | rfl | rfl | rfl | rfl | rfl | rfl | rfl | rfl | rfl | rfl | rfl <;> simp [tgS, tgH, tgL]
  · have : t = 121 ∨ t = 122 ∨ t = 123 := by omega
    rcases this with rfl | rfl | rfl <;> simp [tgS, tgH, tgL]
/-- a state that reads alike -/
theorem RS_like {h h' : Hp} {k k' : Nat} {M : Nat → Int} {H N : Nat} (e1 : ∀ t, (139 ≤ t ∧ t ≤ 147) ∨ t = 122 ∨ t = 123 → h' t k' 0 = h t k 0) (e2 : ∀ t i, 129 ≤ t → t ≤ 133 → i < 6 → h' t k' i = h t k i) (e3 : ∀ t i, 134 ≤ t → t ≤ 136 → i < 14 → h' t k' i = h t k i) (e4 : ∀ i, i < 4 → h' 137 k' i = h 137 k i) (e5 : ∀ i, i < 60 → h' 121 k' i = h 121 k i) (R : RS h k M H N) : RS h' k' M H N := by
  obtain ⟨⟨a1, a2, ⟨c, a3, a4, a5⟩, a6⟩, ⟨b1, b2, ⟨d, b3, b4, b5⟩, b6⟩, ⟨c1, c2, c3, c4, c5, c6⟩, ⟨nw, S, d1, d2, d3, d4, d5, d6⟩⟩ := R
  refine ⟨⟨?_, a2, ⟨c, ?_, a4, a5⟩, fun i hi => ?_⟩, ⟨?_, b2, ⟨d, ?_, b4, b5⟩, fun n hn => ?_⟩, ⟨?_, ?_, ?_, ?_, ?_, fun j hj => ?_⟩, ⟨nw, S, ?_, d2, ?_, d4, d5, fun a ha => ?_⟩⟩
  · rw [e1 139 (by omega)]; exact a1
  · rw [e1 141 (by omega)]; exact a3
  · have := a6 i hi
    rw [e2 129 i (by omega) (by omega) (by omega), e2 130 i (by omega) (by omega) (by omega), e2 131 i (by omega) (by omega) (by omega), e2 132 i (by omega) (by omega) (by omega), e2 133 i (by omega) (by omega) (by omega)]
    exact this
  · rw [e1 140 (by omega)]; exact b1
  · rw [e1 142 (by omega)]; exact b3
  · have := b6 n hn
    rw [e3 134 n (by omega) (by omega) (by omega), e3 135 n (by omega) (by omega) (by omega), e3 136 n (by omega) (by omega) (by omega)]
    exact this
  · rw [e1 143 (by omega)]; exact c1
  · rw [e1 144 (by omega)]; exact c2
  · rw [e1 145 (by omega)]; exact c3
  · rw [e1 146 (by omega)]; exact c4
  · rw [e1 147 (by omega)]; exact c5
  · rw [e4 j hj]; exact c6 j hj
  · rw [e1 122 (by omega)]; exact d1
  · rw [e1 123 (by omega)]; exact d3
  · rw [e5 _ (by omega)]; exact d6 a ha
theorem RS_cp {h h' : Hp} {k k' : Nat} {M : Nat → Int} {H N : Nat} (c : CP h h' k k' tgS) (R : RS h k M H N) : RS h' k' M H N := by
  obtain ⟨-, c2, -⟩ := c
  refine RS_like (fun t ht => ?_) (fun t i h1 h2 hi => ?_) (fun t i h1 h2 hi => ?_) (fun i hi => ?_) (fun i hi => ?_) R
  · have hm : (t, 1) ∈ tgS := by
      have : t = 139 ∨ t = 140 ∨ t = 141 ∨ t = 142 ∨ t = 143 ∨ t = 144 ∨ t = 145 ∨ t = 146 ∨ t = 147 ∨ t = 122 ∨ t = 123 := by omega
      rcases this with rfl | rfl | rfl | rfl | rfl | rfl | rfl | rfl | rfl | rfl | rfl <;> simp [tgS, tgH, tgL]
    exact c2 t 1 0 hm (by omega)
  · have hm : (t, 6) ∈ tgS := by
      have : t = 129 ∨ t = 130 ∨ t = 131 ∨ t = 132 ∨ t = 133 := by omega
      rcases this with rfl | rfl | rfl | rfl | rfl <;> simp [tgS, tgH, tgL]
    exact c2 t 6 i hm hi
  · have hm : (t, 14) ∈ tgS := by
      have : t = 134 ∨ t = 135 ∨ t = 136 := by omega
      rcases this with rfl | rfl | rfl <;> simp [tgS, tgH, tgL]
    exact c2 t 14 i hm hi
  · exact c2 137 4 i (by simp [tgS, tgH, tgL]) hi
  · exact c2 121 60 i (by simp [tgS, tgH, tgL]) hi
/-- what lies elsewhere doesn't count -/
theorem RS_same {h h' : Hp} {k : Nat} {M : Nat → Int} {H N : Nat} (e : ∀ t, stTag t → h' t k = h t k) (R : RS h k M H N) : RS h' k M H N :=
  RS_like (fun t ht => by rw [e t (by unfold stTag; omega)]) (fun t i h1 h2 _ => by rw [e t (by unfold stTag; omega)]) (fun t i h1 h2 _ => by rw [e t (by unfold stTag; omega)]) (fun i _ => by rw [e 137 (by unfold stTag; omega)]) (fun i _ => by rw [e 121 (by unfold stTag; omega)]) R
/-- nor what the memory holds of the law -/
theorem RS_mem {h : Hp} {k : Nat} {M M' : Nat → Int} {H N : Nat} (e : ∀ i, i < 346 → i ≠ 1 → i ≠ 2 → M' i = M i) (R : RS h k M H N) : RS h k M' H N := by
  obtain ⟨⟨a1, a2, ⟨c, a3, a4, a5⟩, a6⟩, ⟨b1, b2, ⟨d, b3, b4, b5⟩, b6⟩, ⟨c1, c2, c3, c4, c5, c6⟩, ⟨nw, S, d1, d2, d3, d4, d5, d6⟩⟩ := R
  refine ⟨⟨a1, a2, ⟨c, a3, a4, fun i hi => ?_⟩, fun i hi => ?_⟩, ⟨b1, b2, ⟨d, b3, b4, fun n hn => ?_⟩, fun n hn => ?_⟩, ⟨?_, ?_, ?_, ?_, ?_, fun j hj => ?_⟩, ⟨nw, S, d1, d2, d3, ?_, d5, fun a ha => ?_⟩⟩
  · rw [a5 i hi]; unfold bdB; rw [e _ (by omega) (by omega) (by omega)]
  · have := a6 i hi
    rw [e (14 + 6 * i) (by omega) (by omega) (by omega), e (14 + 6 * i + 1) (by omega) (by omega) (by omega), e (14 + 6 * i + 2) (by omega) (by omega) (by omega), e (14 + 6 * i + 3) (by omega) (by omega) (by omega), e (14 + 6 * i + 4) (by omega) (by omega) (by omega)]
    exact this
  · rw [b5 n hn]; unfold stB; rw [e _ (by omega) (by omega) (by omega)]
  · have := b6 n hn
    rw [e (50 + 4 * n) (by omega) (by omega) (by omega), e (50 + 4 * n + 1) (by omega) (by omega) (by omega), e (50 + 4 * n + 2) (by omega) (by omega) (by omega)]
    exact this
  · rw [e 0 (by omega) (by omega) (by omega)]; exact c1
  · rw [e 5 (by omega) (by omega) (by omega)]; exact c2
  · rw [e 6 (by omega) (by omega) (by omega)]; exact c3
  · rw [e 7 (by omega) (by omega) (by omega)]; exact c4
  · rw [e 13 (by omega) (by omega) (by omega)]; exact c5
  · rw [e _ (by omega) (by omega) (by omega)]; exact c6 j hj
  · rw [e 12 (by omega) (by omega) (by omega)]; exact d4
  · rw [e (106 + 4 * a) (by omega) (by omega) (by omega), e (106 + 4 * a + 1) (by omega) (by omega) (by omega), e (106 + 4 * a + 2) (by omega) (by omega) (by omega), e (106 + 4 * a + 3) (by omega) (by omega) (by omega)]
    exact d6 a ha
theorem GM_mem {M M' : Nat → Int} {H N : Nat} (e : ∀ i, i < 106 → i ≠ 1 → i ≠ 2 → M' i = M i) (G : GM M H N) : GM M' H N := by
  obtain ⟨⟨a1, a2, a3⟩, ⟨b1, b2, b3, b4⟩, ⟨c1, c2, c3, c4, c5⟩⟩ := G
  refine ⟨⟨?_, a2, fun i hi => ?_⟩, ⟨?_, b2, fun n hn => ?_, fun n n' hn hn' hne s1 s2 q => ?_⟩, ⟨?_, ?_, ?_, ?_, fun j hj => ?_⟩⟩
  · rw [e 3 (by omega) (by omega) (by omega)]; exact a1
  · rw [e (14 + 6 * i) (by omega) (by omega) (by omega), e (14 + 6 * i + 1) (by omega) (by omega) (by omega), e (14 + 6 * i + 2) (by omega) (by omega) (by omega), e (14 + 6 * i + 3) (by omega) (by omega) (by omega), e (14 + 6 * i + 4) (by omega) (by omega) (by omega), e (14 + 6 * i + 5) (by omega) (by omega) (by omega)]
    exact a3 i hi
  · rw [e 4 (by omega) (by omega) (by omega)]; exact b1
  · rw [e (50 + 4 * n) (by omega) (by omega) (by omega), e (50 + 4 * n + 1) (by omega) (by omega) (by omega), e (50 + 4 * n + 2) (by omega) (by omega) (by omega), e (50 + 4 * n + 3) (by omega) (by omega) (by omega)]
    exact b3 n hn
  · unfold stB at s1 s2
    rw [e (50 + 4 * n + 3) (by omega) (by omega) (by omega)] at s1
    rw [e (50 + 4 * n' + 3) (by omega) (by omega) (by omega)] at s2
    rw [e (50 + 4 * n) (by omega) (by omega) (by omega), e (50 + 4 * n') (by omega) (by omega) (by omega)] at q
    rw [e (50 + 4 * n + 1) (by omega) (by omega) (by omega), e (50 + 4 * n' + 1) (by omega) (by omega) (by omega)]
    exact b4 n n' hn hn' hne s1 s2 q
  · rw [e 0 (by omega) (by omega) (by omega)]; exact c1
  · rw [e 5 (by omega) (by omega) (by omega)]; exact c2
  · rw [e 6 (by omega) (by omega) (by omega)]; exact c3
  · rw [e 7 (by omega) (by omega) (by omega)]; exact c4
  · rw [e _ (by omega) (by omega) (by omega)]; exact c5 j hj
