/-! A STATE AND A MEMORY, changed alike. -/
theorem RH_c {h h' : Hp} {k H : Nat} {M M' : Nat → Int} (e : ∀ t i, (129 ≤ t ∧ t ≤ 133) ∨ t = 139 ∨ t = 141 → h' t k i = h t k i) (m : ∀ j, 14 ≤ j → j < 50 → M' j = M j) (R : RH h k M H) : RH h' k M' H := by
  obtain ⟨a1, a2, ⟨c, a3, a4, a5⟩, a6⟩ := R
  refine ⟨by rw [e _ _ (by omega)]; exact a1, a2, ⟨c, by rw [e _ _ (by omega)]; exact a3, a4, fun i hi => by rw [a5 i hi]; unfold bdB; rw [m _ (by omega) (by omega)]⟩, fun i hi => ?_⟩
  rw [e _ _ (by omega), e _ _ (by omega), e _ _ (by omega), e _ _ (by omega), e _ _ (by omega), m _ (by omega) (by omega), m (14 + 6 * i + 1) (by omega) (by omega), m (14 + 6 * i + 2) (by omega) (by omega), m (14 + 6 * i + 3) (by omega) (by omega), m (14 + 6 * i + 4) (by omega) (by omega)]
  exact a6 i hi
theorem RN_c {h h' : Hp} {k N : Nat} {M M' : Nat → Int} (e : ∀ t i, (134 ≤ t ∧ t ≤ 136) ∨ t = 140 ∨ t = 142 → h' t k i = h t k i) (m : ∀ j, 50 ≤ j → j < 106 → M' j = M j) (R : RN h k M N) : RN h' k M' N := by
  obtain ⟨a1, a2, ⟨c, a3, a4, a5⟩, a6⟩ := R
  refine ⟨by rw [e _ _ (by omega)]; exact a1, a2, ⟨c, by rw [e _ _ (by omega)]; exact a3, a4, fun i hi => by rw [a5 i hi]; unfold stB; rw [m _ (by omega) (by omega)]⟩, fun i hi => ?_⟩
  rw [e _ _ (by omega), e _ _ (by omega), e _ _ (by omega), m _ (by omega) (by omega), m (50 + 4 * i + 1) (by omega) (by omega), m (50 + 4 * i + 2) (by omega) (by omega)]
  exact a6 i hi
theorem RX_c {h h' : Hp} {k : Nat} {M M' : Nat → Int} (e : ∀ t i, t = 137 ∨ (143 ≤ t ∧ t ≤ 147) → h' t k i = h t k i) (m : ∀ j, j < 14 → j ≠ 1 → j ≠ 2 → M' j = M j) (R : RX h k M) : RX h' k M' := by
  obtain ⟨c1, c2, c3, c4, c5, c6⟩ := R
  exact ⟨by rw [e _ _ (by omega), m 0 (by omega) (by omega) (by omega)]; exact c1, by rw [e _ _ (by omega), m 5 (by omega) (by omega) (by omega)]; exact c2, by rw [e _ _ (by omega), m 6 (by omega) (by omega) (by omega)]; exact c3, by rw [e _ _ (by omega), m 7 (by omega) (by omega) (by omega)]; exact c4, by rw [e _ _ (by omega), m 13 (by omega) (by omega) (by omega)]; exact c5, fun j hj => by rw [e _ _ (by omega), m _ (by omega) (by omega) (by omega)]; exact c6 j hj⟩
theorem RL_c {h h' : Hp} {k : Nat} {M M' : Nat → Int} (e : ∀ t i, 121 ≤ t ∧ t ≤ 123 → h' t k i = h t k i) (m : ∀ j, j = 12 ∨ (106 ≤ j ∧ j < 346) → M' j = M j) (R : RL h k M) : RL h' k M' := by
  obtain ⟨nw, S, d1, d2, d3, d4, d5, d6⟩ := R
  refine ⟨nw, S, by rw [e _ _ (by omega)]; exact d1, d2, by rw [e _ _ (by omega)]; exact d3, by rw [m _ (by omega)]; exact d4, d5, fun a ha => ?_⟩
  rw [e _ _ (by omega), m _ (by omega), m (106 + 4 * a + 1) (by omega), m (106 + 4 * a + 2) (by omega), m (106 + 4 * a + 3) (by omega)]
  exact d6 a ha
/-- a number of a hand -/
theorem RS_hd {h : Hp} {s x H N f : Nat} {M : Nat → Int} (v : Int) (hf : f < 5) (hx : x < H) (R : RS h s M H N) : RS (hset h (129 + f) s x v) s (upM M (14 + 6 * x + f) v) H N := by
  obtain ⟨r1, r2, r3, r4⟩ := R
  have hH := r1.2.1
  refine ⟨?_, RN_c (fun t i ht => hs_o (by omega)) (fun j h1 h2 => up_ne (by omega)) r2, RX_c (fun t i ht => hs_o (by omega)) (fun j h1 h2 h3 => up_ne (by omega)) r3, RL_c (fun t i ht => hs_o (by omega)) (fun j hj => up_ne (by omega)) r4⟩
  obtain ⟨a1, a2, ⟨c, a3, a4, a5⟩, a6⟩ := r1
  refine ⟨by rw [hs_o (by omega)]; exact a1, a2, ⟨c, by rw [hs_o (by omega)]; exact a3, a4, fun i hi => by rw [a5 i hi]; unfold bdB; rw [up_ne (by omega)]⟩, fun i hi => ?_⟩
  have key : ∀ f', f' < 5 → h (129 + f') s i = M (14 + 6 * i + f') → hset h (129 + f) s x v (129 + f') s i = upM M (14 + 6 * x + f) v (14 + 6 * i + f') := by
    intro f' hf' e
    by_cases c : f' = f ∧ i = x
    · rw [c.1, c.2, hs_eq, up_eq]
    · rw [hs_o (by omega), up_ne (by omega)]; exact e
  obtain ⟨p0, p1, p2, p3, p4⟩ := a6 i hi
  exact ⟨key 0 (by omega) p0, key 1 (by omega) p1, key 2 (by omega) p2, key 3 (by omega) p3, key 4 (by omega) p4⟩
/-- seed, slip, beat, page, texts -/
theorem RS_x {h : Hp} {s H N t j : Nat} {M : Nat → Int} (v : Int) (ht : (t = 147 ∧ j = 13) ∨ (t = 146 ∧ j = 7) ∨ (t = 145 ∧ j = 6) ∨ (t = 144 ∧ j = 5) ∨ (t = 143 ∧ j = 0)) (R : RS h s M H N) : RS (hset h t s 0 v) s (upM M j v) H N := by
  obtain ⟨r1, r2, r3, r4⟩ := R
  refine ⟨RH_c (fun t i ht => hs_o (by omega)) (fun j h1 h2 => up_ne (by omega)) r1, RN_c (fun t i ht => hs_o (by omega)) (fun j h1 h2 => up_ne (by omega)) r2, ?_, RL_c (fun t i ht => hs_o (by omega)) (fun j hj => up_ne (by omega)) r4⟩
  obtain ⟨c1, c2, c3, c4, c5, c6⟩ := r3
  have key : ∀ t' j', (t' = 147 ∧ j' = 13) ∨ (t' = 146 ∧ j' = 7) ∨ (t' = 145 ∧ j' = 6) ∨ (t' = 144 ∧ j' = 5) ∨ (t' = 143 ∧ j' = 0) → h t' s 0 = M j' → hset h t s 0 v t' s 0 = upM M j v j' := by
    intro t' j' h1 e
    by_cases c : t' = t
    · have : j' = j := by omega
      rw [c, this, hs_eq, up_eq]
    · rw [hs_o (by omega), up_ne (by omega)]; exact e
  exact ⟨key 143 0 (by omega) c1, key 144 5 (by omega) c2, key 145 6 (by omega) c3, key 146 7 (by omega) c4, key 147 13 (by omega) c5, fun i hi => by rw [hs_o (by omega), up_ne (by omega)]; exact c6 i hi⟩
/-- a row more in the log -/
theorem RS_log {h : Hp} {s H N kd : Nat} {M : Nat → Int} {n hd : Int} (hk : kd < 4) (ho : rowOk (M 6) n hd kd) (R : RS h s M H N) : ∃ nw S : Nat, h 122 s 0 = (nw : Int) ∧ nw < 60 ∧ h 123 s 0 = (S : Int) ∧ S ≤ 60 ∧ RS (hadd (hset h 137 s kd (min 9999 (M (8 + kd) + 1))) s nw S (enc (M 6) n hd kd)) s (logM M n hd kd) H N := by
  obtain ⟨r1, r2, r3, r4⟩ := R
  have r4' : RL (hset h 137 s kd (min 9999 (M (8 + kd) + 1))) s M := RL_c (fun t i ht => hs_o (by omega)) (fun j hj => rfl) r4
  obtain ⟨nw, S, e1, e2, e3, e4, e5⟩ := RL_add hk ho r4'
  rw [hs_t (by omega)] at e1 e3
  have he : ∀ t i, ¬ (121 ≤ t ∧ t ≤ 123) → hadd (hset h 137 s kd (min 9999 (M (8 + kd) + 1))) s nw S (enc (M 6) n hd kd) t s i = hset h 137 s kd (min 9999 (M (8 + kd) + 1)) t s i := by
    intro t i ht
    unfold hadd
    rw [hs_o (by omega), hs_o (by omega), hs_o (by omega)]
  have hm : ∀ j, j ≠ 8 + kd → j ≠ 12 → (j < 106 ∨ 346 ≤ j) → logM M n hd kd j = M j := by
    intro j h1 h2 h3
    unfold logM
    rw [if_neg h1, if_neg h2, if_neg (by omega), if_neg (by omega), if_neg (by omega), if_neg (by omega), if_neg (by omega)]
  refine ⟨nw, S, e1, e2, e3, e4, RH_c (fun t i ht => by rw [he t i (by omega), hs_o (by omega)]) (fun j h1 h2 => hm j (by omega) (by omega) (by omega)) r1, RN_c (fun t i ht => by rw [he t i (by omega), hs_o (by omega)]) (fun j h1 h2 => hm j (by omega) (by omega) (by omega)) r2, ?_, e5⟩
  obtain ⟨c1, c2, c3, c4, c5, c6⟩ := r3
  refine ⟨by rw [he _ _ (by omega), hs_o (by omega), hm 0 (by omega) (by omega) (by omega)]; exact c1, by rw [he _ _ (by omega), hs_o (by omega), hm 5 (by omega) (by omega) (by omega)]; exact c2, by rw [he _ _ (by omega), hs_o (by omega), hm 6 (by omega) (by omega) (by omega)]; exact c3, by rw [he _ _ (by omega), hs_o (by omega), hm 7 (by omega) (by omega) (by omega)]; exact c4, by rw [he _ _ (by omega), hs_o (by omega), hm 13 (by omega) (by omega) (by omega)]; exact c5, fun i hi => ?_⟩
  rw [he _ _ (by omega)]
  by_cases c : i = kd
  · rw [c, hs_eq]
    unfold logM
    rw [if_pos rfl]
  · rw [hs_o (by omega), hm _ (by omega) (by omega) (by omega)]; exact c6 i hi
theorem logM_o {M : Nat → Int} {n hd : Int} {kd j : Nat} (h1 : j ≠ 8 + kd) (h2 : j ≠ 12) (h3 : j < 106 ∨ 346 ≤ j) : logM M n hd kd j = M j := by
  unfold logM
  rw [if_neg h1, if_neg h2, if_neg (by omega), if_neg (by omega), if_neg (by omega), if_neg (by omega), if_neg (by omega)]
/-- bounds, of a memory that has changed -/
theorem GM_ch {M M' : Nat → Int} {H N : Nat} (e50 : ∀ j, 50 ≤ j → j < 106 → M' j = M j) (e3 : M' 3 = M 3) (e4 : M' 4 = M 4) (eh : ∀ i, i < H → M' (14 + 6 * i) = M (14 + 6 * i) ∧ (0 ≤ M' (14 + 6 * i + 1) ∧ M' (14 + 6 * i + 1) ≤ 63) ∧ M' (14 + 6 * i + 2) = M (14 + 6 * i + 2) ∧ M' (14 + 6 * i + 3) = M (14 + 6 * i + 3) ∧ (0 ≤ M' (14 + 6 * i + 4) ∧ M' (14 + 6 * i + 4) ≤ 99) ∧ M' (14 + 6 * i + 5) = M (14 + 6 * i + 5)) (gx : GX M') (G : GM M H N) : GM M' H N := by
  obtain ⟨⟨a1, a2, a3⟩, ⟨b1, b2, b3, b4⟩, -⟩ := G
  refine ⟨⟨by rw [e3]; exact a1, a2, fun i hi => ?_⟩, ⟨by rw [e4]; exact b1, b2, fun n hn => ?_, fun n n' hn hn' hne s1 s2 q => ?_⟩, gx⟩
  · obtain ⟨p0, p1, p2, p3, p4, p5⟩ := eh i hi
    obtain ⟨q0, q1, q2, q3, q4, q5⟩ := a3 i hi
    exact ⟨by rw [p0]; exact q0, p1, by rw [p2]; exact q2, by rw [p3]; exact q3, p4, by rw [p5]; exact q5⟩
  · rw [e50 _ (by omega) (by omega), e50 (50 + 4 * n + 1) (by omega) (by omega), e50 (50 + 4 * n + 2) (by omega) (by omega), e50 (50 + 4 * n + 3) (by omega) (by omega)]
    exact b3 n hn
  · unfold stB at s1 s2
    rw [e50 _ (by omega) (by omega)] at s1 s2
    rw [e50 _ (by omega) (by omega), e50 _ (by omega) (by omega)] at q
    rw [e50 (50 + 4 * n + 1) (by omega) (by omega), e50 (50 + 4 * n' + 1) (by omega) (by omega)]
    exact b4 n n' hn hn' hne s1 s2 q
/-- what a turn leaves as it is -/
def KP (M m : Nat → Int) : Prop := (∀ j, j < 8 → m j = M j) ∧ (∀ j, 50 ≤ j → j < 106 → m j = M j) ∧ (∀ j, 346 ≤ j → m j = M j) ∧ ∀ i, i < 6 → m (14 + 6 * i) = M (14 + 6 * i) ∧ m (14 + 6 * i + 2) = M (14 + 6 * i + 2) ∧ m (14 + 6 * i + 3) = M (14 + 6 * i + 3) ∧ m (14 + 6 * i + 5) = M (14 + 6 * i + 5)
theorem KP_r (M : Nat → Int) : KP M M := ⟨fun _ _ => rfl, fun _ _ _ => rfl, fun _ _ => rfl, fun _ _ => ⟨rfl, rfl, rfl, rfl⟩⟩
theorem KP_t {M m m' : Nat → Int} (a : KP M m) (b : KP m m') : KP M m' := ⟨fun j h => (b.1 j h).trans (a.1 j h), fun j h1 h2 => (b.2.1 j h1 h2).trans (a.2.1 j h1 h2), fun j h => (b.2.2.1 j h).trans (a.2.2.1 j h), fun i hi => ⟨(b.2.2.2 i hi).1.trans (a.2.2.2 i hi).1, (b.2.2.2 i hi).2.1.trans (a.2.2.2 i hi).2.1, (b.2.2.2 i hi).2.2.1.trans (a.2.2.2 i hi).2.2.1, (b.2.2.2 i hi).2.2.2.trans (a.2.2.2 i hi).2.2.2⟩⟩
theorem KP_log {M : Nat → Int} {n hd : Int} {kd : Nat} (hk : kd < 4) : KP M (logM M n hd kd) := ⟨fun j h => logM_o (by omega) (by omega) (by omega), fun j h1 h2 => logM_o (by omega) (by omega) (by omega), fun j h => logM_o (by omega) (by omega) (by omega), fun i hi => ⟨logM_o (by omega) (by omega) (by omega), logM_o (by omega) (by omega) (by omega), logM_o (by omega) (by omega) (by omega), logM_o (by omega) (by omega) (by omega)⟩⟩
theorem KP_at {M : Nat → Int} {x : Nat} {v : Int} (hx : x < 6) : KP M (upM M (14 + 6 * x + 1) v) := ⟨fun j h => up_ne (by omega), fun j h1 h2 => up_ne (by omega), fun j h => up_ne (by omega), fun i hi => ⟨up_ne (by omega), up_ne (by omega), up_ne (by omega), up_ne (by omega)⟩⟩
theorem KP_ti {M : Nat → Int} {x : Nat} {v : Int} (hx : x < 6) : KP M (upM M (14 + 6 * x + 4) v) := ⟨fun j h => up_ne (by omega), fun j h1 h2 => up_ne (by omega), fun j h => up_ne (by omega), fun i hi => ⟨up_ne (by omega), up_ne (by omega), up_ne (by omega), up_ne (by omega)⟩⟩
theorem KP_sd {M : Nat → Int} {v : Int} : KP M (upM M 13 v) := ⟨fun j h => up_ne (by omega), fun j h1 h2 => up_ne (by omega), fun j h => up_ne (by omega), fun i hi => ⟨up_ne (by omega), up_ne (by omega), up_ne (by omega), up_ne (by omega)⟩⟩
theorem GM_log {M : Nat → Int} {H N kd : Nat} {n hd : Int} (hk : kd < 4) (G : GM M H N) : GM (logM M n hd kd) H N := by
  obtain ⟨c1, c2, c3, c4, c5⟩ := G.2.2
  have hH := G.1.2.1
  refine GM_ch (fun j h1 h2 => logM_o (by omega) (by omega) (by omega)) (logM_o (by omega) (by omega) (by omega)) (logM_o (by omega) (by omega) (by omega)) (fun i hi => ?_) ⟨?_, ?_, ?_, ?_, fun j hj => ?_⟩ G
  · have := G.1.2.2 i hi
    rw [logM_o (by omega) (by omega) (by omega), logM_o (j := 14 + 6 * i + 1) (by omega) (by omega) (by omega), logM_o (j := 14 + 6 * i + 2) (by omega) (by omega) (by omega), logM_o (j := 14 + 6 * i + 3) (by omega) (by omega) (by omega), logM_o (j := 14 + 6 * i + 4) (by omega) (by omega) (by omega), logM_o (j := 14 + 6 * i + 5) (by omega) (by omega) (by omega)]
    exact ⟨rfl, this.2.1, rfl, rfl, this.2.2.2.2.1, rfl⟩
  · rw [logM_o (by omega) (by omega) (by omega)]; exact c1
  · rw [logM_o (by omega) (by omega) (by omega)]; exact c2
  · rw [logM_o (by omega) (by omega) (by omega)]; exact c3
  · rw [logM_o (by omega) (by omega) (by omega)]; exact c4
  · have := c5 j hj
    by_cases c : j = kd
    · subst c; unfold logM; rw [if_pos rfl]; omega
    · rw [logM_o (by omega) (by omega) (by omega)]; exact this
theorem GX_o {M : Nat → Int} {j : Nat} {v : Int} (h : 12 ≤ j) (G : GX M) : GX (upM M j v) := by
  obtain ⟨c1, c2, c3, c4, c5⟩ := G
  exact ⟨by rw [up_ne (by omega)]; exact c1, by rw [up_ne (by omega)]; exact c2, by rw [up_ne (by omega)]; exact c3, by rw [up_ne (by omega)]; exact c4, fun i hi => by rw [up_ne (by omega)]; exact c5 i hi⟩
theorem GM_at {M : Nat → Int} {H N x : Nat} {v : Int} (hx : x < H) (hv : 0 ≤ v ∧ v ≤ 63) (G : GM M H N) : GM (upM M (14 + 6 * x + 1) v) H N := by
  have hH := G.1.2.1
  refine GM_ch (fun j h1 h2 => up_ne (by omega)) (up_ne (by omega)) (up_ne (by omega)) (fun i hi => ?_) (GX_o (by omega) G.2.2) G
  have := G.1.2.2 i hi
  refine ⟨up_ne (by omega), ?_, up_ne (by omega), up_ne (by omega), by rw [up_ne (by omega)]; exact this.2.2.2.2.1, up_ne (by omega)⟩
  by_cases c : i = x
  · rw [c, up_eq]; exact hv
  · rw [up_ne (by omega)]; exact this.2.1
theorem GM_ti {M : Nat → Int} {H N x : Nat} {v : Int} (hx : x < H) (hv : 0 ≤ v ∧ v ≤ 99) (G : GM M H N) : GM (upM M (14 + 6 * x + 4) v) H N := by
  have hH := G.1.2.1
  refine GM_ch (fun j h1 h2 => up_ne (by omega)) (up_ne (by omega)) (up_ne (by omega)) (fun i hi => ?_) (GX_o (by omega) G.2.2) G
  have := G.1.2.2 i hi
  refine ⟨up_ne (by omega), by rw [up_ne (by omega)]; exact this.2.1, up_ne (by omega), up_ne (by omega), ?_, up_ne (by omega)⟩
  by_cases c : i = x
  · rw [c, up_eq]; exact hv
  · rw [up_ne (by omega)]; exact this.2.2.2.2.1
theorem GM_sd {M : Nat → Int} {H N : Nat} {v : Int} (G : GM M H N) : GM (upM M 13 v) H N := by
  refine GM_ch (fun j h1 h2 => up_ne (by omega)) (up_ne (by omega)) (up_ne (by omega)) (fun i hi => ?_) (GX_o (by omega) G.2.2) G
  have := G.1.2.2 i hi
  exact ⟨up_ne (by omega), by rw [up_ne (by omega)]; exact this.2.1, up_ne (by omega), up_ne (by omega), by rw [up_ne (by omega)]; exact this.2.2.2.2.1, up_ne (by omega)⟩
