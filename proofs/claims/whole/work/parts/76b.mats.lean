/-! MATCHINGS: what the way's count is; which notes are left. -/
def MatU (A : Nat → Nat → Bool) (H : Nat) (cs : List Nat) (u : Nat) (g : Nat → Int) : Prop := (∀ n ∈ cs, g n = -1 ∨ ∃ x : Nat, g n = (x : Int) ∧ x < H ∧ A n x = true ∧ u.testBit x = false) ∧ ∀ n ∈ cs, ∀ n' ∈ cs, g n ≠ -1 → g n = g n' → n = n'
def msz (g : Nat → Int) (cs : List Nat) : Nat := cs.countP (fun n => decide (g n ≠ -1))
theorem tb_or (u x y : Nat) : (u ||| 2 ^ x).testBit y = (u.testBit y || decide (x = y)) := by rw [Nat.testBit_or, Nat.testBit_two_pow]
theorem dpp_ub (A : Nat → Nat → Bool) (far : Nat → Nat → Int) (H : Nat) : ∀ (cs : List Nat) (u : Nat) (g : Nat → Int), cs.Nodup → MatU A H cs u g → msz g cs ≤ (dpp A far H cs u).1 := by
  intro cs
  induction cs with
  | nil => intro u g _ _; exact Nat.le_refl _
  | cons n cs ih =>
    intro u g hd hm
    obtain ⟨hn, hd⟩ := List.nodup_cons.mp hd
    have ge := pmxH_ge (fun x => !u.testBit x && A n x) (fun x => ((dpp A far H cs (u ||| 2 ^ x)).1 + 1, (dpp A far H cs (u ||| 2 ^ x)).2 + (far n x).toNat)) (dpp A far H cs u) H
    show _ ≤ (pmxH _ _ _ _).1
    unfold msz
    rw [List.countP_cons]
    have inj : ∀ a ∈ cs, ∀ b ∈ cs, g a ≠ -1 → g a = g b → a = b := fun a ha b hb => hm.2 a (List.mem_cons_of_mem _ ha) b (List.mem_cons_of_mem _ hb)
    rcases hm.1 n List.mem_cons_self with h1 | ⟨x, h1, h2, h3, h4⟩
    · rw [if_neg (by simp [h1])]
      exact Nat.le_trans (ih u g hd ⟨fun a ha => hm.1 a (List.mem_cons_of_mem _ ha), inj⟩) ge.1
    · rw [if_pos (by simp [h1])]
      refine Nat.le_trans ?_ (ge.2 x h2 (by simp [h3, h4]))
      refine Nat.succ_le_succ (ih (u ||| 2 ^ x) g hd ⟨fun a ha => ?_, inj⟩)
      rcases hm.1 a (List.mem_cons_of_mem _ ha) with q | ⟨y, q1, q2, q3, q4⟩
      · exact Or.inl q
      · refine Or.inr ⟨y, q1, q2, q3, ?_⟩
        rw [tb_or, q4, Bool.false_or, decide_eq_false_iff_not]
        intro e
        subst e
        have := hm.2 n List.mem_cons_self a (List.mem_cons_of_mem _ ha) (by omega) (by omega)
        subst this
        exact hn ha
theorem up_mem {g : Nat → Int} {n : Nat} {v : Int} {cs : List Nat} (hn : n ∉ cs) {a : Nat} (ha : a ∈ cs) : upM g n v a = g a := up_ne (fun e => hn (e ▸ ha))
theorem msz_up {g : Nat → Int} {n : Nat} {v : Int} {cs : List Nat} (hn : n ∉ cs) : msz (upM g n v) cs = msz g cs := by
  unfold msz
  refine List.countP_congr (fun a ha => ?_)
  rw [up_mem hn ha]
theorem dpp_ex (A : Nat → Nat → Bool) (far : Nat → Nat → Int) (H : Nat) : ∀ (cs : List Nat) (u : Nat), cs.Nodup → ∃ g, MatU A H cs u g ∧ msz g cs = (dpp A far H cs u).1 := by
  intro cs
  induction cs with
  | nil => intro u _; exact ⟨fun _ => -1, ⟨fun n h => (by cases h), fun n h => (by cases h)⟩, rfl⟩
  | cons n cs ih =>
    intro u hd
    obtain ⟨hn, hd⟩ := List.nodup_cons.mp hd
    rcases pmxH_mem (fun x => !u.testBit x && A n x) (fun x => ((dpp A far H cs (u ||| 2 ^ x)).1 + 1, (dpp A far H cs (u ||| 2 ^ x)).2 + (far n x).toNat)) (dpp A far H cs u) H with e | ⟨x, hx, hp, e⟩
    · obtain ⟨g, ⟨g1, g2⟩, g3⟩ := ih u hd
      refine ⟨upM g n (-1), ⟨fun a ha => ?_, fun a ha b hb h1 h2 => ?_⟩, ?_⟩
      · rcases List.mem_cons.mp ha with q | q
        · left; rw [q, up_eq]
        · rw [up_mem hn q]; exact g1 a q
      · rcases List.mem_cons.mp ha with q | q
        · rw [q, up_eq] at h1; exact absurd rfl h1
        · rcases List.mem_cons.mp hb with q' | q'
          · rw [q', up_eq] at h2; exact absurd h2 h1
          · rw [up_mem hn q] at h1 h2; rw [up_mem hn q'] at h2; exact g2 a q b q' h1 h2
      · show _ = (pmxH _ _ _ _).1
        rw [e, ← g3]
        unfold msz
        rw [List.countP_cons, if_neg (by simp [up_eq])]
        exact msz_up hn
    · obtain ⟨g, ⟨g1, g2⟩, g3⟩ := ih (u ||| 2 ^ x) hd
      have hp : u.testBit x = false ∧ A n x = true := by simpa using hp
      have nx : ∀ a ∈ cs, g a ≠ (x : Int) := by
        intro a ha q
        rcases g1 a ha with r | ⟨y, r1, r2, r3, r4⟩
        · omega
        · have : y = x := by omega
          subst this
          rw [tb_or] at r4
          simp at r4
      refine ⟨upM g n (x : Int), ⟨fun a ha => ?_, fun a ha b hb h1 h2 => ?_⟩, ?_⟩
      · rcases List.mem_cons.mp ha with q | q
        · right; exact ⟨x, by rw [q, up_eq], hx, by rw [q]; exact hp.2, hp.1⟩
        · rw [up_mem hn q]
          rcases g1 a q with r | ⟨y, r1, r2, r3, r4⟩
          · exact Or.inl r
          · refine Or.inr ⟨y, r1, r2, r3, ?_⟩
            rw [tb_or] at r4
            simp at r4
            exact r4.1
      · rcases List.mem_cons.mp ha with q | q
        · rcases List.mem_cons.mp hb with q' | q'
          · rw [q, q']
          · rw [q, up_eq, up_mem hn q'] at h2; exact absurd h2.symm (nx b q')
        · rcases List.mem_cons.mp hb with q' | q'
          · rw [q', up_eq, up_mem hn q] at h2; exact absurd h2 (nx a q)
          · rw [up_mem hn q] at h1 h2; rw [up_mem hn q'] at h2; exact g2 a q b q' h1 h2
      · show _ = (pmxH _ _ _ _).1
        rw [e]
        show _ = (dpp A far H cs (u ||| 2 ^ x)).1 + 1
        rw [← g3]
        unfold msz
        rw [List.countP_cons, if_pos (by rw [up_eq]; simp)]
        exact congrArg (· + 1) (msz_up hn)
/-! the notes of a chord -/
def chL (P : Nat → Bool) (N : Nat) : List Nat := (List.range N).filter P
theorem chL_mem {P : Nat → Bool} {N n : Nat} : n ∈ chL P N ↔ n < N ∧ P n = true := by unfold chL; rw [List.mem_filter, List.mem_range]
theorem chL_nd (P : Nat → Bool) (N : Nat) : (chL P N).Nodup := List.Pairwise.filter _ (List.nodup_range)
theorem chL_s (P : Nat → Bool) (n : Nat) : chL P (n + 1) = chL P n ++ (if P n = true then [n] else []) := by
  unfold chL
  rw [List.range_succ, List.filter_append]
  congr 1
  by_cases c : P n = true
  · rw [if_pos c, List.filter_cons_of_pos c]; rfl
  · rw [if_neg c, List.filter_cons_of_neg c]; rfl
theorem chL_len (P : Nat → Bool) (N : Nat) : (chL P N).length = cnt P N := by
  induction N with
  | zero => rfl
  | succ N ih => rw [chL_s, List.length_append, ih]; show _ = cnt P N + if P N = true then 1 else 0; by_cases c : P N = true <;> simp [c]
theorem chL_congr {P Q : Nat → Bool} {N : Nat} (h : ∀ n, n < N → P n = Q n) : chL P N = chL Q N := by
  unfold chL
  exact List.filter_congr (fun n hn => h n (List.mem_range.mp hn))
theorem msz_cnt (g : Nat → Int) (P : Nat → Bool) (N : Nat) : msz g (chL P N) = cnt (fun n => P n && decide (g n ≠ -1)) N := by
  unfold msz
  induction N with
  | zero => rfl
  | succ N ih =>
    rw [chL_s, List.countP_append, ih]
    show _ = cnt _ N + if (P N && decide (g N ≠ -1)) = true then 1 else 0
    congr 1
    by_cases c : P N = true
    · by_cases d : g N = -1 <;> simp [c, d]
    · simp [c]
/-! counting -/
theorem cnt_mono {P Q : Nat → Bool} {n : Nat} (h : ∀ i, i < n → P i = true → Q i = true) : cnt P n ≤ cnt Q n := by
  induction n with
  | zero => exact Nat.le_refl _
  | succ n ih =>
    show cnt P n + (if P n = true then 1 else 0) ≤ cnt Q n + (if Q n = true then 1 else 0)
    have := ih (fun i hi => h i (by omega))
    by_cases c : P n = true
    · rw [if_pos c, if_pos (h n (by omega) c)]; omega
    · rw [if_neg c]; split <;> omega
theorem cnt_split (P Q : Nat → Bool) (n : Nat) : cnt P n = cnt (fun i => P i && Q i) n + cnt (fun i => P i && !Q i) n := by
  induction n with
  | zero => rfl
  | succ n ih =>
    show cnt P n + (if P n = true then 1 else 0) = cnt (fun i => P i && Q i) n + (if (P n && Q n) = true then 1 else 0) + (cnt (fun i => P i && !Q i) n + (if (P n && !Q n) = true then 1 else 0))
    rw [ih]
    cases P n <;> cases Q n <;> simp <;> omega
theorem cnt_del {Y : Nat → Bool} {b y : Nat} (hy : y < b) (h : Y y = true) : cnt Y b = cnt (fun i => Y i && decide (i ≠ y)) b + 1 := by
  rw [cnt_split Y (fun i => decide (i ≠ y)) b]
  congr 1
  have : ∀ b, y < b → cnt (fun i => Y i && !decide (i ≠ y)) b = 1 := by
    intro b
    induction b with
    | zero => intro h; omega
    | succ b ih =>
      intro hb
      show cnt _ b + (if (Y b && !decide (b ≠ y)) = true then 1 else 0) = 1
      by_cases e : b = y
      · subst e
        have z : cnt (fun i => Y i && !decide (i ≠ b)) b = 0 := by
          have := cnt_mono (P := fun i => Y i && !decide (i ≠ b)) (Q := fun _ => false) (n := b) (fun i hi hp => by simp at hp; omega)
          have z0 : ∀ n, cnt (fun _ => false) n = 0 := fun n => by induction n with
            | zero => rfl
            | succ n ih => show cnt _ n + 0 = 0; rw [ih]
          rw [z0] at this
          omega
        rw [z]
        simp [h]
      · rw [ih (by omega)]
        simp [e]
  exact this b hy
theorem cnt_inj (f : Nat → Nat) (Y : Nat → Bool) (b : Nat) : ∀ (a : Nat) (X : Nat → Bool) (Y : Nat → Bool), (∀ i, i < a → X i = true → f i < b ∧ Y (f i) = true) → (∀ i j, i < a → j < a → X i = true → X j = true → f i = f j → i = j) → cnt X a ≤ cnt Y b := by
  intro a
  induction a with
  | zero => intro X Y _ _; exact Nat.zero_le _
  | succ a ih =>
    intro X Y h1 h2
    show cnt X a + (if X a = true then 1 else 0) ≤ _
    by_cases c : X a = true
    · rw [if_pos c]
      obtain ⟨q1, q2⟩ := h1 a (by omega) c
      rw [cnt_del q1 q2]
      refine Nat.succ_le_succ (ih X _ (fun i hi hx => ?_) (fun i j hi hj => h2 i j (by omega) (by omega)))
      obtain ⟨r1, r2⟩ := h1 i (by omega) hx
      refine ⟨r1, ?_⟩
      rw [r2, Bool.true_and, decide_eq_true_eq]
      intro e
      have := h2 i a (by omega) (by omega) hx c e
      omega
    · rw [if_neg c]
      exact ih X Y (fun i hi => h1 i (by omega)) (fun i j hi hj => h2 i j (by omega) (by omega))
/-- how many from m on -/
def cntF (X : Nat → Bool) (m N : Nat) : Nat := cnt (fun n => decide (m ≤ n) && X n) N
theorem cntF_0 (X : Nat → Bool) (N : Nat) : cntF X 0 N = cnt X N := cnt_congr (fun i _ => by simp)
theorem cntF_s {X : Nat → Bool} {m N : Nat} (h : m ≤ N) : cntF X m (N + 1) = cntF X m N + if X N = true then 1 else 0 := by
  unfold cntF
  show cnt _ N + _ = _
  simp [h]
theorem cntF_e (X : Nat → Bool) (N : Nat) : cntF X N N = 0 := by
  have : ∀ n, n ≤ N → cnt (fun i => decide (N ≤ i) && X i) n = 0 := by
    intro n
    induction n with
    | zero => intro _; rfl
    | succ n ih => intro h; show cnt _ n + _ = 0; rw [ih (by omega)]; simp; omega
  exact this N (Nat.le_refl _)
/-- fewer from each place on: a lesser number -/
theorem dom_le : ∀ (N : Nat) (X Y : Nat → Bool), (∀ m, m ≤ N → cntF X m N ≤ cntF Y m N) → bsN X N ≤ bsN Y N := by
  intro N
  induction N with
  | zero => intro X Y _; exact Nat.le_refl _
  | succ N ih =>
    intro X Y h
    have hN := h N (by omega)
    rw [cntF_s (Nat.le_refl _), cntF_s (Nat.le_refl _), cntF_e, cntF_e] at hN
    show bsN X N + (if X N = true then 2 ^ N else 0) ≤ bsN Y N + (if Y N = true then 2 ^ N else 0)
    have lt := bsN_lt X N
    by_cases cx : X N = true
    · by_cases cy : Y N = true
      · rw [if_pos cx, if_pos cy]
        have := ih X Y (fun m hm => by
          have := h m (by omega)
          rw [cntF_s hm, cntF_s hm, if_pos cx, if_pos cy] at this
          omega)
        omega
      · rw [if_pos cx, if_neg cy] at hN; omega
    · by_cases cy : Y N = true
      · rw [if_neg cx, if_pos cy]; omega
      · rw [if_neg cx, if_neg cy]
        have := ih X Y (fun m hm => by
          have := h m (by omega)
          rw [cntF_s hm, cntF_s hm, if_neg cx, if_neg cy] at this
          omega)
        omega
/-- which notes are left over at a beat (P) with hands that can have them (A) -/
def LVs (A : Nat → Nat → Bool) (P : Nat → Bool) (N : Nat) (lf : Nat → Bool) : Prop := (∃ g, MatU A 7 (chL (fun n => P n && !lf n) N) 0 g ∧ ∀ n, n < N → P n = true → lf n = false → g n ≠ -1) ∧ ∀ g, MatU A 7 (chL P N) 0 g → ∀ m, m ≤ N → cntF (fun n => P n && decide (g n ≠ -1)) m N ≤ cntF (fun n => P n && !lf n) m N
theorem mat_sub {A : Nat → Nat → Bool} {H : Nat} {cs cs' : List Nat} {u : Nat} {g : Nat → Int} (h : MatU A H cs u g) (hs : ∀ n ∈ cs', n ∈ cs) : MatU A H cs' u g := ⟨fun n hn => h.1 n (hs n hn), fun n hn n' hn' => h.2 n (hs n hn) n' (hs n' hn')⟩
theorem mat_cut {A : Nat → Nat → Bool} {H : Nat} {cs : List Nat} {u : Nat} {g : Nat → Int} {Q : Nat → Bool} {P : Nat → Bool} {N : Nat} (e : cs = chL (fun n => P n && Q n) N) (h : MatU A H cs u g) : MatU A H (chL P N) u (fun n => if Q n = true then g n else -1) := by
  subst e
  refine ⟨fun n hn => ?_, fun n hn n' hn' h1 h2 => ?_⟩
  · by_cases c : Q n = true
    · simp only [c, if_true]
      exact h.1 n (chL_mem.mpr ⟨(chL_mem.mp hn).1, by rw [(chL_mem.mp hn).2, c]; rfl⟩)
    · left; simp [c]
  · by_cases c : Q n = true
    · simp only [c, if_true] at h1 h2
      by_cases c' : Q n' = true
      · simp only [c', if_true] at h2
        exact h.2 n (chL_mem.mpr ⟨(chL_mem.mp hn).1, by rw [(chL_mem.mp hn).2, c]; rfl⟩) n' (chL_mem.mpr ⟨(chL_mem.mp hn').1, by rw [(chL_mem.mp hn').2, c']; rfl⟩) h1 h2
      · simp [c'] at h2; exact absurd h2 h1
    · simp [c] at h1
/-- how many are left over -/
theorem LV_cnt {A : Nat → Nat → Bool} {P : Nat → Bool} {N : Nat} {lf : Nat → Bool} (far : Nat → Nat → Int) (v : LVs A P N lf) : cnt (fun n => P n && lf n) N + (dpp A far 7 (chL P N) 0).1 = cnt P N := by
  obtain ⟨⟨g, g1, g2⟩, d⟩ := v
  have s := cnt_split P lf N
  obtain ⟨g', h1, h2⟩ := dpp_ex A far 7 (chL P N) 0 (chL_nd P N)
  have d0 := d g' h1 0 (by omega)
  rw [cntF_0, cntF_0, ← msz_cnt, h2] at d0
  have m := mat_cut rfl g1
  have u := dpp_ub A far 7 (chL P N) 0 _ (chL_nd P N) m
  rw [msz_cnt] at u
  have e : cnt (fun n => P n && !lf n) N ≤ cnt (fun n => P n && decide ((if (!lf n) = true then g n else -1) ≠ -1)) N := cnt_mono (fun i hi hp => by
    have hp : P i = true ∧ lf i = false := by simpa using hp
    have := g2 i hi hp.1 hp.2
    simp [hp.1, hp.2, this])
  omega
theorem mat_all {A : Nat → Nat → Bool} (far : Nat → Nat → Int) {P : Nat → Bool} {N : Nat} : (dpp A far 7 (chL P N) 0).1 = cnt P N ↔ ∃ g, MatU A 7 (chL P N) 0 g ∧ ∀ n, n < N → P n = true → g n ≠ -1 := by
  constructor
  · intro h
    obtain ⟨g, g1, g2⟩ := dpp_ex A far 7 (chL P N) 0 (chL_nd P N)
    refine ⟨g, g1, ?_⟩
    rw [h, msz_cnt] at g2
    have s := cnt_split P (fun n => decide (g n ≠ -1)) N
    intro n hn hp hg
    have z : cnt (fun n => P n && !decide (g n ≠ -1)) N = 0 := by omega
    have := cnt_del (Y := fun n => P n && !decide (g n ≠ -1)) hn (by simp [hp, hg])
    omega
  · rintro ⟨g, g1, g2⟩
    have u := dpp_ub A far 7 (chL P N) 0 g (chL_nd P N) g1
    rw [msz_cnt] at u
    have e : cnt P N ≤ cnt (fun n => P n && decide (g n ≠ -1)) N := cnt_mono (fun i hi hp => by simp [hp, g2 i hi hp])
    have b := (dpp_b A (fun _ _ => 0) 7 (chL P N) 0 (fun _ _ _ _ => ⟨by omega, by omega⟩)).1
    obtain ⟨g', h1, h2⟩ := dpp_ex A far 7 (chL P N) 0 (chL_nd P N)
    rw [msz_cnt] at h2
    have : cnt (fun n => P n && decide (g' n ≠ -1)) N ≤ cnt P N := cnt_mono (fun i hi hp => by simp at hp; exact hp.1)
    omega
/-- the set that is left is the fewest and the least -/
theorem LV_min {A : Nat → Nat → Bool} {P : Nat → Bool} {N : Nat} {lf : Nat → Bool} (v : LVs A P N lf) {Q : Nat → Bool} (hq : ∃ g, MatU A 7 (chL (fun n => P n && !Q n) N) 0 g ∧ ∀ n, n < N → P n = true → Q n = false → g n ≠ -1) : cnt (fun n => P n && lf n) N ≤ cnt (fun n => P n && Q n) N ∧ bsN (fun n => P n && lf n) N ≤ bsN (fun n => P n && Q n) N := by
  obtain ⟨g, g1, g2⟩ := hq
  have m := mat_cut rfl g1
  have dm : ∀ k, k ≤ N → cntF (fun n => P n && lf n) k N ≤ cntF (fun n => P n && Q n) k N := by
    intro k hk
    have d := v.2 _ m k hk
    simp only [cntF] at d ⊢
    have s1 := cnt_split (fun n => decide (k ≤ n) && P n) lf N
    have s2 := cnt_split (fun n => decide (k ≤ n) && P n) Q N
    have e : cnt (fun n => decide (k ≤ n) && P n && !Q n) N ≤ cnt (fun n => decide (k ≤ n) && (P n && decide ((if (!Q n) = true then g n else -1) ≠ -1))) N := cnt_mono (fun i hi hp => by
      have hp : (k ≤ i ∧ P i = true) ∧ Q i = false := by simpa using hp
      have := g2 i hi hp.1.2 hp.2
      simp [hp.1.1, hp.1.2, hp.2, this])
    have e1 : cnt (fun n => decide (k ≤ n) && (P n && !lf n)) N = cnt (fun n => decide (k ≤ n) && P n && !lf n) N := cnt_congr (fun i _ => by rw [Bool.and_assoc])
    have e2 : cnt (fun n => decide (k ≤ n) && (P n && lf n)) N = cnt (fun n => decide (k ≤ n) && P n && lf n) N := cnt_congr (fun i _ => by rw [Bool.and_assoc])
    have e3 : cnt (fun n => decide (k ≤ n) && (P n && Q n)) N = cnt (fun n => decide (k ≤ n) && P n && Q n) N := cnt_congr (fun i _ => by rw [Bool.and_assoc])
    omega
  have d0 := dm 0 (by omega)
  rw [cntF_0, cntF_0] at d0
  exact ⟨d0, dom_le N _ _ dm⟩
