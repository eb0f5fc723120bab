/-! THE WAY, PURELY: what its parts have to do with each other; a turn of a memory. -/
def sumI (f : Nat → Int) : Nat → Int
  | 0 => 0
  | n + 1 => sumI f n + f n
theorem sumI_congr {f g : Nat → Int} {n : Nat} (h : ∀ i, i < n → f i = g i) : sumI f n = sumI g n := by
  induction n with
  | zero => rfl
  | succ n ih => show sumI f n + f n = sumI g n + g n; rw [ih (fun i hi => h i (by omega)), h n (by omega)]
theorem sumI_upd {f g : Nat → Int} {n x : Nat} (hx : x < n) (h : ∀ i, i < n → i ≠ x → g i = f i) : sumI g n = sumI f n - f x + g x := by
  induction n with
  | zero => omega
  | succ n ih =>
    show sumI g n + g n = sumI f n + f n - f x + g x
    by_cases e : x = n
    · subst e
      rw [sumI_congr (fun i hi => h i (by omega) (by omega))]
      omega
    · rw [ih (by omega) (fun i hi => h i (by omega)), h n (by omega) (by omega)]
      omega
def WKI (far : Nat → Nat → Int) (H : Nat) (D : Nat → Prop) (s : WS) : Prop := (∀ n, s.2.1 n = -1 ∨ ∃ x : Nat, s.2.1 n = (x : Int) ∧ x < H ∧ D n ∧ s.2.2.1 x = (n : Int)) ∧ (∀ x, s.2.2.1 x = -1 ∨ ∃ n : Nat, s.2.2.1 x = (n : Int) ∧ D n ∧ x < H ∧ s.2.1 n = (x : Int)) ∧ (∀ x, s.1.testBit x = false → s.2.2.1 x = -1) ∧ (∀ n, s.2.2.2.1.testBit n = true ↔ D n ∧ s.2.1 n = -1) ∧ s.2.2.2.2 = sumI (fun x => if s.2.2.1 x = -1 then 0 else far (s.2.2.1 x).toNat x) H
theorem wk1_inv {can : Nat → Nat → Bool} {far : Nat → Nat → Int} {H n : Nat} {cs : List Nat} {D : Nat → Prop} {s : WS} (hn : ¬ D n) (K : WKI far H D s) : WKI far H (fun m => D m ∨ m = n) (wk1 can far H n cs s) := by
  obtain ⟨u, ho, no, lf, ds⟩ := s
  obtain ⟨k1, k2, k3, k4, k5⟩ := K
  simp only at k1 k2 k3 k4 k5
  have hon : ho n = -1 := by
    rcases k1 n with q | ⟨x, -, -, q, -⟩
    · exact q
    · exact absurd q hn
  rcases sel_v can far H n cs u with e | ⟨x, x1, x2, x3, e⟩
  · have ew : wk1 can far H n cs (u, ho, no, lf, ds) = (u, ho, no, lf ||| 2 ^ n, ds) := by unfold wk1; rw [if_pos e]
    rw [ew]
    refine ⟨fun m => ?_, fun y => ?_, k3, fun m => ?_, k5⟩
    · rcases k1 m with q | ⟨y, q1, q2, q3, q4⟩
      · exact Or.inl q
      · exact Or.inr ⟨y, q1, q2, Or.inl q3, q4⟩
    · rcases k2 y with q | ⟨m, q1, q2, q3, q4⟩
      · exact Or.inl q
      · exact Or.inr ⟨m, q1, Or.inl q2, q3, q4⟩
    · simp only
      rw [tb_or, Bool.or_eq_true, k4 m]
      constructor
      · rintro (q | q)
        · exact ⟨Or.inl q.1, q.2⟩
        · have : n = m := by simpa using q
          subst this
          exact ⟨Or.inr rfl, hon⟩
      · rintro ⟨q | q, r⟩
        · exact Or.inl ⟨q, r⟩
        · right; simp [q]
  · have ew : wk1 can far H n cs (u, ho, no, lf, ds) = (u ||| 2 ^ x, upM ho n (x : Int), upM no x (n : Int), lf, ds + far n x) := by
      unfold wk1
      simp only
      rw [e, if_neg (by omega), tn]
    rw [ew]
    have nox := k3 x x3
    refine ⟨fun m => ?_, fun y => ?_, fun y hy => ?_, fun m => ?_, ?_⟩
    · simp only
      by_cases em : m = n
      · subst em; right; exact ⟨x, up_eq _ _ _, x1, Or.inr rfl, up_eq _ _ _⟩
      · rw [up_ne em]
        rcases k1 m with q | ⟨y, q1, q2, q3, q4⟩
        · exact Or.inl q
        · have : y ≠ x := fun z => by rw [z, nox] at q4; omega
          exact Or.inr ⟨y, q1, q2, Or.inl q3, by rw [up_ne this]; exact q4⟩
    · simp only
      by_cases ey : y = x
      · subst ey; right; exact ⟨n, up_eq _ _ _, Or.inr rfl, x1, up_eq _ _ _⟩
      · rw [up_ne ey]
        rcases k2 y with q | ⟨m, q1, q2, q3, q4⟩
        · exact Or.inl q
        · have : m ≠ n := fun z => hn (z ▸ q2)
          exact Or.inr ⟨m, q1, Or.inl q2, q3, by rw [up_ne this]; exact q4⟩
    · simp only at hy ⊢
      rw [tb_or, Bool.or_eq_false_iff, decide_eq_false_iff_not] at hy
      rw [up_ne (fun z => hy.2 z.symm)]
      exact k3 y hy.1
    · simp only
      rw [k4 m]
      by_cases em : m = n
      · subst em
        rw [up_eq]
        constructor
        · intro q; exact absurd q.1 hn
        · intro q; omega
      · rw [up_ne em]
        constructor
        · intro q; exact ⟨Or.inl q.1, q.2⟩
        · rintro ⟨q | q, r⟩
          · exact ⟨q, r⟩
          · exact absurd q em
    · simp only
      rw [sumI_upd (f := fun x => if no x = -1 then 0 else far (no x).toNat x) (x := x) x1 (fun i hi hne => by simp only [up_ne hne]), ← k5]
      simp only [up_eq, nox, if_true]
      rw [if_neg (by omega), tn]
      omega
theorem wkL_inv {can : Nat → Nat → Bool} {far : Nat → Nat → Int} {H : Nat} : ∀ (cs : List Nat) (D : Nat → Prop) (s : WS), cs.Nodup → (∀ n ∈ cs, ¬ D n) → WKI far H D s → WKI far H (fun m => D m ∨ m ∈ cs) (wkL can far H cs s) := by
  intro cs
  induction cs with
  | nil =>
    intro D s _ _ K
    have : (fun m => D m ∨ m ∈ ([] : List Nat)) = D := by funext m; simp
    rw [this]; exact K
  | cons n cs ih =>
    intro D s hd hn K
    obtain ⟨h1, h2⟩ := List.nodup_cons.mp hd
    have := ih (fun m => D m ∨ m = n) (wk1 can far H n cs s) h2 (fun m hm => by
      rintro (q | q)
      · exact hn m (List.mem_cons_of_mem _ hm) q
      · exact h1 (q ▸ hm)) (wk1_inv (hn n List.mem_cons_self) K)
    have e : (fun m => (D m ∨ m = n) ∨ m ∈ cs) = fun m => D m ∨ m ∈ n :: cs := by funext m; rw [List.mem_cons]; exact propext or_assoc
    rw [e] at this
    exact this
theorem way_inv (M : Nat → Int) (L : List LN) (H N : Nat) (b : Int) : WKI (farM M H (-1)) H (fun n => n < N ∧ atB M b n = true) (wayW M L H N b) := by
  have k0 : WKI (farM M H (-1)) H (fun _ => False) wk0 := ⟨fun n => Or.inl rfl, fun x => Or.inl rfl, fun x _ => rfl, fun n => by simp [wk0], by
    have : ∀ n, sumI (fun x => if wk0.2.2.1 x = -1 then 0 else farM M H (-1) (wk0.2.2.1 x).toNat x) n = 0 := by
      intro n
      induction n with
      | zero => rfl
      | succ n ih => show sumI _ n + _ = 0; rw [ih]; simp [wk0]
    rw [this]; rfl⟩
  have := wkL_inv (can := abM M L) (chL (atB M b) N) _ _ (chL_nd _ _) (fun n _ h => h) k0
  have e : (fun m => False ∨ m ∈ chL (atB M b) N) = fun n => n < N ∧ atB M b n = true := by funext m; rw [chL_mem]; simp
  rw [e] at this
  exact this
def lfP (M : Nat → Int) (L : List LN) (H N : Nat) (b : Int) (n : Nat) : Bool := atB M b n && decide ((wayW M L H N b).2.1 n = -1)
theorem way_left (M : Nat → Int) (L : List LN) (H N : Nat) (b : Int) : (wayW M L H N b).2.2.2.1 = bsN (lfP M L H N b) N := by
  have k := (way_inv M L H N b).2.2.2.1
  apply Nat.eq_of_testBit_eq
  intro n
  rw [bsN_bit]
  unfold lfP
  have := k n
  cases c : (wayW M L H N b).2.2.2.1.testBit n with
  | true =>
    obtain ⟨⟨h1, h2⟩, h3⟩ := this.mp c
    simp [h1, h2, h3]
  | false =>
    symm
    rw [Bool.eq_false_iff]
    intro z
    rw [Bool.and_eq_true, Bool.and_eq_true, decide_eq_true_eq, decide_eq_true_eq] at z
    rw [this.mpr ⟨⟨z.1, z.2.1⟩, z.2.2⟩] at c
    cases c
/-! a turn -/
def nxS (s : Int) : Int := w32 (w32 (1103515245 * s) + 12345)
def slV (s : Int) : Int := irem (iand (iushr (nxS s) 16) 32767) 100
def kdH (dr : Bool) (m : Nat → Int) : Nat := if dr = true ∧ slV (m 13) < m 7 then 1 else 0
def hlM (n x : Nat) (dr : Bool) (m : Nat → Int) : Nat → Int := upM (upM (logM (if dr = true then upM m 13 (nxS (m 13)) else m) (n : Int) (x : Int) (kdH dr m)) (14 + 6 * x + 1) (m (50 + 4 * n + 1))) (14 + 6 * x + 4) (min 99 (m (14 + 6 * x + 4) + m (50 + 4 * n + 2) + 1))
def esM (x : Nat) (m : Nat → Int) : Nat → Int := upM m (14 + 6 * x + 4) (max 0 (m (14 + 6 * x + 4) - 1))
def lvM (n : Nat) (t : Bool) (m : Nat → Int) : Nat → Int := logM m (n : Int) (-1) (if t = true then 2 else 3)
def pbM (m : Nat → Int) : Nat → Int := if m 5 + 1 = 12 then upM (upM m 5 0) 6 (min 9999 (m 6 + 1)) else upM m 5 (m 5 + 1)
def p1M (w : WS) (dr : Bool) (n : Nat) (m : Nat → Int) : Nat → Int := if w.2.1 n = -1 then m else hlM n (w.2.1 n).toNat dr m
def p2M (w : WS) (x : Nat) (m : Nat → Int) : Nat → Int := if w.2.2.1 x = -1 then esM x m else m
def p3M (P T : Nat → Bool) (n : Nat) (m : Nat → Int) : Nat → Int := if P n = true then lvM n (T n) m else m
def plM (M : Nat → Int) (L : List LN) (H N : Nat) (dr : Bool) : Nat → Int := pbM (itr (p3M (lfP M L H N (M 5)) (fun n => takB M L n (M (50 + 4 * n)))) (itr (p2M (wayW M L H N (M 5))) (itr (p1M (wayW M L H N (M 5)) dr) M N) H) N)
theorem hl_ok {m : Nat → Int} {H N n x : Nat} {dr : Bool} (hn : n < N) (hx : x < H) (G : GM m H N) : GM (hlM n x dr m) H N ∧ KP m (hlM n x dr m) := by
  have hH := G.1.2.1
  have hk : kdH dr m < 4 := by unfold kdH; split <;> omega
  have gn := G.2.1.2.2.1 n hn
  have gx := G.1.2.2 x hx
  unfold hlM
  have g1 : GM (if dr = true then upM m 13 (nxS (m 13)) else m) H N := by split; exact GM_sd G; exact G
  have k1 : KP m (if dr = true then upM m 13 (nxS (m 13)) else m) := by split; exact KP_sd; exact KP_r m
  exact ⟨GM_ti hx (by omega) (GM_at hx gn.2.1 (GM_log hk g1)), KP_t k1 (KP_t (KP_log hk) (KP_t (KP_at (by omega)) (KP_ti (by omega))))⟩
theorem es_ok {m : Nat → Int} {H N x : Nat} (hx : x < H) (G : GM m H N) : GM (esM x m) H N ∧ KP m (esM x m) := by
  have hH := G.1.2.1
  have gx := G.1.2.2 x hx
  exact ⟨GM_ti hx (by omega) G, KP_ti (by omega)⟩
theorem lv_ok {m : Nat → Int} {H N n : Nat} {t : Bool} (G : GM m H N) : GM (lvM n t m) H N ∧ KP m (lvM n t m) := by
  unfold lvM
  have hk : (if t = true then 2 else 3) < 4 := by split <;> omega
  exact ⟨GM_log hk G, KP_log hk⟩
theorem itr_ok {M : Nat → Int} {H N : Nat} {f : Nat → (Nat → Int) → (Nat → Int)} {K : Nat} (hf : ∀ i m, i < K → GM m H N → GM (f i m) H N ∧ KP m (f i m)) (G : GM M H N) : ∀ i, i ≤ K → GM (itr f M i) H N ∧ KP M (itr f M i) := by
  intro i
  induction i with
  | zero => intro _; exact ⟨G, KP_r M⟩
  | succ i ih =>
    intro hi
    obtain ⟨a, b⟩ := ih (by omega)
    obtain ⟨c, d⟩ := hf i _ (by omega) a
    exact ⟨c, KP_t b d⟩
theorem p1_ok {M : Nat → Int} {L : List LN} {H N : Nat} {b : Int} {dr : Bool} : ∀ i m, i < N → GM m H N → GM (p1M (wayW M L H N b) dr i m) H N ∧ KP m (p1M (wayW M L H N b) dr i m) := by
  intro i m hi G
  unfold p1M
  split
  · exact ⟨G, KP_r m⟩
  · rcases (way_inv M L H N b).1 i with q | ⟨x, q1, q2, q3, q4⟩
    · contradiction
    · rw [q1, tn]; exact hl_ok hi q2 G
theorem p2_ok {M : Nat → Int} {L : List LN} {H N : Nat} {b : Int} : ∀ x m, x < H → GM m H N → GM (p2M (wayW M L H N b) x m) H N ∧ KP m (p2M (wayW M L H N b) x m) := by
  intro x m hx G
  unfold p2M
  split
  · exact es_ok hx G
  · exact ⟨G, KP_r m⟩
theorem p3_ok {H N : Nat} {P T : Nat → Bool} : ∀ i m, i < N → GM m H N → GM (p3M P T i m) H N ∧ KP m (p3M P T i m) := by
  intro i m hi G
  unfold p3M
  split
  · exact lv_ok G
  · exact ⟨G, KP_r m⟩
theorem pb_ok {m : Nat → Int} {H N : Nat} (G : GM m H N) : GM (pbM m) H N := by
  have hH := G.1.2.1
  obtain ⟨c1, c2, c3, c4, c5⟩ := G.2.2
  have hh : ∀ (m' : Nat → Int), (∀ j, 14 ≤ j → m' j = m j) → ∀ i, i < H → m' (14 + 6 * i) = m (14 + 6 * i) ∧ (0 ≤ m' (14 + 6 * i + 1) ∧ m' (14 + 6 * i + 1) ≤ 63) ∧ m' (14 + 6 * i + 2) = m (14 + 6 * i + 2) ∧ m' (14 + 6 * i + 3) = m (14 + 6 * i + 3) ∧ (0 ≤ m' (14 + 6 * i + 4) ∧ m' (14 + 6 * i + 4) ≤ 99) ∧ m' (14 + 6 * i + 5) = m (14 + 6 * i + 5) := by
    intro m' e i hi
    have := G.1.2.2 i hi
    exact ⟨e _ (by omega), by rw [e _ (by omega)]; exact this.2.1, e _ (by omega), e _ (by omega), by rw [e _ (by omega)]; exact this.2.2.2.2.1, e _ (by omega)⟩
  unfold pbM
  split
  · refine GM_ch (fun j h1 h2 => by rw [up_ne (by omega), up_ne (by omega)]) (by rw [up_ne (by omega), up_ne (by omega)]) (by rw [up_ne (by omega), up_ne (by omega)]) (hh _ (fun j hj => by rw [up_ne (by omega), up_ne (by omega)])) ⟨by rw [up_ne (by omega), up_ne (by omega)]; exact c1, by rw [up_ne (by omega), up_eq]; omega, by rw [up_eq]; omega, by rw [up_ne (by omega), up_ne (by omega)]; exact c4, fun j hj => by rw [up_ne (by omega), up_ne (by omega)]; exact c5 j hj⟩ G
  · refine GM_ch (fun j h1 h2 => up_ne (by omega)) (up_ne (by omega)) (up_ne (by omega)) (hh _ (fun j hj => up_ne (by omega))) ⟨by rw [up_ne (by omega)]; exact c1, by rw [up_eq]; omega, by rw [up_ne (by omega)]; exact c3, by rw [up_ne (by omega)]; exact c4, fun j hj => by rw [up_ne (by omega)]; exact c5 j hj⟩ G
theorem pl_ok {M : Nat → Int} {L : List LN} {H N : Nat} {dr : Bool} (G : GM M H N) : GM (plM M L H N dr) H N ∧ (∀ j, 346 ≤ j → plM M L H N dr j = M j) ∧ plM M L H N dr 1 = M 1 ∧ plM M L H N dr 2 = M 2 := by
  obtain ⟨a1, k1⟩ := itr_ok (f := p1M (wayW M L H N (M 5)) dr) (K := N) p1_ok G N (Nat.le_refl _)
  obtain ⟨a2, k2⟩ := itr_ok (f := p2M (wayW M L H N (M 5))) (K := H) p2_ok a1 H (Nat.le_refl _)
  obtain ⟨a3, k3⟩ := itr_ok (f := p3M (lfP M L H N (M 5)) (fun n => takB M L n (M (50 + 4 * n)))) (K := N) p3_ok a2 N (Nat.le_refl _)
  have k := KP_t k1 (KP_t k2 k3)
  have pj : ∀ (m : Nat → Int) j, j ≠ 5 → j ≠ 6 → pbM m j = m j := by
    intro m j h1 h2
    unfold pbM
    split
    · rw [up_ne h2, up_ne h1]
    · rw [up_ne h1]
  refine ⟨pb_ok a3, fun j hj => ?_, ?_, ?_⟩
  · unfold plM; rw [pj _ _ (by omega) (by omega)]; exact k.2.2.1 j hj
  · unfold plM; rw [pj _ _ (by omega) (by omega)]; exact k.1 1 (by omega)
  · unfold plM; rw [pj _ _ (by omega) (by omega)]; exact k.1 2 (by omega)
theorem takB_kp {M m : Nat → Int} {L : List LN} {n : Nat} (hn : n < 14) (k : KP M m) : takB m L n (m (50 + 4 * n)) = takB M L n (M (50 + 4 * n)) := by
  unfold takB nmT
  rw [k.2.1 (50 + 4 * n) (by omega) (by omega), k.2.1 (50 + 4 * n + 1) (by omega) (by omega), k.2.1 (50 + 4 * n + 2) (by omega) (by omega), k.1 6 (by omega)]
