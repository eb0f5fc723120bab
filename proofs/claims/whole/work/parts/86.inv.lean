/-! WHAT HOLDS BETWEEN TWO CALLS. -/
def csc (tt k : Nat) : Prop := (k = 0 ∧ ((101 ≤ tt ∧ tt ≤ 103) ∨ tt = 107 ∨ tt = 108 ∨ tt = 111 ∨ tt = 112 ∨ (117 ≤ tt ∧ tt ≤ 120) ∨ (150 ≤ tt ∧ tt ≤ 155) ∨ (159 ≤ tt ∧ tt ≤ 168) ∨ tt = 182 ∨ tt = 183)) ∨ (k = 1 ∧ stTag tt) ∨ (k = 2 ∧ 104 ≤ tt ∧ tt ≤ 113)
def rsc (tt k : Nat) : Prop := k = 0 ∧ (tt = 186 ∨ tt = 190 ∨ (195 ≤ tt ∧ tt ≤ 197) ∨ (199 ≤ tt ∧ tt ≤ 205) ∨ (207 ≤ tt ∧ tt ≤ 213))
def scr (tt k : Nat) : Prop := csc tt k ∨ rsc tt k ∨ (tt = 25 ∧ k = 0)
/-- the heaps are alike but for what a call may leave behind -/
def Sm (S : Nat → Nat → Prop) (h h' : Hp) : Prop := ∀ tt k j, ¬ S tt k → h' tt k j = h tt k j
theorem Sm_r (S : Nat → Nat → Prop) (h : Hp) : Sm S h h := fun _ _ _ _ => rfl
theorem Sm_t {S : Nat → Nat → Prop} {a b c : Hp} (x : Sm S a b) (y : Sm S b c) : Sm S a c := fun tt k j hf => by rw [y tt k j hf, x tt k j hf]
theorem Sm_w {S T : Nat → Nat → Prop} {a b : Hp} (hs : ∀ tt k, S tt k → T tt k) (x : Sm S a b) : Sm T a b := fun tt k j hf => x tt k j (fun z => hf (hs tt k z))
def LawR (h : Hp) (k : Nat) (M : Nat → Int) : Prop := ∃ L, LawW h k L ∧ LM M L ∧ h 113 k 0 = M 1
def TapeR (h : Hp) : Prop := ∃ e : Nat, e ≤ 400 ∧ h 149 0 0 = (e : Int) ∧ h 194 0 0 = (e : Int) ∧ ∀ j, j < 400 → h 193 0 j = h 148 0 j ∧ 0 ≤ h 148 0 j ∧ h 148 0 j ≤ 255
def ImgR (h : Hp) : Prop := h 185 0 0 = h 189 0 0 ∧ (h 185 0 0 = 0 ∨ (h 185 0 0 = 1 ∧ ∃ H N, RS h 2 (h 188 0) H N ∧ GM (h 188 0) H N ∧ LawR h 1 (h 188 0)))
/-- an act's memory -/
def actM (h : Hp) (a : Nat) : Nat → Int := fun j => if j < 346 then h 191 0 (346 * a + j) else h 187 0 j
def PastR (h : Hp) : Prop := ∃ S nw : Nat, h 126 0 0 = (S : Int) ∧ h 192 0 0 = (S : Int) ∧ S ≤ 12 ∧ h 125 0 0 = (nw : Int) ∧ nw < 12 ∧ ∀ a, a < S → ∃ H N, RS h (3 + (nw + 12 - a) % 12) (actM h (S - 1 - a)) H N ∧ GM (actM h (S - 1 - a)) H N ∧ actM h (S - 1 - a) 1 = h 187 0 1 ∧ actM h (S - 1 - a) 2 = h 187 0 2
def INV (h : Hp) (H N : Nat) : Prop := (RS h 0 (h 187 0) H N ∧ GM (h 187 0) H N ∧ LawR h 0 (h 187 0)) ∧ TapeR h ∧ ImgR h ∧ PastR h ∧ h 184 0 0 = h 198 0 0 ∧ h 206 0 0 = -1
theorem LawW_e {h h' : Hp} {k : Nat} {L : List LN} (e : ∀ tt j, (104 ≤ tt ∧ tt ≤ 106) ∨ tt = 109 ∨ tt = 110 → h' tt k j = h tt k j) (W : LawW h k L) : LawW h' k L := by
  obtain ⟨W1, W2, W3, W4, W5⟩ := W
  refine ⟨by rw [e _ _ (by omega)]; exact W1, by rw [e _ _ (by omega)]; exact W2, fun i hi => ?_, fun i hi => by rw [e _ _ (by omega)]; exact W4 i hi, W5⟩
  rw [e _ _ (by omega), e _ _ (by omega)]; exact W3 i hi
theorem LawR_e {h h' : Hp} {k : Nat} {M M' : Nat → Int} (e : ∀ tt j, (104 ≤ tt ∧ tt ≤ 106) ∨ tt = 109 ∨ tt = 110 ∨ tt = 113 → h' tt k j = h tt k j) (m : ∀ j, j = 1 ∨ j = 2 ∨ 346 ≤ j → M' j = M j) (R : LawR h k M) : LawR h' k M' := by
  obtain ⟨L, W, hL, h3⟩ := R
  refine ⟨L, LawW_e (fun tt j ht => e tt j (by omega)) W, ?_, by rw [e _ _ (by omega), m 1 (by omega)]; exact h3⟩
  unfold LM at hL ⊢
  rw [m 1 (by omega), m 2 (by omega), show (fun i => M' (346 + i)) = fun i => M (346 + i) from funext (fun i => m _ (by omega))]
  exact hL
theorem RS_e {h h' : Hp} {k : Nat} {M : Nat → Int} {H N : Nat} (e : ∀ t i, stTag t → h' t k i = h t k i) (R : RS h k M H N) : RS h' k M H N := RS_same (fun t ht => funext (fun i => e t i ht)) R
theorem INV_scr {h h' : Hp} {H N : Nat} (e : Sm scr h h') (I : INV h H N) : INV h' H N := by
  obtain ⟨⟨r1, r2, r3⟩, ⟨en, t1, t2, t3, t4⟩, ⟨i1, i2⟩, ⟨S, nw, p1, p2, p3, p4, p5, p6⟩, f, ad⟩ := I
  have st : ∀ k, k ≠ 1 → ∀ t i, stTag t → h' t k i = h t k i := fun k hk t i ht => e t k i (by unfold stTag at ht; unfold scr csc rsc stTag; omega)
  have hi : ∀ tt k j, tt = 148 ∨ tt = 149 ∨ (125 ≤ tt ∧ tt ≤ 126) ∨ tt = 184 ∨ tt = 185 ∨ tt = 187 ∨ tt = 188 ∨ tt = 189 ∨ (191 ≤ tt ∧ tt ≤ 194) ∨ tt = 198 ∨ tt = 206 → k = 0 → h' tt k j = h tt k j := fun tt k j ht hk => e tt k j (by unfold scr csc rsc stTag; omega)
  have m7 : h' 187 0 = h 187 0 := funext (fun j => hi _ _ _ (by omega) rfl)
  have m8 : h' 188 0 = h 188 0 := funext (fun j => hi _ _ _ (by omega) rfl)
  have lw : ∀ k, k ≠ 2 → ∀ tt j, (104 ≤ tt ∧ tt ≤ 106) ∨ tt = 109 ∨ tt = 110 ∨ tt = 113 → h' tt k j = h tt k j := fun k hk tt j ht => e tt k j (by unfold scr csc rsc stTag; omega)
  have am : ∀ a, actM h' a = actM h a := fun a => funext (fun j => by unfold actM; rw [m7, hi 191 0 _ (by omega) rfl])
  refine ⟨⟨by rw [m7]; exact RS_e (st 0 (by omega)) r1, by rw [m7]; exact r2, by rw [m7]; exact LawR_e (lw 0 (by omega)) (fun _ _ => rfl) r3⟩, ⟨en, t1, by rw [hi _ _ _ (by omega) rfl]; exact t2, by rw [hi _ _ _ (by omega) rfl]; exact t3, fun j hj => by rw [hi 193 _ _ (by omega) rfl, hi 148 _ _ (by omega) rfl]; exact t4 j hj⟩, ⟨by rw [hi 185 _ _ (by omega) rfl, hi 189 _ _ (by omega) rfl]; exact i1, ?_⟩, ⟨S, nw, by rw [hi _ _ _ (by omega) rfl]; exact p1, by rw [hi _ _ _ (by omega) rfl]; exact p2, p3, by rw [hi _ _ _ (by omega) rfl]; exact p4, p5, fun a ha => ?_⟩, by rw [hi 184 _ _ (by omega) rfl, hi 198 _ _ (by omega) rfl]; exact f, by rw [hi _ _ _ (by omega) rfl]; exact ad⟩
  · rw [hi 185 _ _ (by omega) rfl, m8]
    rcases i2 with z | ⟨z1, H', N', z2, z3, z4⟩
    · exact Or.inl z
    · exact Or.inr ⟨z1, H', N', RS_e (st 2 (by omega)) z2, z3, LawR_e (lw 1 (by omega)) (fun _ _ => rfl) z4⟩
  · obtain ⟨H', N', q1, q2, q3⟩ := p6 a ha
    rw [am, m7]
    exact ⟨H', N', RS_e (st _ (by omega)) q1, q2, q3⟩
theorem INV_law {h : Hp} {H N : Nat} (I : INV h H N) : ∃ L, LawW h 0 L ∧ LM (h 187 0) L ∧ (∀ x ∈ L, LnG x) ∧ L.length ≤ 12 := by
  obtain ⟨L, W, hL, -⟩ := I.1.2.2
  exact ⟨L, W, hL, W.2.2.2.2.2.2, W.2.2.2.2.1⟩
theorem RL_GL {h : Hp} {k : Nat} {M : Nat → Int} (R : RL h k M) : GL M := by
  obtain ⟨nw, S, -, -, -, d4, d5, -⟩ := R
  unfold GL
  omega
/-! what is to be shown of a call: both answer alike -/
/-- without exceptions: the answers are v and w, equal -/
def AGp (C R : Hp → Option Rs) (h : Hp) : Prop := ∃ (v : Int) (h1 h2 : Hp), C h = ri v h1 ∧ R h1 = ri v h2 ∧ (∃ H N, INV h2 H N) ∧ (∀ j, h2 22 0 j = h 22 0 j) ∧ h2 27 0 0 = h 27 0 0
/-- the class answers v, the reference too, and has thrown nothing; or both throw (e is the exception, k its number) -/
def AGt (T : Nat → Nat) (C R : Hp → Option Rs) (h : Hp) : Prop := (∃ (v : Int) (h1 : Hp), C h = ri v h1 ∧ ∃ h2 : Hp, R (hset h1 25 0 0 v) = ri v h2 ∧ h2 186 0 0 = 0 ∧ h2 25 0 0 = v ∧ (∃ H N, INV h2 H N) ∧ (∀ j, h2 22 0 j = h 22 0 j) ∧ h2 27 0 0 = h 27 0 0) ∨ ∃ (e : Nat) (h1 : Hp), C h = th e h1 ∧ 0 < T e ∧ ∃ (b : Int) (h2 : Hp), R h1 = ri b h2 ∧ h2 186 0 0 = (T e : Int) ∧ (∃ H N, INV h2 H N) ∧ (∀ j, h2 22 0 j = h 22 0 j) ∧ h2 27 0 0 = h 27 0 0
theorem scr_c {tt k : Nat} (h : csc tt k) : scr tt k := Or.inl h
theorem scr_m {tt k : Nat} (h : rsc tt k) : scr tt k := Or.inr (Or.inl h)
theorem scr_25 {h : Hp} (v : Int) : Sm scr h (hset h 25 0 0 v) := fun tt k j hf => hs_o (fun z => hf (Or.inr (Or.inr ⟨z.1, z.2.1⟩)))
/-- a question that never throws -/
theorem AGp_q {C R : Hp → Option Rs} {h : Hp} {H N : Nat} (I : INV h H N) {v : Int} (c : ∃ h1, C h = ri v h1 ∧ Sm csc h h1) (r : ∀ g, Sm scr h g → INV g H N → ∃ h2, R g = ri v h2 ∧ Sm rsc g h2) : AGp C R h := by
  obtain ⟨h1, c1, c2⟩ := c
  have s1 : Sm scr h h1 := Sm_w (fun _ _ => scr_c) c2
  obtain ⟨h2, r1, r2⟩ := r h1 s1 (INV_scr s1 I)
  have s2 : Sm scr h h2 := Sm_t s1 (Sm_w (fun _ _ => scr_m) r2)
  exact ⟨v, h1, h2, c1, r1, ⟨H, N, INV_scr s2 I⟩, fun j => s2 _ _ _ (by unfold scr csc rsc stTag; omega), s2 _ _ _ (by unfold scr csc rsc stTag; omega)⟩
theorem AGt_q {T : Nat → Nat} {C R : Hp → Option Rs} {h : Hp} {H N : Nat} (I : INV h H N) {v : Int} (c : ∃ h1, C h = ri v h1 ∧ Sm csc h h1) (r : ∀ g, Sm scr h g → INV g H N → ∃ h2, R g = ri v h2 ∧ h2 186 0 0 = 0 ∧ Sm rsc g h2) : AGt T C R h := by
  obtain ⟨h1, c1, c2⟩ := c
  have s1 : Sm scr h (hset h1 25 0 0 v) := Sm_t (Sm_w (fun _ _ => scr_c) c2) (scr_25 v)
  obtain ⟨h2, r1, r3, r2⟩ := r _ s1 (INV_scr s1 I)
  have s2 : Sm scr h h2 := Sm_t s1 (Sm_w (fun _ _ => scr_m) r2)
  exact Or.inl ⟨v, h1, c1, h2, r1, r3, by rw [r2 _ _ _ (by unfold rsc; omega), hs_eq], ⟨H, N, INV_scr s2 I⟩, fun j => s2 _ _ _ (by unfold scr csc rsc stTag; omega), s2 _ _ _ (by unfold scr csc rsc stTag; omega)⟩
theorem AGt_e {T : Nat → Nat} {C R : Hp → Option Rs} {h : Hp} {H N : Nat} (I : INV h H N) (e : Nat) (hT : 0 < T e) (c : ∃ h1, C h = th e h1 ∧ Sm csc h h1) (r : ∀ g, Sm scr h g → INV g H N → ∃ b h2, R g = ri b h2 ∧ h2 186 0 0 = (T e : Int) ∧ Sm rsc g h2) : AGt T C R h := by
  obtain ⟨h1, c1, c2⟩ := c
  have s1 : Sm scr h h1 := Sm_w (fun _ _ => scr_c) c2
  obtain ⟨b, h2, r1, r3, r2⟩ := r _ s1 (INV_scr s1 I)
  have s2 : Sm scr h h2 := Sm_t s1 (Sm_w (fun _ _ => scr_m) r2)
  exact Or.inr ⟨e, h1, c1, hT, b, h2, r1, r3, ⟨H, N, INV_scr s2 I⟩, fun j => s2 _ _ _ (by unfold scr csc rsc stTag; omega), s2 _ _ _ (by unfold scr csc rsc stTag; omega)⟩
