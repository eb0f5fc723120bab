/-! HANDS THAT CHANGE THEIR NOTES: what the class keeps while it leaves notes over. -/
def Clo (A : Nat → Nat → Bool) (hd : Nat → Int) (C : Nat → Bool) : Prop := ∀ x, x < 7 → C x = true → ∃ y : Nat, hd x = (y : Int) ∧ ∀ x', x' < 7 → A y x' = true → C x' = true
def hcn (hd : Nat → Int) (y : Nat) : Nat := cnt (fun x => decide (hd x = (y : Int))) 7
def KI (A : Nat → Nat → Bool) (P : Nat → Bool) (m N : Nat) (hd : Nat → Int) (lf C : Nat → Bool) : Prop := (∀ x, x < 7 → hd x = -1 ∨ ∃ y : Nat, hd x = (y : Int) ∧ (m ≤ y ∧ y < N) ∧ P y = true ∧ lf y = false ∧ A y x = true) ∧ (∀ y, m ≤ y → y < N → P y = true → lf y = false → hcn hd y = 1) ∧ Clo A hd C ∧ ∀ y, m ≤ y → y < N → P y = true → lf y = true → ∀ x', x' < 7 → A y x' = true → C x' = true
def Fsp (A : Nat → Nat → Bool) (y : Nat) (hd hd' : Nat → Int) (sn sn' : Nat) : Prop := (∀ x, x < 7 → hd' x = hd x) ∧ (∀ x, sn.testBit x = true → sn'.testBit x = true) ∧ (∀ x, x < 7 → A y x = true → sn'.testBit x = true) ∧ ∀ x, x < 7 → sn'.testBit x = true → sn.testBit x = false → ∃ y' : Nat, hd x = (y' : Int) ∧ ∀ x', x' < 7 → A y' x' = true → sn'.testBit x' = true
def Ssp (A : Nat → Nat → Bool) (N y : Nat) (hd hd' : Nat → Int) (sn : Nat) : Prop := (∀ x, x < 7 → hd' x ≠ hd x → sn.testBit x = false ∧ ∃ y' : Nat, hd' x = (y' : Int) ∧ y' < N ∧ A y' x = true) ∧ (∀ y' : Nat, hcn hd' y' = hcn hd y' + if y' = y then 1 else 0) ∧ ∀ C, Clo A hd C → (∀ x, x < 7 → C x = true → hd' x = hd x) ∧ ∃ x, x < 7 ∧ A y x = true ∧ C x = false
theorem cnt_pos {P : Nat → Bool} {n : Nat} (h : cnt P n ≠ 0) : ∃ i, i < n ∧ P i = true := by
  induction n with
  | zero => exact absurd rfl h
  | succ n ih =>
    by_cases c : P n = true
    · exact ⟨n, by omega, c⟩
    · have e : cnt P (n + 1) = cnt P n := by show cnt P n + _ = _; rw [if_neg c]; rfl
      rw [e] at h
      obtain ⟨i, h1, h2⟩ := ih h
      exact ⟨i, by omega, h2⟩
theorem cnt_ge {P : Nat → Bool} {n i : Nat} (hi : i < n) (h : P i = true) : 1 ≤ cnt P n := by rw [cnt_del hi h]; omega
theorem cnt_uniq {P : Nat → Bool} {n i j : Nat} (h : cnt P n = 1) (hi : i < n) (hj : j < n) (pi : P i = true) (pj : P j = true) : i = j := by
  by_cases e : i = j
  · exact e
  · rw [cnt_del hi pi] at h
    have := cnt_ge (P := fun k => P k && decide (k ≠ i)) hj (by simp [pj]; omega)
    omega
theorem ffst_ex {P : Nat → Bool} {N : Nat} (h : ∃ i, i < N ∧ P i = true) : ∃ x : Nat, x < N ∧ P x = true ∧ ffst P (fun x => (x : Int)) (-1) N 0 = (x : Int) := by
  have key : ∀ m, m ≤ N → (∀ j, j < m → P j = false) ∨ ∃ i, i < N ∧ P i = true ∧ ∀ j, j < i → P j = false := by
    intro m
    induction m with
    | zero => intro _; exact Or.inl (fun j hj => by omega)
    | succ m ih =>
      intro hm
      rcases ih (by omega) with q | q
      · by_cases c : P m = true
        · exact Or.inr ⟨m, by omega, c, q⟩
        · refine Or.inl (fun j hj => ?_)
          by_cases e : j = m
          · rw [e]; simpa using c
          · exact q j (by omega)
      · exact Or.inr q
  rcases key N (Nat.le_refl _) with q | ⟨i, h1, h2, h3⟩
  · obtain ⟨i, h1, h2⟩ := h
    rw [q i h1] at h2
    cases h2
  · exact ⟨i, h1, h2, ffst_at h1 h2 h3⟩
theorem KI_dom {A : Nat → Nat → Bool} {P : Nat → Bool} {m N : Nat} {hd : Nat → Int} {lf C : Nat → Bool} (k : KI A P m N hd lf C) : ∀ g, MatU A 7 (chL P N) 0 g → cntF (fun n => P n && decide (g n ≠ -1)) m N ≤ cntF (fun n => P n && !lf n) m N := by
  intro g hg
  obtain ⟨k1, k2, k3, k4⟩ := k
  unfold cntF
  have zt : ∀ y, allB (fun x => !A y x || C x) 7 = true ↔ ∀ x', x' < 7 → A y x' = true → C x' = true := by
    intro y
    rw [allB_iff]
    constructor
    · intro h x hx ha
      have := h x hx
      rw [ha] at this
      simpa using this
    · intro h x hx
      cases ha : A y x with
      | false => rfl
      | true => simpa using h x hx ha
  rw [cnt_split (fun n => decide (m ≤ n) && (P n && decide (g n ≠ -1))) (fun y => allB (fun x => !A y x || C x) 7) N, cnt_split (fun n => decide (m ≤ n) && (P n && !lf n)) (fun y => allB (fun x => !A y x || C x) 7) N]
  have a1 : cnt (fun i => (decide (m ≤ i) && (P i && decide (g i ≠ -1))) && !allB (fun x => !A i x || C x) 7) N ≤ cnt (fun i => (decide (m ≤ i) && (P i && !lf i)) && !allB (fun x => !A i x || C x) 7) N := by
    refine cnt_mono (fun i hi hp => ?_)
    rw [Bool.and_eq_true, Bool.and_eq_true, Bool.and_eq_true] at hp
    obtain ⟨⟨h1, h2, h3⟩, h4⟩ := hp
    have hl : lf i = false := by
      cases hc : lf i with
      | false => rfl
      | true =>
        have := (zt i).mpr (k4 i (by simpa using h1) hi h2 hc)
        rw [this] at h4
        cases h4
    rw [h1, h2, h4, hl]
    rfl
  have a2 : cnt (fun i => (decide (m ≤ i) && (P i && decide (g i ≠ -1))) && allB (fun x => !A i x || C x) 7) N ≤ cnt C 7 := by
    have hx : ∀ i, i < N → ((decide (m ≤ i) && (P i && decide (g i ≠ -1))) && allB (fun x => !A i x || C x) 7) = true → (P i = true ∧ g i ≠ -1) ∧ ∃ x : Nat, g i = (x : Int) ∧ x < 7 ∧ C x = true := by
      intro i hi hp
      rw [Bool.and_eq_true, Bool.and_eq_true, Bool.and_eq_true] at hp
      obtain ⟨⟨h1, h2, h3⟩, h4⟩ := hp
      have h3 : g i ≠ -1 := by simpa using h3
      refine ⟨⟨h2, h3⟩, ?_⟩
      rcases hg.1 i (chL_mem.mpr ⟨hi, h2⟩) with q | ⟨x, q1, q2, q3, -⟩
      · exact absurd q h3
      · exact ⟨x, q1, q2, (zt i).mp h4 x q2 q3⟩
    refine cnt_inj (fun i => (g i).toNat) C 7 N _ C (fun i hi hp => ?_) (fun i j hi hj pi pj e => ?_)
    · obtain ⟨-, x, q1, q2, q3⟩ := hx i hi hp
      rw [q1, tn]
      exact ⟨q2, q3⟩
    · obtain ⟨⟨r1, r2⟩, x, q1, q2, q3⟩ := hx i hi pi
      obtain ⟨⟨s1, s2⟩, z, t1, t2, t3⟩ := hx j hj pj
      refine hg.2 i (chL_mem.mpr ⟨hi, r1⟩) j (chL_mem.mpr ⟨hj, s1⟩) r2 ?_
      omega
  have a3 : cnt C 7 ≤ cnt (fun i => (decide (m ≤ i) && (P i && !lf i)) && allB (fun x => !A i x || C x) 7) N := by
    have hx : ∀ x, x < 7 → C x = true → ∃ y : Nat, hd x = (y : Int) ∧ (m ≤ y ∧ y < N) ∧ P y = true ∧ lf y = false ∧ ∀ x', x' < 7 → A y x' = true → C x' = true := by
      intro x hx hc
      obtain ⟨y, q1, q2⟩ := k3 x hx hc
      rcases k1 x hx with r | ⟨z, r1, r2, r3, r4, -⟩
      · omega
      · have e : z = y := by omega
        subst e
        exact ⟨z, r1, r2, r3, r4, q2⟩
    refine cnt_inj (fun x => (hd x).toNat) C N 7 C _ (fun x hxx hc => ?_) (fun x z hxx hz cx cz e => ?_)
    · obtain ⟨y, q1, q2, q3, q4, q5⟩ := hx x hxx hc
      rw [q1, tn]
      refine ⟨q2.2, ?_⟩
      rw [(zt y).mpr q5, q3, q4, decide_eq_true q2.1]
      rfl
    · obtain ⟨y, q1, q2, q3, q4, q5⟩ := hx x hxx cx
      obtain ⟨w, t1, t2, t3, t4, t5⟩ := hx z hz cz
      exact cnt_uniq (k2 y q2.1 q2.2 q3 q4) hxx hz (by simp [q1]) (by simp only [decide_eq_true_eq]; omega)
  omega
theorem KI_ex {A : Nat → Nat → Bool} {P : Nat → Bool} {N : Nat} {hd : Nat → Int} {lf C : Nat → Bool} (k : KI A P 0 N hd lf C) : ∃ g, MatU A 7 (chL (fun n => P n && !lf n) N) 0 g ∧ ∀ n, n < N → P n = true → lf n = false → g n ≠ -1 := by
  obtain ⟨k1, k2, k3, k4⟩ := k
  have ex : ∀ n, n < N → P n = true → lf n = false → ∃ x : Nat, x < 7 ∧ hd x = (n : Int) ∧ ffst (fun x => decide (hd x = (n : Int))) (fun x => (x : Int)) (-1) 7 0 = (x : Int) := by
    intro n h1 h2 h3
    have c := k2 n (by omega) h1 h2 h3
    obtain ⟨x, q1, q2, q3⟩ := ffst_ex (cnt_pos (P := fun x => decide (hd x = (n : Int))) (n := 7) (by unfold hcn at c; omega))
    exact ⟨x, q1, by simpa using q2, q3⟩
  refine ⟨fun n => ffst (fun x => decide (hd x = (n : Int))) (fun x => (x : Int)) (-1) 7 0, ⟨fun n hn => ?_, fun n hn n' hn' h1 h2 => ?_⟩, fun n h1 h2 h3 => ?_⟩
  · obtain ⟨h1, h2⟩ := chL_mem.mp hn
    have h2 : P n = true ∧ lf n = false := by simpa using h2
    obtain ⟨x, q1, q2, q3⟩ := ex n h1 h2.1 h2.2
    right
    refine ⟨x, q3, q1, ?_, by simp⟩
    rcases k1 x q1 with r | ⟨y, r1, r2, r3, r4, r5⟩
    · omega
    · have : y = n := by omega
      subst this
      exact r5
  · obtain ⟨a1, a2⟩ := chL_mem.mp hn
    obtain ⟨b1, b2⟩ := chL_mem.mp hn'
    have a2 : P n = true ∧ lf n = false := by simpa using a2
    have b2 : P n' = true ∧ lf n' = false := by simpa using b2
    obtain ⟨x, q1, q2, q3⟩ := ex n a1 a2.1 a2.2
    obtain ⟨z, t1, t2, t3⟩ := ex n' b1 b2.1 b2.2
    simp only [q3, t3] at h2
    have : x = z := by omega
    subst this
    omega
  · obtain ⟨x, q1, q2, q3⟩ := ex n h1 h2 h3
    simp only [q3]
    omega
theorem KI_none {A : Nat → Nat → Bool} {P : Nat → Bool} {N : Nat} {hd : Nat → Int} {lf : Nat → Bool} (h : ∀ x, x < 7 → hd x = -1) : KI A P N N hd lf (fun _ => false) :=
  ⟨fun x hx => Or.inl (h x hx), fun y h1 h2 => by omega, fun x _ hc => (by cases hc), fun y h1 h2 => by omega⟩
theorem KI_skip {A : Nat → Nat → Bool} {P : Nat → Bool} {m N : Nat} {hd : Nat → Int} {lf C : Nat → Bool} (k : KI A P (m + 1) N hd lf C) (hp : P m = false) : KI A P m N hd lf C := by
  obtain ⟨k1, k2, k3, k4⟩ := k
  have ne : ∀ y, P y = true → m ≤ y → m + 1 ≤ y := by
    intro y h1 h2
    by_cases e : y = m
    · rw [e, hp] at h1; cases h1
    · omega
  refine ⟨fun x hx => ?_, fun y h1 h2 h3 => k2 y (ne y h3 h1) h2 h3, k3, fun y h1 h2 h3 => k4 y (ne y h3 h1) h2 h3⟩
  rcases k1 x hx with r | ⟨y, r1, r2, r3⟩
  · exact Or.inl r
  · exact Or.inr ⟨y, r1, ⟨by omega, r2.2⟩, r3⟩
theorem KI_rej {A : Nat → Nat → Bool} {P : Nat → Bool} {m N : Nat} {hd hd' : Nat → Int} {lf lf' C : Nat → Bool} {sn' : Nat} (k : KI A P (m + 1) N hd lf C) (f : Fsp A m hd hd' 0 sn') (hl : ∀ y, lf' y = (lf y || decide (y = m))) : KI A P m N hd' lf' (fun x => C x || sn'.testBit x) := by
  obtain ⟨k1, k2, k3, k4⟩ := k
  obtain ⟨f1, f2, f3, f4⟩ := f
  have ln : ∀ y, lf' y = false → lf y = false ∧ y ≠ m := by
    intro y h
    rw [hl, Bool.or_eq_false_iff] at h
    exact ⟨h.1, by simpa using h.2⟩
  refine ⟨fun x hx => ?_, fun y h1 h2 h3 h4 => ?_, fun x hx hc => ?_, fun y h1 h2 h3 h4 x' hx' ha => ?_⟩
  · rw [f1 x hx]
    rcases k1 x hx with r | ⟨y, r1, r2, r3, r4, r5⟩
    · exact Or.inl r
    · exact Or.inr ⟨y, r1, ⟨by omega, r2.2⟩, r3, by rw [hl, r4, Bool.false_or, decide_eq_false_iff_not]; omega, r5⟩
  · obtain ⟨q1, q2⟩ := ln y h4
    rw [← k2 y (by omega) h2 h3 q1]
    exact cnt_congr (fun x hx => by rw [f1 x hx])
  · rw [Bool.or_eq_true] at hc
    rcases hc with hc | hc
    · obtain ⟨y, q1, q2⟩ := k3 x hx hc
      exact ⟨y, by rw [f1 x hx]; exact q1, fun x' h1 h2 => by simp only; rw [q2 x' h1 h2]; rfl⟩
    · obtain ⟨y, q1, q2⟩ := f4 x hx hc (by simp)
      exact ⟨y, by rw [f1 x hx]; exact q1, fun x' h1 h2 => by simp only; rw [q2 x' h1 h2, Bool.or_true]⟩
  · by_cases e : y = m
    · subst e; simp only; rw [f3 x' hx' ha, Bool.or_true]
    · rw [hl, decide_eq_false e, Bool.or_false] at h4
      simp only
      rw [k4 y (by omega) h2 h3 h4 x' hx' ha]
      rfl
theorem KI_acc {A : Nat → Nat → Bool} {P : Nat → Bool} {m N : Nat} {hd hd' : Nat → Int} {lf C : Nat → Bool} (k : KI A P (m + 1) N hd lf C) (f : Ssp A N m hd hd' 0) (hp : P m = true) (hl : lf m = false) (hm : m < N) : KI A P m N hd' lf C := by
  obtain ⟨k1, k2, k3, k4⟩ := k
  obtain ⟨f1, f2, f3⟩ := f
  obtain ⟨f3, -⟩ := f3 C k3
  refine ⟨fun x hx => ?_, fun y h1 h2 h3 h4 => ?_, fun x hx hc => ?_, fun y h1 h2 h3 h4 => ?_⟩
  · by_cases e : hd' x = hd x
    · rw [e]
      rcases k1 x hx with r | ⟨y, r1, r2, r3⟩
      · exact Or.inl r
      · exact Or.inr ⟨y, r1, ⟨by omega, r2.2⟩, r3⟩
    · obtain ⟨-, y, q1, q2, q3⟩ := f1 x hx e
      refine Or.inr ⟨y, q1, ?_⟩
      by_cases ey : y = m
      · subst ey; exact ⟨⟨Nat.le_refl _, hm⟩, hp, hl, q3⟩
      · have c1 : 1 ≤ hcn hd' y := cnt_ge hx (by simp [q1])
        have c2 := f2 y
        rw [if_neg ey] at c2
        obtain ⟨z, z1, z2⟩ := cnt_pos (P := fun x => decide (hd x = (y : Int))) (n := 7) (by unfold hcn at c1 c2; omega)
        have z2 : hd z = (y : Int) := by simpa using z2
        rcases k1 z z1 with r | ⟨w, r1, r2, r3, r4, r5⟩
        · omega
        · have : w = y := by omega
          subst this
          exact ⟨⟨by omega, r2.2⟩, r3, r4, q3⟩
  · rw [f2 y]
    by_cases ey : y = m
    · subst ey
      rw [if_pos rfl]
      have : hcn hd y = 0 := by
        by_cases c : hcn hd y = 0
        · exact c
        · obtain ⟨z, z1, z2⟩ := cnt_pos (P := fun x => decide (hd x = (y : Int))) (n := 7) c
          have z2 : hd z = (y : Int) := by simpa using z2
          rcases k1 z z1 with r | ⟨w, r1, r2, r3⟩ <;> omega
      omega
    · rw [if_neg ey, k2 y (by omega) h2 h3 h4]
  · obtain ⟨y, q1, q2⟩ := k3 x hx hc
    exact ⟨y, by rw [f3 x hx hc]; exact q1, q2⟩
  · refine k4 y ?_ h2 h3 h4
    by_cases ey : y = m
    · subst ey; rw [hl] at h4; cases h4
    · omega
