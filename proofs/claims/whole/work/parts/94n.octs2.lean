/-! octaves, counted both ways -/
theorem cnt_zr {P : Nat → Bool} : ∀ {n : Nat}, (∀ i, i < n → P i = false) → cnt P n = 0 := by
  intro n
  induction n with
  | zero => intro _; rfl
  | succ n ih =>
    intro h
    show cnt P n + (if P n = true then 1 else 0) = 0
    rw [ih (fun i hi => h i (by omega)), h n (by omega)]
    rfl
theorem cnt_app (P : Nat → Bool) (n : Nat) : ∀ d, cnt P (n + d) = cnt P n + cnt (fun i => P (n + i)) d := by
  intro d
  induction d with
  | zero => rfl
  | succ d ih =>
    show cnt P (n + d) + (if P (n + d) = true then 1 else 0) = cnt P n + (cnt (fun i => P (n + i)) d + (if P (n + d) = true then 1 else 0))
    rw [ih]; omega
theorem oct_y {K : Nat → Bool} (hK : ∀ k, 64 ≤ k → K k = false) {c : Nat} (hc : c < 64) : cnt (fun k => K k && (decide (c < k) && decide ((k - c) % 12 = 0))) 64 = cnt (fun m => K (12 * (m + 1) + c)) 5 := by
  have P0 : ∀ k, (k - c) % 12 ≠ 0 ∨ k ≤ c → (K k && (decide (c < k) && decide ((k - c) % 12 = 0))) = false := fun k hk => by
    rcases hk with z | z
    · rw [decide_eq_false z, Bool.and_false, Bool.and_false]
    · rw [decide_eq_false (show ¬ c < k by omega), Bool.false_and, Bool.and_false]
  have st : ∀ m, cnt (fun k => K k && (decide (c < k) && decide ((k - c) % 12 = 0))) (c + 1 + 12 * m) = cnt (fun m => K (12 * (m + 1) + c)) m := by
    intro m
    induction m with
    | zero => exact cnt_zr (fun i hi => P0 i (Or.inr (by omega)))
    | succ m ih =>
      rw [show c + 1 + 12 * (m + 1) = c + 1 + 12 * m + 12 by omega, cnt_app, ih]
      show _ + (cnt (fun i => (K (c + 1 + 12 * m + i) && (decide (c < c + 1 + 12 * m + i) && decide ((c + 1 + 12 * m + i - c) % 12 = 0)))) 11 + (if (K (c + 1 + 12 * m + 11) && (decide (c < c + 1 + 12 * m + 11) && decide ((c + 1 + 12 * m + 11 - c) % 12 = 0))) = true then 1 else 0)) = cnt _ m + (if K (12 * (m + 1) + c) = true then 1 else 0)
      rw [cnt_zr (fun i hi => P0 _ (Or.inl (by omega))), decide_eq_true (show c < c + 1 + 12 * m + 11 by omega), decide_eq_true (show (c + 1 + 12 * m + 11 - c) % 12 = 0 by omega), Bool.and_true, Bool.and_true, show c + 1 + 12 * m + 11 = 12 * (m + 1) + c by omega, Nat.zero_add]
  have s6 := st 6
  rw [show c + 1 + 12 * 6 = 64 + (c + 9) by omega, cnt_app, cnt_zr (P := fun i => K (64 + i) && (decide (c < 64 + i) && decide ((64 + i - c) % 12 = 0))) (fun i hi => by rw [hK _ (by omega), Bool.false_and]), Nat.add_zero] at s6
  rw [s6]
  show cnt (fun m => K (12 * (m + 1) + c)) 5 + (if K (12 * (5 + 1) + c) = true then 1 else 0) = _
  rw [hK (12 * (5 + 1) + c) (by omega)]
  rfl
theorem sum_ite (P : Nat → Bool) : ∀ n, sumN (fun m => if P m = true then 1 else 0) n = cnt P n := by
  intro n
  induction n with
  | zero => rfl
  | succ n ih => show sumN _ n + _ = cnt P n + _; rw [ih]
theorem sum_swap (A : Nat → Nat → Bool) (k : Nat) : ∀ n, sumN (fun m => cnt (fun i => A i m) n) k = sumN (fun i => cnt (fun m => A i m) k) n := by
  intro n
  induction n with
  | zero => exact sumN_zero k
  | succ n ih =>
    show sumN (fun m => cnt (fun i => A i m) n + (if A n m = true then 1 else 0)) k = sumN (fun i => cnt (fun m => A i m) k) n + cnt (fun m => A n m) k
    rw [sumN_add, ih, sum_ite]
def ocB (M : Nat → Int) (b : Int) (i j : Nat) : Bool := atB M b i && (atB M b j && (decide (M (50 + 4 * i + 1) < M (50 + 4 * j + 1)) && decide ((M (50 + 4 * j + 1) - M (50 + 4 * i + 1)) % 12 = 0)))
def ocC (a : Nat) : Nat := sumN (fun m => cnt (fun k => a.testBit k && a.testBit (12 * (m + 1) + k)) 64) 5
def ocS (M : Nat → Int) (b : Int) (N : Nat) : Nat := sumN (fun i => cnt (ocB M b i) N) N
theorem oc_eq {M : Nat → Int} {N : Nat} (G : GN M N) (b : Int) : ocC (oKs M b N) = ocS M b N := by
  have hk := GN_key G
  have lt := oKs_lt (b := b) hk
  have e1 : ocC (oKs M b N) = sumN (fun m => cnt (fun i => atB M b i && (oKs M b N).testBit (12 * (m + 1) + (M (50 + 4 * i + 1)).toNat)) N) 5 := sumN_congr (fun m _ => (cnt_keys G b (fun k => (oKs M b N).testBit (12 * (m + 1) + k)) N (Nat.le_refl _)).symm)
  rw [e1, sum_swap (fun i m => atB M b i && (oKs M b N).testBit (12 * (m + 1) + (M (50 + 4 * i + 1)).toNat))]
  refine sumN_congr (fun i hi => ?_)
  have hki := hk i hi
  cases ha : atB M b i with
  | false =>
    rw [cnt_zr (fun m _ => by rw [Bool.false_and]), cnt_zr (fun j _ => by unfold ocB; rw [ha, Bool.false_and])]
  | true =>
    have y := oct_y (K := fun k => (oKs M b N).testBit k) (fun k hk => Nat.testBit_lt_two_pow (Nat.lt_of_lt_of_le lt (Nat.pow_le_pow_right (by omega) hk))) (c := (M (50 + 4 * i + 1)).toNat) (by omega)
    have e2 : cnt (fun m => true && (oKs M b N).testBit (12 * (m + 1) + (M (50 + 4 * i + 1)).toNat)) 5 = cnt (fun m => (oKs M b N).testBit (12 * (m + 1) + (M (50 + 4 * i + 1)).toNat)) 5 := cnt_congr (fun m _ => Bool.true_and _)
    rw [e2, ← y, ← cnt_keys G b (fun k => decide ((M (50 + 4 * i + 1)).toNat < k) && decide ((k - (M (50 + 4 * i + 1)).toNat) % 12 = 0)) N (Nat.le_refl _)]
    refine cnt_congr (fun j hj => ?_)
    have hkj := hk j hj
    unfold ocB
    rw [ha, Bool.true_and]
    congr 1
    by_cases c : M (50 + 4 * i + 1) < M (50 + 4 * j + 1)
    · rw [decide_eq_true c, decide_eq_true (show (M (50 + 4 * i + 1)).toNat < (M (50 + 4 * j + 1)).toNat by omega), Bool.true_and, Bool.true_and]
      exact decide_eq_decide.mpr (by omega)
    · rw [decide_eq_false c, decide_eq_false (show ¬ (M (50 + 4 * i + 1)).toNat < (M (50 + 4 * j + 1)).toNat by omega), Bool.false_and, Bool.false_and]
theorem ocS_b (M : Nat → Int) (b : Int) {N : Nat} (hN : N ≤ 14) : ocS M b N ≤ 196 := by
  have := sumN_b (f := fun i => cnt (ocB M b i) N) (K := 14) (fun i => Nat.le_trans (cnt_le _ _) hN) N
  unfold ocS
  omega
