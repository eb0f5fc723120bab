/-! OCTAVES: the set of keys. -/
theorem kJ_64 (a : Nat) : kJ a = w64 (a : Int) := by
  unfold kJ w64
  rw [BitVec.toInt_eq_toNat_cond, BitVec.toNat_ofNat]
  split <;> omega
theorem kJ_add (x y : Nat) : w64 (kJ x + kJ y) = kJ (x + y) := by rw [kJ_64, kJ_64, kJ_64]; unfold w64; omega
theorem kJ_sub {x y : Nat} (h : y ≤ x) : w64 (kJ x - kJ y) = kJ (x - y) := by rw [kJ_64, kJ_64, kJ_64]; unfold w64; omega
theorem iand_127 (g : Nat) : iand (w32 (g : Int)) 127 = ((g % 128 : Nat) : Int) := by
  have e2 : iand (w32 (g : Int)) 127 = (BitVec.ofInt 32 (w32 (g : Int)) &&& BitVec.ofInt 32 127).toInt := rfl
  rw [e2, ofI_n]
  refine bvI (x := BitVec.ofNat 32 g &&& BitVec.ofInt 32 127) (by omega) ?_
  rw [BitVec.toNat_and, BitVec.toNat_ofNat, show (BitVec.ofInt 32 127).toNat = 2 ^ 7 - 1 by decide, Nat.and_two_pow_sub_one_eq_mod]
  omega
theorem bitCountL_c (lv a : Nat) (h : Hp) (ha : a < 2 ^ 64) : cl (lv + 1) 318 [aJ (kJ a)] h = ri ((cnt (fun i => a.testBit i) 64 : Nat) : Int) h := by
  rw [← cntN_cnt, ← pc64_eq ha]
  have us : ∀ x i : Nat, x < 2 ^ 64 → i < 64 → jushr (kJ x) (i : Int) = kJ (x >>> i) := fun x i h1 h2 => jushr_k h1 h2
  have sl : ∀ x i : Nat, x >>> i ≤ x := fun x i => by rw [Nat.shiftRight_eq_div_pow]; exact Nat.div_le_self _ _
  have k5 : (6148914691236517205 : Int) = kJ 6148914691236517205 := by decide +kernel
  have k3 : (3689348814741910323 : Int) = kJ 3689348814741910323 := by decide +kernel
  have k0 : (1085102592571150095 : Int) = kJ 1085102592571150095 := by decide +kernel
  dsimp only [pc64]
  have q1 : jushr (kJ a) 1 = kJ (a >>> 1) := us a 1 ha (by omega)
  have q2 : (a >>> 1) &&& 6148914691236517205 ≤ a := Nat.le_trans Nat.and_le_left (sl a 1)
  have q3 : jand (kJ (a >>> 1)) 6148914691236517205 = kJ ((a >>> 1) &&& 6148914691236517205) := by rw [k5, jand_k]
  have q4 := kJ_sub q2
  obtain ⟨b, hb⟩ : ∃ b, b = a - ((a >>> 1) &&& 6148914691236517205) := ⟨_, rfl⟩
  rw [← hb] at q4 ⊢
  have b1 : b < 2 ^ 64 := by omega
  have r1 : jushr (kJ b) 2 = kJ (b >>> 2) := us b 2 b1 (by omega)
  have r2 : jand (kJ (b >>> 2)) 3689348814741910323 = kJ ((b >>> 2) &&& 3689348814741910323) := by rw [k3, jand_k]
  have r3 : jand (kJ b) 3689348814741910323 = kJ (b &&& 3689348814741910323) := by rw [k3, jand_k]
  have r4 := kJ_add (b &&& 3689348814741910323) ((b >>> 2) &&& 3689348814741910323)
  have r5 : b &&& 3689348814741910323 ≤ 3689348814741910323 := Nat.and_le_right
  have r6 : (b >>> 2) &&& 3689348814741910323 ≤ 3689348814741910323 := Nat.and_le_right
  obtain ⟨c, hc⟩ : ∃ c, c = (b &&& 3689348814741910323) + ((b >>> 2) &&& 3689348814741910323) := ⟨_, rfl⟩
  rw [← hc] at r4 ⊢
  have c1 : c < 2 ^ 64 := by omega
  have s1 : jushr (kJ c) 4 = kJ (c >>> 4) := us c 4 c1 (by omega)
  have s2 := kJ_add c (c >>> 4)
  have s3 : jand (kJ (c + (c >>> 4))) 1085102592571150095 = kJ ((c + (c >>> 4)) &&& 1085102592571150095) := by rw [k0, jand_k]
  have s4 : (c + (c >>> 4)) &&& 1085102592571150095 ≤ 1085102592571150095 := Nat.and_le_right
  obtain ⟨d, hd⟩ : ∃ d, d = (c + (c >>> 4)) &&& 1085102592571150095 := ⟨_, rfl⟩
  rw [← hd] at s3 s4 ⊢
  have t1 : jushr (kJ d) 8 = kJ (d >>> 8) := us d 8 (by omega) (by omega)
  have t2 := kJ_add d (d >>> 8)
  have t3 := sl d 8
  obtain ⟨e, he⟩ : ∃ e, e = d + (d >>> 8) := ⟨_, rfl⟩
  rw [← he] at t2 ⊢
  have u1 : jushr (kJ e) 16 = kJ (e >>> 16) := us e 16 (by omega) (by omega)
  have u2 := kJ_add e (e >>> 16)
  have u3 := sl e 16
  obtain ⟨f, hf⟩ : ∃ f, f = e + (e >>> 16) := ⟨_, rfl⟩
  rw [← hf] at u2 ⊢
  have v1 : jushr (kJ f) 32 = kJ (f >>> 32) := us f 32 (by omega) (by omega)
  have v2 := kJ_add f (f >>> 32)
  rw [in_318]
  simp only [x_5_0, x_1, x_31, x_2, x_27, x_26, x_8_0, x_25, x_24, x_17, x_82, u_318_0, q1, q3, q4, r1, r2, r3, r4, s1, s2, s3, t1, t2, u1, u2, v1, v2, kJ_w, iand_127]
/-- the keys of the notes -/
theorem cnt_ins {P Q : Nat → Bool} {w : Nat} (hw : P w = false) : ∀ n, cnt (fun k => (P k || decide (w = k)) && Q k) n = cnt (fun k => P k && Q k) n + (if w < n ∧ Q w = true then 1 else 0) := by
  intro n
  induction n with
  | zero => show 0 = 0 + _; rw [if_neg (by omega)]
  | succ n ih =>
    show cnt _ n + (if ((P n || decide (w = n)) && Q n) = true then 1 else 0) = cnt _ n + (if (P n && Q n) = true then 1 else 0) + _
    rw [ih]
    by_cases c : w = n
    · subst c
      rw [hw, decide_eq_true rfl]
      cases Q w <;> simp
    · rw [decide_eq_false c, Bool.or_false]
      have i1 : (if w < n ∧ Q w = true then 1 else 0) = (if w < n + 1 ∧ Q w = true then 1 else 0 : Nat) := by
        by_cases c2 : w < n ∧ Q w = true
        · rw [if_pos c2, if_pos ⟨by omega, c2.2⟩]
        · rw [if_neg c2, if_neg (fun z => c2 ⟨by omega, z.2⟩)]
      rw [i1]; omega
theorem cnt_keys {M : Nat → Int} {N : Nat} (G : GN M N) (b : Int) (Q : Nat → Bool) : ∀ n, n ≤ N → cnt (fun i => atB M b i && Q (M (50 + 4 * i + 1)).toNat) n = cnt (fun k => (oKs M b n).testBit k && Q k) 64 := by
  intro n
  induction n with
  | zero =>
    intro _
    have e : cnt (fun k => (oKs M b 0).testBit k && Q k) 64 = cnt (fun _ => false) 64 := cnt_congr (fun i _ => by show ((0 : Nat).testBit i && Q i) = false; rw [Nat.zero_testBit]; rfl)
    rw [e]
    show 0 = cnt (fun _ => false) 64
    decide
  | succ n ih =>
    intro hn
    have hk := GN_key G
    have hkn := hk n (by omega)
    show cnt _ n + (if (atB M b n && Q (M (50 + 4 * n + 1)).toNat) = true then 1 else 0) = _
    rw [ih (by omega)]
    by_cases c : atB M b n = true
    · have nb : (oKs M b n).testBit (M (50 + 4 * n + 1)).toNat = false := by
        rw [oKs_bit (fun i hi => hk i (by omega))]
        apply Bool.eq_false_iff.mpr
        intro z
        obtain ⟨i, h1, h2⟩ := anyB_iff.mp z
        unfold thB at h2
        rw [Bool.and_eq_true, Bool.and_eq_true] at h2
        have k1 := of_decide_eq_true h2.2
        have a1 := h2.1.2
        unfold atB at a1 c
        rw [Bool.and_eq_true] at a1 c
        have b1 := of_decide_eq_true a1.2
        have b2 := of_decide_eq_true c.2
        exact G.2.2.2 i n (by omega) (by omega) (by omega) a1.1 c.1 (by rw [b1, b2]) (by omega)
      have e : oKs M b (n + 1) = oKs M b n ||| 2 ^ (M (50 + 4 * n + 1)).toNat := if_pos c
      have e2 : cnt (fun k => (oKs M b (n + 1)).testBit k && Q k) 64 = cnt (fun k => ((oKs M b n).testBit k || decide ((M (50 + 4 * n + 1)).toNat = k)) && Q k) 64 := cnt_congr (fun i _ => by rw [e, tb_or])
      rw [e2, cnt_ins nb, c, Bool.true_and]
      congr 1
      by_cases q : Q (M (50 + 4 * n + 1)).toNat = true
      · rw [if_pos q, if_pos ⟨by omega, q⟩]
      · rw [if_neg q, if_neg (fun z => q z.2)]
    · have e : oKs M b (n + 1) = oKs M b n := if_neg c
      rw [e, Bool.eq_false_iff.mpr c, Bool.false_and]
      rfl
