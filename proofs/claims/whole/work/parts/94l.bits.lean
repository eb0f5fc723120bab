/-! HOW MANY KEYS A SET HAS. -/
def V16 : List Nat → Nat
  | [] => 0
  | x :: l => x + 16 * V16 l
def R16 (m : Nat) : Nat → Nat
  | 0 => 0
  | n + 1 => m + 16 * R16 m n
def nib (a : Nat) : Nat → List Nat
  | 0 => []
  | n + 1 => a % 16 :: nib (a / 16) n
theorem V_nib : ∀ n a, a < 16 ^ n → V16 (nib a n) = a := by
  intro n
  induction n with
  | zero => intro a h; show 0 = a; rw [Nat.pow_zero] at h; omega
  | succ n ih =>
    intro a h
    show a % 16 + 16 * V16 (nib (a / 16) n) = a
    rw [Nat.pow_succ] at h
    rw [ih (a / 16) (by omega)]
    omega
theorem and16 {x m b c : Nat} (hx : x < 16) (hm : m < 16) : (x + 16 * b) &&& (m + 16 * c) = (x &&& m) + 16 * (b &&& c) := by
  have ha : x &&& m < 2 ^ 4 := Nat.and_lt_two_pow _ hm
  apply Nat.eq_of_testBit_eq
  intro i
  rw [show x + 16 * b = 2 ^ 4 * b + x by omega, show m + 16 * c = 2 ^ 4 * c + m by omega, show (x &&& m) + 16 * (b &&& c) = 2 ^ 4 * (b &&& c) + (x &&& m) by omega, Nat.testBit_and, Nat.testBit_two_pow_mul_add _ (by omega), Nat.testBit_two_pow_mul_add _ (by omega), Nat.testBit_two_pow_mul_add _ ha, Nat.testBit_and, Nat.testBit_and]
  split <;> rfl
theorem n5 : ∀ x, x < 16 → ∀ r, r < 2 → (x / 2 + 8 * r) &&& 5 = (x / 2) &&& 5 := by decide
theorem n5l : ∀ x, x < 16 → (x / 2) &&& 5 ≤ x := by decide
theorem n3 : ∀ x, x < 16 → ∀ r, r < 4 → (x / 4 + 4 * r) &&& 3 = (x / 4) &&& 3 := by decide
def s1f (x : Nat) : Nat := x - ((x / 2) &&& 5)
def s2f (x : Nat) : Nat := (x &&& 3) + ((x / 4) &&& 3)
theorem s1_lt : ∀ x, x < 16 → s1f x < 16 := by decide
theorem s12 : ∀ x, x < 16 → s2f (s1f x) = x % 2 + x / 2 % 2 + x / 4 % 2 + x / 8 % 2 := by decide
theorem bst1 : ∀ l : List Nat, (∀ x ∈ l, x < 16) → V16 l - ((V16 l / 2) &&& R16 5 l.length) = V16 (l.map s1f) := by
  intro l
  induction l with
  | nil => intro _; rfl
  | cons x l ih =>
    intro hl
    have ih := ih (fun y hy => hl y (List.mem_cons_of_mem _ hy))
    have hx := hl x (List.mem_cons_self ..)
    show x + 16 * V16 l - (((x + 16 * V16 l) / 2) &&& (5 + 16 * R16 5 l.length)) = s1f x + 16 * V16 (l.map s1f)
    have e : (x + 16 * V16 l) / 2 = (x / 2 + 8 * (V16 l % 2)) + 16 * (V16 l / 2) := by omega
    rw [e, and16 (by omega) (by omega), n5 x hx _ (by omega), ← ih]
    have a1 := n5l x hx
    have a2 : (V16 l / 2) &&& R16 5 l.length ≤ V16 l / 2 := Nat.and_le_left
    unfold s1f
    omega
theorem bst2 : ∀ l : List Nat, (∀ x ∈ l, x < 16) → (V16 l &&& R16 3 l.length) + ((V16 l / 4) &&& R16 3 l.length) = V16 (l.map s2f) := by
  intro l
  induction l with
  | nil => intro _; rfl
  | cons x l ih =>
    intro hl
    have ih := ih (fun y hy => hl y (List.mem_cons_of_mem _ hy))
    have hx := hl x (List.mem_cons_self ..)
    show ((x + 16 * V16 l) &&& (3 + 16 * R16 3 l.length)) + (((x + 16 * V16 l) / 4) &&& (3 + 16 * R16 3 l.length)) = s2f x + 16 * V16 (l.map s2f)
    have e : (x + 16 * V16 l) / 4 = (x / 4 + 4 * (V16 l % 4)) + 16 * (V16 l / 4) := by omega
    rw [e, and16 hx (by omega), and16 (by omega) (by omega), n3 x hx _ (by omega), ← ih]
    unfold s2f
    omega
def andL : List Nat → List Nat → List Nat
  | x :: l, y :: m => (x &&& y) :: andL l m
  | _, _ => []
theorem V_and : ∀ l m : List Nat, l.length = m.length → (∀ x ∈ l, x < 16) → (∀ x ∈ m, x < 16) → V16 l &&& V16 m = V16 (andL l m) := by
  intro l
  induction l with
  | nil =>
    intro m h _ _
    cases m with
    | nil => rfl
    | cons y m => simp at h
  | cons x l ih =>
    intro m h hl hm
    cases m with
    | nil => simp at h
    | cons y m =>
      show (x + 16 * V16 l) &&& (y + 16 * V16 m) = (x &&& y) + 16 * V16 (andL l m)
      rw [and16 (hl x (List.mem_cons_self ..)) (hm y (List.mem_cons_self ..)), ih m (by simpa using h) (fun z hz => hl z (List.mem_cons_of_mem _ hz)) (fun z hz => hm z (List.mem_cons_of_mem _ hz))]
def pc64 (a : Nat) : Nat :=
  let b := a - ((a >>> 1) &&& 6148914691236517205)
  let c := (b &&& 3689348814741910323) + ((b >>> 2) &&& 3689348814741910323)
  let d := (c + (c >>> 4)) &&& 1085102592571150095
  let e := d + (d >>> 8)
  let f := e + (e >>> 16)
  let g := f + (f >>> 32)
  g % 128
def pnf (x : Nat) : Nat := x % 2 + x / 2 % 2 + x / 4 % 2 + x / 8 % 2
theorem pnf_le (x : Nat) : pnf x ≤ 4 := by unfold pnf; omega
theorem cntN_4 (n a : Nat) : cntN (n + 4) a = pnf (a % 16) + cntN n (a / 16) := by
  show a % 2 + (a / 2 % 2 + (a / 2 / 2 % 2 + (a / 2 / 2 / 2 % 2 + cntN n (a / 2 / 2 / 2 / 2)))) = _
  rw [show a / 2 / 2 / 2 / 2 = a / 16 by omega]
  unfold pnf
  omega
def sumL : List Nat → Nat
  | [] => 0
  | x :: l => pnf x + sumL l
theorem cntN_nib : ∀ n a, cntN (4 * n) a = sumL (nib a n) := by
  intro n
  induction n with
  | zero => intro a; rfl
  | succ n ih => intro a; rw [show 4 * (n + 1) = 4 * n + 4 by omega, cntN_4, ih]; rfl
theorem nib_lt : ∀ n a, ∀ x ∈ nib a n, x < 16 := by
  intro n
  induction n with
  | zero => intro a x h; cases h
  | succ n ih =>
    intro a x h
    rcases List.mem_cons.mp h with rfl | h
    · omega
    · exact ih _ x h
theorem nib_len : ∀ n a, (nib a n).length = n := by
  intro n
  induction n with
  | zero => intro a; rfl
  | succ n ih => intro a; show (nib (a / 16) n).length + 1 = n + 1; rw [ih]
theorem and15 : ∀ x, x < 16 → x &&& 15 = x := by decide
theorem dvK {x A B k : Nat} (h : x = A + k * B) (hA : A < k) : x / k = B := by
  rw [h, Nat.add_mul_div_left _ _ (by omega), Nat.div_eq_of_lt hA, Nat.zero_add]
theorem md128 {S C : Nat} (h : S < 128) : (S + 256 * C) % 128 = S := by omega
theorem dv_a (x0 x1 x2 x3 x4 x5 x6 x7 : Nat) (h0 : x0 ≤ 8) (x : Nat) (hx : x = (x0) + 256 * ((x1) + 256 * ((x2) + 256 * ((x3) + 256 * ((x4) + 256 * ((x5) + 256 * ((x6) + 256 * (x7)))))))) : x / 2 ^ 8 = (x1) + 256 * ((x2) + 256 * ((x3) + 256 * ((x4) + 256 * ((x5) + 256 * ((x6) + 256 * (x7)))))) := dvK (A := x0) (by omega) (by omega)
theorem dv_b (x0 x1 x2 x3 x4 x5 x6 x7 : Nat) (h0 : x0 ≤ 16) (h1 : x1 ≤ 16) (x : Nat) (hx : x = (x0) + 256 * ((x1) + 256 * ((x2) + 256 * ((x3) + 256 * ((x4) + 256 * ((x5) + 256 * ((x6) + 256 * (x7)))))))) : x / 2 ^ 16 = (x2) + 256 * ((x3) + 256 * ((x4) + 256 * ((x5) + 256 * ((x6) + 256 * (x7))))) := dvK (A := (x0) + 256 * (x1)) (by omega) (by omega)
theorem dv_c (x0 x1 x2 x3 x4 x5 x6 x7 : Nat) (h0 : x0 ≤ 32) (h1 : x1 ≤ 32) (h2 : x2 ≤ 32) (h3 : x3 ≤ 32) (x : Nat) (hx : x = (x0) + 256 * ((x1) + 256 * ((x2) + 256 * ((x3) + 256 * ((x4) + 256 * ((x5) + 256 * ((x6) + 256 * (x7)))))))) : x / 2 ^ 32 = (x4) + 256 * ((x5) + 256 * ((x6) + 256 * (x7))) := dvK (A := (x0) + 256 * ((x1) + 256 * ((x2) + 256 * (x3)))) (by omega) (by omega)
theorem pfa (q0 q1 q2 q3 q4 q5 q6 q7 : Nat) (h0 : q0 ≤ 8) (h1 : q1 ≤ 8) (h2 : q2 ≤ 8) (h3 : q3 ≤ 8) (h4 : q4 ≤ 8) (h5 : q5 ≤ 8) (h6 : q6 ≤ 8) (h7 : q7 ≤ 8) (d : Nat) (hd : d = (q0) + 256 * ((q1) + 256 * ((q2) + 256 * ((q3) + 256 * ((q4) + 256 * ((q5) + 256 * ((q6) + 256 * (q7)))))))) : d + d / 2 ^ 8 = (q0+q1) + 256 * ((q1+q2) + 256 * ((q2+q3) + 256 * ((q3+q4) + 256 * ((q4+q5) + 256 * ((q5+q6) + 256 * ((q6+q7) + 256 * (q7))))))) := by
  have a2 := dv_a q0 q1 q2 q3 q4 q5 q6 q7 h0 d hd
  rw [a2, hd]; omega
theorem pfb (q0 q1 q2 q3 q4 q5 q6 q7 : Nat) (h0 : q0 ≤ 8) (h1 : q1 ≤ 8) (h2 : q2 ≤ 8) (h3 : q3 ≤ 8) (h4 : q4 ≤ 8) (h5 : q5 ≤ 8) (h6 : q6 ≤ 8) (h7 : q7 ≤ 8) (e : Nat) (he : e = (q0+q1) + 256 * ((q1+q2) + 256 * ((q2+q3) + 256 * ((q3+q4) + 256 * ((q4+q5) + 256 * ((q5+q6) + 256 * ((q6+q7) + 256 * (q7)))))))) : e + e / 2 ^ 16 = (q0+q1+q2+q3) + 256 * ((q1+q2+q3+q4) + 256 * ((q2+q3+q4+q5) + 256 * ((q3+q4+q5+q6) + 256 * ((q4+q5+q6+q7) + 256 * ((q5+q6+q7) + 256 * ((q6+q7) + 256 * (q7))))))) := by
  have a2 := dv_b (q0+q1) (q1+q2) (q2+q3) (q3+q4) (q4+q5) (q5+q6) (q6+q7) (q7) (by omega) (by omega) e he
  rw [a2, he]; omega
theorem pfc (q0 q1 q2 q3 q4 q5 q6 q7 : Nat) (h0 : q0 ≤ 8) (h1 : q1 ≤ 8) (h2 : q2 ≤ 8) (h3 : q3 ≤ 8) (h4 : q4 ≤ 8) (h5 : q5 ≤ 8) (h6 : q6 ≤ 8) (h7 : q7 ≤ 8) (f : Nat) (hf : f = (q0+q1+q2+q3) + 256 * ((q1+q2+q3+q4) + 256 * ((q2+q3+q4+q5) + 256 * ((q3+q4+q5+q6) + 256 * ((q4+q5+q6+q7) + 256 * ((q5+q6+q7) + 256 * ((q6+q7) + 256 * (q7)))))))) : (f + f / 2 ^ 32) % 128 = q0 + q1 + q2 + q3 + q4 + q5 + q6 + q7 := by
  have a2 := dv_c (q0+q1+q2+q3) (q1+q2+q3+q4) (q2+q3+q4+q5) (q3+q4+q5+q6) (q4+q5+q6+q7) (q5+q6+q7) (q6+q7) (q7) (by omega) (by omega) (by omega) (by omega) f hf
  have c3 : f + f / 2 ^ 32 = (q0 + q1 + q2 + q3 + q4 + q5 + q6 + q7) + 256 * ((q1+q2+q3+q4+q5+q6+q7) + 256 * ((q2+q3+q4+q5+q6+q7) + 256 * ((q3+q4+q5+q6+q7) + 256 * ((q4+q5+q6+q7) + 256 * ((q5+q6+q7) + 256 * ((q6+q7) + 256 * (q7))))))) := by rw [a2, hf]; omega
  rw [c3]
  exact md128 (by omega)
theorem V16_2 (x : Nat) (l : List Nat) : V16 (x :: 0 :: l) = x + 256 * V16 l := by
  show x + 16 * (0 + 16 * V16 l) = _
  omega
theorem V16_n : V16 [] = 0 := rfl
theorem pfin2 (q0 q1 q2 q3 q4 q5 q6 q7 : Nat) (h0 : q0 ≤ 8) (h1 : q1 ≤ 8) (h2 : q2 ≤ 8) (h3 : q3 ≤ 8) (h4 : q4 ≤ 8) (h5 : q5 ≤ 8) (h6 : q6 ≤ 8) (h7 : q7 ≤ 8) (d : Nat) (hd : d = V16 [q0, 0, q1, 0, q2, 0, q3, 0, q4, 0, q5, 0, q6, 0, q7, 0]) : (d + d / 2 ^ 8 + (d + d / 2 ^ 8) / 2 ^ 16 + (d + d / 2 ^ 8 + (d + d / 2 ^ 8) / 2 ^ 16) / 2 ^ 32) % 128 = q0 + q1 + q2 + q3 + q4 + q5 + q6 + q7 := by
  simp only [V16_2, V16_n, Nat.mul_zero, Nat.add_zero] at hd
  exact pfc q0 q1 q2 q3 q4 q5 q6 q7 h0 h1 h2 h3 h4 h5 h6 h7 _ (pfb q0 q1 q2 q3 q4 q5 q6 q7 h0 h1 h2 h3 h4 h5 h6 h7 _ (pfa q0 q1 q2 q3 q4 q5 q6 q7 h0 h1 h2 h3 h4 h5 h6 h7 d hd))
theorem pfin (p0 p1 p2 p3 p4 p5 p6 p7 p8 p9 p10 p11 p12 p13 p14 p15 : Nat) (h0 : p0 ≤ 4) (h1 : p1 ≤ 4) (h2 : p2 ≤ 4) (h3 : p3 ≤ 4) (h4 : p4 ≤ 4) (h5 : p5 ≤ 4) (h6 : p6 ≤ 4) (h7 : p7 ≤ 4) (h8 : p8 ≤ 4) (h9 : p9 ≤ 4) (h10 : p10 ≤ 4) (h11 : p11 ≤ 4) (h12 : p12 ≤ 4) (h13 : p13 ≤ 4) (h14 : p14 ≤ 4) (h15 : p15 ≤ 4) (c : Nat) (hc : c = V16 [p0, p1, p2, p3, p4, p5, p6, p7, p8, p9, p10, p11, p12, p13, p14, p15]) : ((c + c / 2 ^ 4) &&& 1085102592571150095) = V16 [p0 + p1, 0, p2 + p3, 0, p4 + p5, 0, p6 + p7, 0, p8 + p9, 0, p10 + p11, 0, p12 + p13, 0, p14 + p15, 0] := by
  have e1 : c + c / 2 ^ 4 = V16 [p0 + p1, p1 + p2, p2 + p3, p3 + p4, p4 + p5, p5 + p6, p6 + p7, p7 + p8, p8 + p9, p9 + p10, p10 + p11, p11 + p12, p12 + p13, p13 + p14, p14 + p15, p15] := by
    simp only [V16] at hc ⊢
    omega
  have e2 : 1085102592571150095 = V16 [15, 0, 15, 0, 15, 0, 15, 0, 15, 0, 15, 0, 15, 0, 15, 0] := by decide
  rw [e1, e2, V_and _ _ (by rfl)]
  · simp only [andL, Nat.and_zero]
    rw [and15 (p0 + p1) (by omega), and15 (p2 + p3) (by omega), and15 (p4 + p5) (by omega), and15 (p6 + p7) (by omega), and15 (p8 + p9) (by omega), and15 (p10 + p11) (by omega), and15 (p12 + p13) (by omega), and15 (p14 + p15) (by omega)]
  · intro x hx
    simp only [List.mem_cons, List.not_mem_nil, or_false] at hx
    omega
  · intro x hx
    simp only [List.mem_cons, List.not_mem_nil, or_false] at hx
    omega
theorem pc64_eq {a : Nat} (ha : a < 2 ^ 64) : pc64 a = cntN 64 a := by
  have hv : V16 (nib a 16) = a := V_nib 16 a (by rw [show 16 ^ 16 = 2 ^ 64 by decide]; exact ha)
  have hl := nib_lt 16 a
  have hn := nib_len 16 a
  have r5 : R16 5 16 = 6148914691236517205 := by decide
  have r3 : R16 3 16 = 3689348814741910323 := by decide
  have e1 := bst1 (nib a 16) hl
  rw [hn, hv, r5] at e1
  have hl1 : ∀ x ∈ (nib a 16).map s1f, x < 16 := fun x hx => by
    obtain ⟨y, hy, rfl⟩ := List.mem_map.mp hx
    exact s1_lt y (hl y hy)
  have e2 := bst2 ((nib a 16).map s1f) hl1
  rw [List.length_map, hn, r3, List.map_map] at e2
  have e3 : (nib a 16).map (s2f ∘ s1f) = (nib a 16).map pnf := List.map_congr_left (fun x hx => s12 x (hl x hx))
  rw [e3] at e2
  have e4 := cntN_nib 16 a
  rw [show 4 * 16 = 64 by decide] at e4
  unfold pc64
  simp only [Nat.shiftRight_eq_div_pow, Nat.pow_one, show 2 ^ 2 = 4 by decide, e1, e2, e4]
  clear e1 e2 e3 e4 hl1 r5 r3 hn hl hv ha
  simp only [nib, List.map, sumL]
  have main := pfin (pnf ((a) % 16)) (pnf ((a / 16) % 16)) (pnf ((a / 16 / 16) % 16)) (pnf ((a / 16 / 16 / 16) % 16)) (pnf ((a / 16 / 16 / 16 / 16) % 16)) (pnf ((a / 16 / 16 / 16 / 16 / 16) % 16)) (pnf ((a / 16 / 16 / 16 / 16 / 16 / 16) % 16)) (pnf ((a / 16 / 16 / 16 / 16 / 16 / 16 / 16) % 16)) (pnf ((a / 16 / 16 / 16 / 16 / 16 / 16 / 16 / 16) % 16)) (pnf ((a / 16 / 16 / 16 / 16 / 16 / 16 / 16 / 16 / 16) % 16)) (pnf ((a / 16 / 16 / 16 / 16 / 16 / 16 / 16 / 16 / 16 / 16) % 16)) (pnf ((a / 16 / 16 / 16 / 16 / 16 / 16 / 16 / 16 / 16 / 16 / 16) % 16)) (pnf ((a / 16 / 16 / 16 / 16 / 16 / 16 / 16 / 16 / 16 / 16 / 16 / 16) % 16)) (pnf ((a / 16 / 16 / 16 / 16 / 16 / 16 / 16 / 16 / 16 / 16 / 16 / 16 / 16) % 16)) (pnf ((a / 16 / 16 / 16 / 16 / 16 / 16 / 16 / 16 / 16 / 16 / 16 / 16 / 16 / 16) % 16)) (pnf ((a / 16 / 16 / 16 / 16 / 16 / 16 / 16 / 16 / 16 / 16 / 16 / 16 / 16 / 16 / 16) % 16)) (pnf_le _) (pnf_le _) (pnf_le _) (pnf_le _) (pnf_le _) (pnf_le _) (pnf_le _) (pnf_le _) (pnf_le _) (pnf_le _) (pnf_le _) (pnf_le _) (pnf_le _) (pnf_le _) (pnf_le _) (pnf_le _) _ rfl
  rw [main]
  have main2 := pfin2 (pnf ((a) % 16) + pnf ((a / 16) % 16)) (pnf ((a / 16 / 16) % 16) + pnf ((a / 16 / 16 / 16) % 16)) (pnf ((a / 16 / 16 / 16 / 16) % 16) + pnf ((a / 16 / 16 / 16 / 16 / 16) % 16)) (pnf ((a / 16 / 16 / 16 / 16 / 16 / 16) % 16) + pnf ((a / 16 / 16 / 16 / 16 / 16 / 16 / 16) % 16)) (pnf ((a / 16 / 16 / 16 / 16 / 16 / 16 / 16 / 16) % 16) + pnf ((a / 16 / 16 / 16 / 16 / 16 / 16 / 16 / 16 / 16) % 16)) (pnf ((a / 16 / 16 / 16 / 16 / 16 / 16 / 16 / 16 / 16 / 16) % 16) + pnf ((a / 16 / 16 / 16 / 16 / 16 / 16 / 16 / 16 / 16 / 16 / 16) % 16)) (pnf ((a / 16 / 16 / 16 / 16 / 16 / 16 / 16 / 16 / 16 / 16 / 16 / 16) % 16) + pnf ((a / 16 / 16 / 16 / 16 / 16 / 16 / 16 / 16 / 16 / 16 / 16 / 16 / 16) % 16)) (pnf ((a / 16 / 16 / 16 / 16 / 16 / 16 / 16 / 16 / 16 / 16 / 16 / 16 / 16 / 16) % 16) + pnf ((a / 16 / 16 / 16 / 16 / 16 / 16 / 16 / 16 / 16 / 16 / 16 / 16 / 16 / 16 / 16) % 16)) (Nat.add_le_add (pnf_le _) (pnf_le _)) (Nat.add_le_add (pnf_le _) (pnf_le _)) (Nat.add_le_add (pnf_le _) (pnf_le _)) (Nat.add_le_add (pnf_le _) (pnf_le _)) (Nat.add_le_add (pnf_le _) (pnf_le _)) (Nat.add_le_add (pnf_le _) (pnf_le _)) (Nat.add_le_add (pnf_le _) (pnf_le _)) (Nat.add_le_add (pnf_le _) (pnf_le _)) _ rfl
  rw [main2]
  omega
