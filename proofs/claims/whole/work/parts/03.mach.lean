/-! THE ABSTRACT MACHINE. Values: ints and longs as Int, references as (tag, number), unset. The heap: tag, number, place to Int. -/
abbrev AV : Type := Option (Int ⊕ Int ⊕ (Nat × Nat))
def aI (x : Int) : AV := some (.inl x)
def aJ (x : Int) : AV := some (.inr (.inl x))
def aA (t k : Nat) : AV := some (.inr (.inr (t, k)))
abbrev aU : AV := none
abbrev Hp : Type := Nat → Nat → Nat → Int
def hset (h : Hp) (t k i : Nat) (v : Int) : Hp := fun t' k' i' => if t' = t ∧ k' = k ∧ i' = i then v else h t' k' i'
abbrev AC : Type := Nat × Int × Nat × Nat
abbrev Rs : Type := (Option AV ⊕ Nat) × Hp × Nat
def w32 (x : Int) : Int := (x + 2147483648) % 4294967296 - 2147483648
def w64 (x : Int) : Int := (x + 9223372036854775808) % 18446744073709551616 - 9223372036854775808
def iand (x y : Int) : Int := (Int32.ofInt x &&& Int32.ofInt y).toInt
def ior (x y : Int) : Int := (Int32.ofInt x ||| Int32.ofInt y).toInt
def ixor (x y : Int) : Int := (Int32.ofInt x ^^^ Int32.ofInt y).toInt
def ishl (x y : Int) : Int := (Int32.ofInt x <<< (Int32.ofInt y &&& 31)).toInt
def ishr (x y : Int) : Int := (Int32.ofInt x >>> (Int32.ofInt y &&& 31)).toInt
def iushr (x y : Int) : Int := ((Int32.ofInt x).toUInt32 >>> ((Int32.ofInt y).toUInt32 &&& Int32.toUInt32 31)).toInt32.toInt
def jand (x y : Int) : Int := (Int64.ofInt x &&& Int64.ofInt y).toInt
def jor (x y : Int) : Int := (Int64.ofInt x ||| Int64.ofInt y).toInt
def jshl (x y : Int) : Int := (Int64.ofInt x <<< ((Int32.ofInt y).toInt64 &&& 63)).toInt
def jshr (x y : Int) : Int := (Int64.ofInt x >>> ((Int32.ofInt y).toInt64 &&& 63)).toInt
def jushr (x y : Int) : Int := ((Int64.ofInt x).toUInt64 >>> ((Int32.ofInt y).toInt64.toUInt64 &&& Int64.toUInt64 63)).toInt64.toInt
def idiv (x y : Int) : Int := w32 (Int.tdiv x y)
def irem (x y : Int) : Int := Int.tmod x y
def jcmp (x y : Int) : Int := if y < x then 1 else if x = y then 0 else -1
def b2i (p : Prop) [Decidable p] : Int := if p then 1 else 0
def isJ : AV → Bool
  | some (.inr (.inl _)) => true
  | _ => false
def lget : List AV → Nat → AV
  | [], _ => none
  | x :: _, 0 => x
  | _ :: l, n + 1 => lget l n
def lset : List AV → Nat → AV → Option (List AV)
  | [], _, _ => none
  | _ :: l, 0, v => some (v :: l)
  | x :: l, n + 1, v => if n == 0 && isJ x then none else (lset l n v).map (fun r => x :: r)
def lset2 : List AV → Nat → AV → Option (List AV)
  | _ :: _ :: l, 0, v => some (v :: none :: l)
  | x :: l, n + 1, v => if n == 0 && isJ x then none else (lset2 l n v).map (fun r => x :: r)
  | _, _, _ => none
def tk : Nat → List AV → List AV → Option (List AV × List AV)
  | 0, acc, st => some (acc, st)
  | n + 1, acc, v :: st => tk n (v :: acc) st
  | _ + 1, _, [] => none
def rcv (a : Int) : List AV → Bool
  | some (.inr (.inr (t, _))) :: _ => decide ((t : Int) = a)
  | _ => false
def psh (v : Option AV) (st : List AV) : List AV := match v with
  | some x => x :: st
  | none => st
/-- what a method ends in: its answer or the exception, the heap, how many exceptions were made -/
def ri (x : Int) (h : Hp) : Option Rs := some (.inl (some (aI x)), h, 0)
def rl (x : Int) (h : Hp) : Option Rs := some (.inl (some (aJ x)), h, 0)
def rv (h : Hp) : Option Rs := some (.inl none, h, 0)
def th (e : Nat) (h : Hp) : Option Rs := some (.inr e, h, 1)
def addc (n : Nat) (r : Option Rs) : Option Rs := match r with
  | some (o, h, k) => some (o, h, n + k)
  | none => none
def cbind (r : Option Rs) (kr : Option AV → Hp → Option Rs) (ke : Nat → Hp → Option Rs) : Option Rs := match r with
  | some (.inl v, h, n) => addc n (kr v h)
  | some (.inr e, h, n) => addc n (ke e h)
  | none => none
def wd : List AV → Nat
  | [] => 0
  | v :: l => (if isJ v then 2 else 1) + wd l
def hcpy (h : Hp) (t k t' k' i j n : Nat) : Hp := fun a b c => if a = t' ∧ b = k' ∧ j ≤ c ∧ c < j + n then h t k (i + (c - j)) else h a b c
/-- the steps that only move data -/
def step1 (i : AC) (σ st : List AV) (h : Hp) : Option (List AV × List AV × Hp) := match i with
  | (1, a, _, _) => some (σ, aI a :: st, h)
  | (2, a, _, _) => some (σ, aJ a :: st, h)
  | (3, _, b, _) => some (σ, aA 20 b :: st, h)
  | (4, _, b, _) => match lget σ b with
    | some (.inl x) => some (σ, aI x :: st, h)
    | _ => none
  | (5, _, b, _) => match lget σ b with
    | some (.inr (.inl x)) => some (σ, aJ x :: st, h)
    | _ => none
  | (6, _, b, _) => match lget σ b with
    | some (.inr (.inr (t, k))) => some (σ, aA t k :: st, h)
    | _ => none
  | (7, _, b, _) => match st with
    | some (.inl x) :: s => (lset σ b (aI x)).map (fun r => (r, s, h))
    | _ => none
  | (8, _, b, _) => match st with
    | some (.inr (.inl x)) :: s => (lset2 σ b (aJ x)).map (fun r => (r, s, h))
    | _ => none
  | (9, _, b, _) => match st with
    | some (.inr (.inr (t, k))) :: s => (lset σ b (aA t k)).map (fun r => (r, s, h))
    | none :: s => (lset σ b none).map (fun r => (r, s, h))
    | _ => none
  | (10, a, b, _) => match lget σ b with
    | some (.inl x) => (lset σ b (aI (w32 (x + a)))).map (fun r => (r, st, h))
    | _ => none
  | (11, _, _, _) => match st with
    | some (.inl y) :: some (.inl x) :: s => some (σ, aI (w32 (x + y)) :: s, h)
    | _ => none
  | (12, _, _, _) => match st with
    | some (.inl y) :: some (.inl x) :: s => some (σ, aI (w32 (x - y)) :: s, h)
    | _ => none
  | (13, _, _, _) => match st with
    | some (.inl y) :: some (.inl x) :: s => some (σ, aI (w32 (x * y)) :: s, h)
    | _ => none
  | (14, _, _, _) => match st with
    | some (.inl y) :: some (.inl x) :: s => if y = 0 then none else some (σ, aI (idiv x y) :: s, h)
    | _ => none
  | (15, _, _, _) => match st with
    | some (.inl y) :: some (.inl x) :: s => if y = 0 then none else some (σ, aI (irem x y) :: s, h)
    | _ => none
  | (16, _, _, _) => match st with
    | some (.inl x) :: s => some (σ, aI (w32 (-x)) :: s, h)
    | _ => none
  | (17, _, _, _) => match st with
    | some (.inl y) :: some (.inl x) :: s => some (σ, aI (iand x y) :: s, h)
    | _ => none
  | (18, _, _, _) => match st with
    | some (.inl y) :: some (.inl x) :: s => some (σ, aI (ior x y) :: s, h)
    | _ => none
  | (19, _, _, _) => match st with
    | some (.inl y) :: some (.inl x) :: s => some (σ, aI (ixor x y) :: s, h)
    | _ => none
  | (20, _, _, _) => match st with
    | some (.inl y) :: some (.inl x) :: s => some (σ, aI (ishl x y) :: s, h)
    | _ => none
  | (21, _, _, _) => match st with
    | some (.inl y) :: some (.inl x) :: s => some (σ, aI (ishr x y) :: s, h)
    | _ => none
  | (22, _, _, _) => match st with
    | some (.inl y) :: some (.inl x) :: s => some (σ, aI (iushr x y) :: s, h)
    | _ => none
  | (23, _, _, _) => match st with
    | some (.inl x) :: s => some (σ, aJ x :: s, h)
    | _ => none
  | (24, _, _, _) => match st with
    | some (.inr (.inl x)) :: s => some (σ, aI (w32 x) :: s, h)
    | _ => none
  | (25, _, _, _) => match st with
    | some (.inr (.inl y)) :: some (.inr (.inl x)) :: s => some (σ, aJ (w64 (x + y)) :: s, h)
    | _ => none
  | (26, _, _, _) => match st with
    | some (.inr (.inl y)) :: some (.inr (.inl x)) :: s => some (σ, aJ (w64 (x - y)) :: s, h)
    | _ => none
  | (27, _, _, _) => match st with
    | some (.inr (.inl y)) :: some (.inr (.inl x)) :: s => some (σ, aJ (jand x y) :: s, h)
    | _ => none
  | (28, _, _, _) => match st with
    | some (.inr (.inl y)) :: some (.inr (.inl x)) :: s => some (σ, aJ (jor x y) :: s, h)
    | _ => none
  | (29, _, _, _) => match st with
    | some (.inl y) :: some (.inr (.inl x)) :: s => some (σ, aJ (jshl x y) :: s, h)
    | _ => none
  | (30, _, _, _) => match st with
    | some (.inl y) :: some (.inr (.inl x)) :: s => some (σ, aJ (jshr x y) :: s, h)
    | _ => none
  | (31, _, _, _) => match st with
    | some (.inl y) :: some (.inr (.inl x)) :: s => some (σ, aJ (jushr x y) :: s, h)
    | _ => none
  | (32, _, _, _) => match st with
    | some (.inr (.inl y)) :: some (.inr (.inl x)) :: s => some (σ, aI (jcmp x y) :: s, h)
    | _ => none
  | (33, _, b, c) => match st with
    | some (.inr (.inr (t, k))) :: s => if t = c then some (σ, aI (h b k 0) :: s, h) else none
    | _ => none
  | (34, _, b, c) => match st with
    | some (.inr (.inr (t, k))) :: s => if t = c then some (σ, aA b k :: s, h) else none
    | _ => none
  | (35, a, b, c) => match st with
    | some (.inr (.inr (t, _))) :: s => if t = c then some (σ, aA b a.toNat :: s, h) else none
    | _ => none
  | (36, _, b, c) => match st with
    | some (.inl x) :: some (.inr (.inr (t, k))) :: s => if t = c then some (σ, s, hset h b k 0 x) else none
    | _ => none
  | (37, _, b, c) => match st with
    | some (.inl x) :: some (.inr (.inr (t, k))) :: s => if t = c ∧ (x = 0 ∨ x = 1) then some (σ, s, hset h b k 0 x) else none
    | _ => none
  | (38, _, _, _) => match st with
    | some (.inl i) :: some (.inr (.inr (t, k))) :: s => if 0 ≤ i ∧ i < aLen t then some (σ, aI (h t k i.toNat) :: s, h) else none
    | _ => none
  | (39, _, _, _) => match st with
    | some (.inl x) :: some (.inl i) :: some (.inr (.inr (t, k))) :: s => if 0 ≤ i ∧ i < aLen t then some (σ, s, hset h t k i.toNat x) else none
    | _ => none
  | (40, _, _, _) => match st with
    | some (.inl i) :: some (.inr (.inr (t, k))) :: s => if 0 ≤ i ∧ i < zLen t then some (σ, aI (h t k i.toNat) :: s, h) else none
    | _ => none
  | (41, _, _, _) => match st with
    | some (.inl x) :: some (.inl i) :: some (.inr (.inr (t, k))) :: s => if (0 ≤ i ∧ i < zLen t) ∧ (x = 0 ∨ x = 1) then some (σ, s, hset h t k i.toNat x) else none
    | _ => none
  | (42, _, _, _) => match st with
    | some (.inl i) :: some (.inr (.inr (t, _))) :: s => if i = 0 ∧ t = 25 then some (σ, aJ (h 25 0 0) :: s, h) else none
    | _ => none
  | (43, _, _, _) => match st with
    | some (.inr (.inl x)) :: some (.inl i) :: some (.inr (.inr (t, _))) :: s => if i = 0 ∧ t = 25 then some (σ, s, hset h 25 0 0 x) else none
    | _ => none
  | (44, _, _, _) => match st with
    | some (.inl i) :: some (.inr (.inr (t, _))) :: s => if (0 ≤ i ∧ i < 12) ∧ t = 26 then some (σ, aA 7 (i.toNat + 3) :: s, h) else none
    | _ => none
  | (45, _, _, _) => match st with
    | some (.inr (.inr (t, _))) :: s => if 0 < aLen t then some (σ, aI (aLen t) :: s, h) else none
    | _ => none
  | (46, _, _, _) => match st with
    | some (.inr (.inr (t, k))) :: s => if t = 20 then some (σ, aA 21 k :: s, h) else none
    | _ => none
  | (47, _, _, _) => match st with
    | some (.inl x) :: s => some (σ, aI x :: aI x :: s, h)
    | some (.inr (.inr (t, k))) :: s => some (σ, aA t k :: aA t k :: s, h)
    | _ => none
  | (48, _, _, _) => match st with
    | some (.inl y) :: some (.inr (.inr (t, k))) :: s => some (σ, aI y :: aA t k :: aI y :: aA t k :: s, h)
    | _ => none
  | (49, _, _, _) => match st with
    | some (.inl _) :: s => some (σ, s, h)
    | _ => none
  | (50, _, _, _) => match st with
    | some (.inl n) :: some (.inl j) :: some (.inr (.inr (t', k'))) :: some (.inl i) :: some (.inr (.inr (t, k))) :: s =>
      if (t = t' ∧ k ≠ k') ∧ i = 0 ∧ j = 0 ∧ 0 < n ∧ n ≤ aLen t ∧ Nat.ble (wd s) 8 = true then some (σ, s, hcpy h t k t' k' 0 0 n.toNat) else none
    | _ => none
  | (51, _, _, _) => some (σ, none :: st, h)
  | (52, _, _, _) => match st with
    | some (.inl x) :: s => some (σ, aI (x % 65536) :: s, h)
    | _ => none
  | (53, _, _, _) => match st with
    | some (.inl i) :: some (.inr (.inr (t, _))) :: s => if (0 ≤ i ∧ i < h 27 0 0) ∧ t = 22 then some (σ, aI (h 22 0 i.toNat) :: s, h) else none
    | _ => none
  | (54, _, _, _) => match st with
    | some (.inr (.inr (t, _))) :: s => if t = 22 then some (σ, aI (h 27 0 0) :: s, h) else none
    | _ => none
  | (55, _, _, _) => match st with
    | some (.inl i) :: some (.inr (.inr (t, k))) :: s => if (0 ≤ i ∧ i < sLen k) ∧ t = 21 then some (σ, aI (sChr k i.toNat) :: s, h) else none
    | _ => none
  | (56, _, _, _) => match st with
    | some (.inr (.inr (t, k))) :: s => if t = 21 then some (σ, aI (sLen k) :: s, h) else none
    | _ => none
  | (57, _, _, _) => match st with
    | some (.inr (.inr (t, _))) :: s => if t = 20 then some (σ, aI 0 :: s, h) else none
    | _ => none
  | (58, a, _, _) => some (σ, aI a :: st, h)
  | _ => none
/-- a row of cases -/
def swl (x : Int) (d : Nat) (k : Nat → Option Rs) : List (Int × Nat) → Option Rs
  | [] => k d
  | (v, t) :: l => if x = v then k t else swl x d k l
def hfind (e : Nat) : List (Nat × Nat) → Option Nat
  | [] => none
  | (q, t) :: l => if q = e then some t else hfind e l
def swp (x : Int) (d : Nat) : List (Int × Nat) → Nat
  | [] => d
  | (v, t) :: l => if x = v then t else swp x d l
/-- what a step that branches, calls or ends asks for: a jump, the next step, a call (with the handlers), the end -/
abbrev Ct : Type := (Nat × List AV) ⊕ (List AV) ⊕ (Nat × List AV × List AV × Option (List (Nat × Nat))) ⊕ Option Rs
def cjmp (b : Nat) (s : List AV) : Ct := .inl (b, s)
def cnxt (s : List AV) : Ct := .inr (.inl s)
def ccall (m : Nat) (args s : List AV) (hs : Option (List (Nat × Nat))) : Ct := .inr (.inr (.inl (m, args, s, hs)))
def cend (r : Option Rs) : Ct := .inr (.inr (.inr r))
def ctl (i : AC) (st : List AV) (h : Hp) : Option Ct := match i with
  | (60, _, b, _) => some (cjmp b st)
  | (61, _, b, _) => some (cjmp b st)
  | (62, _, b, _) => match st with
    | some (.inl y) :: some (.inl x) :: s => some (if x = y then cjmp b s else cnxt s)
    | _ => none
  | (63, _, b, _) => match st with
    | some (.inl y) :: some (.inl x) :: s => some (if x = y then cnxt s else cjmp b s)
    | _ => none
  | (64, _, b, _) => match st with
    | some (.inl y) :: some (.inl x) :: s => some (if x < y then cjmp b s else cnxt s)
    | _ => none
  | (65, _, b, _) => match st with
    | some (.inl y) :: some (.inl x) :: s => some (if x < y then cnxt s else cjmp b s)
    | _ => none
  | (66, _, b, _) => match st with
    | some (.inl y) :: some (.inl x) :: s => some (if y < x then cjmp b s else cnxt s)
    | _ => none
  | (67, _, b, _) => match st with
    | some (.inl y) :: some (.inl x) :: s => some (if y < x then cnxt s else cjmp b s)
    | _ => none
  | (68, _, b, _) => match st with
    | some (.inl x) :: s => some (if x = 0 then cjmp b s else cnxt s)
    | _ => none
  | (69, _, b, _) => match st with
    | some (.inl x) :: s => some (if x = 0 then cnxt s else cjmp b s)
    | _ => none
  | (70, _, b, _) => match st with
    | some (.inl x) :: s => some (if x < 0 then cjmp b s else cnxt s)
    | _ => none
  | (71, _, b, _) => match st with
    | some (.inl x) :: s => some (if x < 0 then cnxt s else cjmp b s)
    | _ => none
  | (72, _, b, _) => match st with
    | some (.inl x) :: s => some (if 0 < x then cjmp b s else cnxt s)
    | _ => none
  | (73, _, b, _) => match st with
    | some (.inl x) :: s => some (if 0 < x then cnxt s else cjmp b s)
    | _ => none
  | (74, _, _, _) => match st with
    | some (.inr (.inr (t, _))) :: s => if t < 13 then some (cnxt s) else none
    | _ => none
  | (75, _, b, _) => match st with
    | some (.inr (.inr (t, _))) :: s => if t < 13 then some (cjmp b s) else none
    | _ => none
  | (76, _, b, _) => match st with
    | some (.inl x) :: s => some (cjmp (swp x (swD b) (swT b)) s)
    | _ => none
  | (79, a, b, c) => (tk c [] st).bind fun q => if rcv a q.1 && Nat.ble (wd q.2) 8 then some (ccall b q.1 q.2 none) else none
  | (80, _, b, c) => (tk c [] st).bind fun q => if Nat.ble (wd q.2) 8 then some (ccall b q.1 q.2 none) else none
  | (81, a, b, c) => (tk c [] st).bind fun q => if rcv 11 q.1 && Nat.ble (wd q.2) 8 then some (ccall b q.1 q.2 (some (hTab a.toNat))) else none
  | (82, _, _, _) => match st with
    | [some (.inl x)] => some (cend (ri x h))
    | _ => none
  | (83, _, _, _) => match st with
    | [] => some (cend (rv h))
    | _ => none
  | (84, _, b, _) => if Nat.ble (wd st) 8 then some (cend (th b h)) else none
  | (85, _, _, _) => match st with
    | [some (.inl x)] => if x = 0 ∨ x = 1 then some (cend (ri x h)) else none
    | _ => none
  | (86, _, _, _) => match st with
    | [some (.inl x)] => if 0 ≤ x ∧ x < 65536 then some (cend (ri x h)) else none
    | _ => none
  | (87, _, _, _) => match st with
    | [some (.inl x)] => if -128 ≤ x ∧ x < 128 then some (cend (ri x h)) else none
    | _ => none
  | (88, _, _, _) => match st with
    | [some (.inr (.inl x))] => some (cend (rl x h))
    | _ => none
  | _ => none
def onTh (E : Nat → List AV → List AV → Hp → Option Rs) (σ : List AV) (hs : Option (List (Nat × Nat))) (e : Nat) (h : Hp) : Option Rs := match hs with
  | none => some (.inr e, h, 0)
  | some l => match hfind e l with
    | some t => E t σ [none] h
    | none => none
def ex (E : Nat → List AV → List AV → Hp → Option Rs) (C : Nat → List AV → Hp → Option Rs) : List AC → List AV → List AV → Hp → Option Rs
  | [], _, _, _ => none
  | i :: L, σ, st, h => if i.1 < 60 then (step1 i σ st h).bind fun q => ex E C L q.1 q.2.1 q.2.2 else match ctl i st h with
    | some (.inl (b, s)) => E b σ s h
    | some (.inr (.inl s)) => ex E C L σ s h
    | some (.inr (.inr (.inl (m, args, s, hs)))) => cbind (C m args h) (fun v h2 => ex E C L σ (psh v s) h2) (onTh E σ hs)
    | some (.inr (.inr (.inr r))) => r
    | none => none
/-- a method's run of at most n jumps -/
def rn (C : Nat → List AV → Hp → Option Rs) (m : Nat) : Nat → Nat → List AV → List AV → Hp → Option Rs
  | 0, _, _, _, _ => none
  | n + 1, pc, σ, st, h => ex (rn C m n) C (codeAt m pc) σ st h
noncomputable def rnL (C : Nat → List AV → Hp → Option Rs) (m pc : Nat) (σ st : List AV) (h : Hp) : Option Rs :=
  haveI := Classical.propDecidable (∃ r, ∃ n, rn C m n pc σ st h = some r)
  if hx : ∃ r, ∃ n, rn C m n pc σ st h = some r then some hx.choose else none
def lay : List AV → List AV
  | [] => []
  | v :: l => if isJ v then v :: none :: lay l else v :: lay l
def ini (n : Nat) (args : List AV) : List AV := lay args ++ List.replicate (n - (lay args).length) none
noncomputable def cl : Nat → Nat → List AV → Hp → Option Rs
  | 0, _, _, _ => none
  | lv + 1, m, args, h => if (lay args).length ≤ mLoc m then rnL (cl lv) m 0 (ini (mLoc m) args) [] h else none
noncomputable def run (lv m pc : Nat) (σ st : List AV) (h : Hp) : Option Rs := rnL (cl lv) m pc σ st h
section XL
variable {E : Nat → List AV → List AV → Hp → Option Rs} {C : Nat → List AV → Hp → Option Rs} {L : List AC} {σ st : List AV} {h : Hp} {a : Int} {b c : Nat}
theorem x_1  : ex E C ((1, a, b, c) :: L) σ st h = ex E C L σ (aI a :: st) h := id rfl
theorem x_2  : ex E C ((2, a, b, c) :: L) σ st h = ex E C L σ (aJ a :: st) h := id rfl
theorem x_3  : ex E C ((3, a, b, c) :: L) σ st h = ex E C L σ (aA 20 b :: st) h := id rfl
theorem x_4_0  {x : Int} : ex E C ((4, a, 0, c) :: L) (aI x :: σ) st h = ex E C L (aI x :: σ) (aI x :: st) h := id rfl
theorem x_5_0  {x : Int} : ex E C ((5, a, 0, c) :: L) (aJ x :: σ) st h = ex E C L (aJ x :: σ) (aJ x :: st) h := id rfl
theorem x_6_0  {t k : Nat} : ex E C ((6, a, 0, c) :: L) (aA t k :: σ) st h = ex E C L (aA t k :: σ) (aA t k :: st) h := id rfl
theorem x_7_0  {x : Int} {v : AV} : ex E C ((7, a, 0, c) :: L) (v :: σ) (aI x :: st) h = ex E C L (aI x :: σ) st h := id rfl
theorem x_9_0  {t k : Nat} {v : AV} : ex E C ((9, a, 0, c) :: L) (v :: σ) (aA t k :: st) h = ex E C L (aA t k :: σ) st h := id rfl
theorem x_9n_0  {v : AV} : ex E C ((9, a, 0, c) :: L) (v :: σ) (none :: st) h = ex E C L (none :: σ) st h := id rfl
theorem x_8_0  {x : Int} {v u : AV} : ex E C ((8, a, 0, c) :: L) (v :: u :: σ) (aJ x :: st) h = ex E C L (aJ x :: none :: σ) st h := id rfl
theorem x_10_0  {x : Int} : ex E C ((10, a, 0, c) :: L) (aI x :: σ) st h = ex E C L (aI (w32 (x + a)) :: σ) st h := id rfl
theorem x_4_1 {x0 : AV} {x : Int} : ex E C ((4, a, 1, c) :: L) (x0 :: aI x :: σ) st h = ex E C L (x0 :: aI x :: σ) (aI x :: st) h := id rfl
theorem x_5_1 {x0 : AV} {x : Int} : ex E C ((5, a, 1, c) :: L) (x0 :: aJ x :: σ) st h = ex E C L (x0 :: aJ x :: σ) (aJ x :: st) h := id rfl
theorem x_6_1 {x0 : AV} {t k : Nat} : ex E C ((6, a, 1, c) :: L) (x0 :: aA t k :: σ) st h = ex E C L (x0 :: aA t k :: σ) (aA t k :: st) h := id rfl
theorem x_7_1_I  {z : Int} {x : Int} {v : AV} : ex E C ((7, a, 1, c) :: L) ((aI z) :: v :: σ) (aI x :: st) h = ex E C L ((aI z) :: aI x :: σ) st h := id rfl
theorem x_9_1_I  {z : Int} {t k : Nat} {v : AV} : ex E C ((9, a, 1, c) :: L) ((aI z) :: v :: σ) (aA t k :: st) h = ex E C L ((aI z) :: aA t k :: σ) st h := id rfl
theorem x_9n_1_I  {z : Int} {v : AV} : ex E C ((9, a, 1, c) :: L) ((aI z) :: v :: σ) (none :: st) h = ex E C L ((aI z) :: none :: σ) st h := id rfl
theorem x_8_1_I  {z : Int} {x : Int} {v u : AV} : ex E C ((8, a, 1, c) :: L) ((aI z) :: v :: u :: σ) (aJ x :: st) h = ex E C L ((aI z) :: aJ x :: none :: σ) st h := id rfl
theorem x_10_1_I  {z : Int} {x : Int} : ex E C ((10, a, 1, c) :: L) ((aI z) :: aI x :: σ) st h = ex E C L ((aI z) :: aI (w32 (x + a)) :: σ) st h := id rfl
theorem x_7_1_A  {z w : Nat} {x : Int} {v : AV} : ex E C ((7, a, 1, c) :: L) ((aA z w) :: v :: σ) (aI x :: st) h = ex E C L ((aA z w) :: aI x :: σ) st h := id rfl
theorem x_9_1_A  {z w : Nat} {t k : Nat} {v : AV} : ex E C ((9, a, 1, c) :: L) ((aA z w) :: v :: σ) (aA t k :: st) h = ex E C L ((aA z w) :: aA t k :: σ) st h := id rfl
theorem x_9n_1_A  {z w : Nat} {v : AV} : ex E C ((9, a, 1, c) :: L) ((aA z w) :: v :: σ) (none :: st) h = ex E C L ((aA z w) :: none :: σ) st h := id rfl
theorem x_8_1_A  {z w : Nat} {x : Int} {v u : AV} : ex E C ((8, a, 1, c) :: L) ((aA z w) :: v :: u :: σ) (aJ x :: st) h = ex E C L ((aA z w) :: aJ x :: none :: σ) st h := id rfl
theorem x_10_1_A  {z w : Nat} {x : Int} : ex E C ((10, a, 1, c) :: L) ((aA z w) :: aI x :: σ) st h = ex E C L ((aA z w) :: aI (w32 (x + a)) :: σ) st h := id rfl
theorem x_7_1_U  {x : Int} {v : AV} : ex E C ((7, a, 1, c) :: L) (none :: v :: σ) (aI x :: st) h = ex E C L (none :: aI x :: σ) st h := id rfl
theorem x_9_1_U  {t k : Nat} {v : AV} : ex E C ((9, a, 1, c) :: L) (none :: v :: σ) (aA t k :: st) h = ex E C L (none :: aA t k :: σ) st h := id rfl
theorem x_9n_1_U  {v : AV} : ex E C ((9, a, 1, c) :: L) (none :: v :: σ) (none :: st) h = ex E C L (none :: none :: σ) st h := id rfl
theorem x_8_1_U  {x : Int} {v u : AV} : ex E C ((8, a, 1, c) :: L) (none :: v :: u :: σ) (aJ x :: st) h = ex E C L (none :: aJ x :: none :: σ) st h := id rfl
theorem x_10_1_U  {x : Int} : ex E C ((10, a, 1, c) :: L) (none :: aI x :: σ) st h = ex E C L (none :: aI (w32 (x + a)) :: σ) st h := id rfl
theorem x_4_2 {x0 x1 : AV} {x : Int} : ex E C ((4, a, 2, c) :: L) (x0 :: x1 :: aI x :: σ) st h = ex E C L (x0 :: x1 :: aI x :: σ) (aI x :: st) h := id rfl
theorem x_5_2 {x0 x1 : AV} {x : Int} : ex E C ((5, a, 2, c) :: L) (x0 :: x1 :: aJ x :: σ) st h = ex E C L (x0 :: x1 :: aJ x :: σ) (aJ x :: st) h := id rfl
theorem x_6_2 {x0 x1 : AV} {t k : Nat} : ex E C ((6, a, 2, c) :: L) (x0 :: x1 :: aA t k :: σ) st h = ex E C L (x0 :: x1 :: aA t k :: σ) (aA t k :: st) h := id rfl
theorem x_7_2_I {x0 : AV} {z : Int} {x : Int} {v : AV} : ex E C ((7, a, 2, c) :: L) (x0 :: (aI z) :: v :: σ) (aI x :: st) h = ex E C L (x0 :: (aI z) :: aI x :: σ) st h := id rfl
theorem x_9_2_I {x0 : AV} {z : Int} {t k : Nat} {v : AV} : ex E C ((9, a, 2, c) :: L) (x0 :: (aI z) :: v :: σ) (aA t k :: st) h = ex E C L (x0 :: (aI z) :: aA t k :: σ) st h := id rfl
theorem x_9n_2_I {x0 : AV} {z : Int} {v : AV} : ex E C ((9, a, 2, c) :: L) (x0 :: (aI z) :: v :: σ) (none :: st) h = ex E C L (x0 :: (aI z) :: none :: σ) st h := id rfl
theorem x_8_2_I {x0 : AV} {z : Int} {x : Int} {v u : AV} : ex E C ((8, a, 2, c) :: L) (x0 :: (aI z) :: v :: u :: σ) (aJ x :: st) h = ex E C L (x0 :: (aI z) :: aJ x :: none :: σ) st h := id rfl
theorem x_10_2_I {x0 : AV} {z : Int} {x : Int} : ex E C ((10, a, 2, c) :: L) (x0 :: (aI z) :: aI x :: σ) st h = ex E C L (x0 :: (aI z) :: aI (w32 (x + a)) :: σ) st h := id rfl
theorem x_7_2_A {x0 : AV} {z w : Nat} {x : Int} {v : AV} : ex E C ((7, a, 2, c) :: L) (x0 :: (aA z w) :: v :: σ) (aI x :: st) h = ex E C L (x0 :: (aA z w) :: aI x :: σ) st h := id rfl
theorem x_9_2_A {x0 : AV} {z w : Nat} {t k : Nat} {v : AV} : ex E C ((9, a, 2, c) :: L) (x0 :: (aA z w) :: v :: σ) (aA t k :: st) h = ex E C L (x0 :: (aA z w) :: aA t k :: σ) st h := id rfl
theorem x_9n_2_A {x0 : AV} {z w : Nat} {v : AV} : ex E C ((9, a, 2, c) :: L) (x0 :: (aA z w) :: v :: σ) (none :: st) h = ex E C L (x0 :: (aA z w) :: none :: σ) st h := id rfl
theorem x_8_2_A {x0 : AV} {z w : Nat} {x : Int} {v u : AV} : ex E C ((8, a, 2, c) :: L) (x0 :: (aA z w) :: v :: u :: σ) (aJ x :: st) h = ex E C L (x0 :: (aA z w) :: aJ x :: none :: σ) st h := id rfl
theorem x_10_2_A {x0 : AV} {z w : Nat} {x : Int} : ex E C ((10, a, 2, c) :: L) (x0 :: (aA z w) :: aI x :: σ) st h = ex E C L (x0 :: (aA z w) :: aI (w32 (x + a)) :: σ) st h := id rfl
theorem x_7_2_U {x0 : AV} {x : Int} {v : AV} : ex E C ((7, a, 2, c) :: L) (x0 :: none :: v :: σ) (aI x :: st) h = ex E C L (x0 :: none :: aI x :: σ) st h := id rfl
theorem x_9_2_U {x0 : AV} {t k : Nat} {v : AV} : ex E C ((9, a, 2, c) :: L) (x0 :: none :: v :: σ) (aA t k :: st) h = ex E C L (x0 :: none :: aA t k :: σ) st h := id rfl
theorem x_9n_2_U {x0 : AV} {v : AV} : ex E C ((9, a, 2, c) :: L) (x0 :: none :: v :: σ) (none :: st) h = ex E C L (x0 :: none :: none :: σ) st h := id rfl
theorem x_8_2_U {x0 : AV} {x : Int} {v u : AV} : ex E C ((8, a, 2, c) :: L) (x0 :: none :: v :: u :: σ) (aJ x :: st) h = ex E C L (x0 :: none :: aJ x :: none :: σ) st h := id rfl
theorem x_10_2_U {x0 : AV} {x : Int} : ex E C ((10, a, 2, c) :: L) (x0 :: none :: aI x :: σ) st h = ex E C L (x0 :: none :: aI (w32 (x + a)) :: σ) st h := id rfl
theorem x_4_3 {x0 x1 x2 : AV} {x : Int} : ex E C ((4, a, 3, c) :: L) (x0 :: x1 :: x2 :: aI x :: σ) st h = ex E C L (x0 :: x1 :: x2 :: aI x :: σ) (aI x :: st) h := id rfl
theorem x_5_3 {x0 x1 x2 : AV} {x : Int} : ex E C ((5, a, 3, c) :: L) (x0 :: x1 :: x2 :: aJ x :: σ) st h = ex E C L (x0 :: x1 :: x2 :: aJ x :: σ) (aJ x :: st) h := id rfl
theorem x_6_3 {x0 x1 x2 : AV} {t k : Nat} : ex E C ((6, a, 3, c) :: L) (x0 :: x1 :: x2 :: aA t k :: σ) st h = ex E C L (x0 :: x1 :: x2 :: aA t k :: σ) (aA t k :: st) h := id rfl
theorem x_7_3_I {x0 x1 : AV} {z : Int} {x : Int} {v : AV} : ex E C ((7, a, 3, c) :: L) (x0 :: x1 :: (aI z) :: v :: σ) (aI x :: st) h = ex E C L (x0 :: x1 :: (aI z) :: aI x :: σ) st h := id rfl
theorem x_9_3_I {x0 x1 : AV} {z : Int} {t k : Nat} {v : AV} : ex E C ((9, a, 3, c) :: L) (x0 :: x1 :: (aI z) :: v :: σ) (aA t k :: st) h = ex E C L (x0 :: x1 :: (aI z) :: aA t k :: σ) st h := id rfl
theorem x_9n_3_I {x0 x1 : AV} {z : Int} {v : AV} : ex E C ((9, a, 3, c) :: L) (x0 :: x1 :: (aI z) :: v :: σ) (none :: st) h = ex E C L (x0 :: x1 :: (aI z) :: none :: σ) st h := id rfl
theorem x_8_3_I {x0 x1 : AV} {z : Int} {x : Int} {v u : AV} : ex E C ((8, a, 3, c) :: L) (x0 :: x1 :: (aI z) :: v :: u :: σ) (aJ x :: st) h = ex E C L (x0 :: x1 :: (aI z) :: aJ x :: none :: σ) st h := id rfl
theorem x_10_3_I {x0 x1 : AV} {z : Int} {x : Int} : ex E C ((10, a, 3, c) :: L) (x0 :: x1 :: (aI z) :: aI x :: σ) st h = ex E C L (x0 :: x1 :: (aI z) :: aI (w32 (x + a)) :: σ) st h := id rfl
theorem x_7_3_A {x0 x1 : AV} {z w : Nat} {x : Int} {v : AV} : ex E C ((7, a, 3, c) :: L) (x0 :: x1 :: (aA z w) :: v :: σ) (aI x :: st) h = ex E C L (x0 :: x1 :: (aA z w) :: aI x :: σ) st h := id rfl
theorem x_9_3_A {x0 x1 : AV} {z w : Nat} {t k : Nat} {v : AV} : ex E C ((9, a, 3, c) :: L) (x0 :: x1 :: (aA z w) :: v :: σ) (aA t k :: st) h = ex E C L (x0 :: x1 :: (aA z w) :: aA t k :: σ) st h := id rfl
theorem x_9n_3_A {x0 x1 : AV} {z w : Nat} {v : AV} : ex E C ((9, a, 3, c) :: L) (x0 :: x1 :: (aA z w) :: v :: σ) (none :: st) h = ex E C L (x0 :: x1 :: (aA z w) :: none :: σ) st h := id rfl
theorem x_8_3_A {x0 x1 : AV} {z w : Nat} {x : Int} {v u : AV} : ex E C ((8, a, 3, c) :: L) (x0 :: x1 :: (aA z w) :: v :: u :: σ) (aJ x :: st) h = ex E C L (x0 :: x1 :: (aA z w) :: aJ x :: none :: σ) st h := id rfl
theorem x_10_3_A {x0 x1 : AV} {z w : Nat} {x : Int} : ex E C ((10, a, 3, c) :: L) (x0 :: x1 :: (aA z w) :: aI x :: σ) st h = ex E C L (x0 :: x1 :: (aA z w) :: aI (w32 (x + a)) :: σ) st h := id rfl
theorem x_7_3_U {x0 x1 : AV} {x : Int} {v : AV} : ex E C ((7, a, 3, c) :: L) (x0 :: x1 :: none :: v :: σ) (aI x :: st) h = ex E C L (x0 :: x1 :: none :: aI x :: σ) st h := id rfl
theorem x_9_3_U {x0 x1 : AV} {t k : Nat} {v : AV} : ex E C ((9, a, 3, c) :: L) (x0 :: x1 :: none :: v :: σ) (aA t k :: st) h = ex E C L (x0 :: x1 :: none :: aA t k :: σ) st h := id rfl
theorem x_9n_3_U {x0 x1 : AV} {v : AV} : ex E C ((9, a, 3, c) :: L) (x0 :: x1 :: none :: v :: σ) (none :: st) h = ex E C L (x0 :: x1 :: none :: none :: σ) st h := id rfl
theorem x_8_3_U {x0 x1 : AV} {x : Int} {v u : AV} : ex E C ((8, a, 3, c) :: L) (x0 :: x1 :: none :: v :: u :: σ) (aJ x :: st) h = ex E C L (x0 :: x1 :: none :: aJ x :: none :: σ) st h := id rfl
theorem x_10_3_U {x0 x1 : AV} {x : Int} : ex E C ((10, a, 3, c) :: L) (x0 :: x1 :: none :: aI x :: σ) st h = ex E C L (x0 :: x1 :: none :: aI (w32 (x + a)) :: σ) st h := id rfl
theorem x_4_4 {x0 x1 x2 x3 : AV} {x : Int} : ex E C ((4, a, 4, c) :: L) (x0 :: x1 :: x2 :: x3 :: aI x :: σ) st h = ex E C L (x0 :: x1 :: x2 :: x3 :: aI x :: σ) (aI x :: st) h := id rfl
theorem x_5_4 {x0 x1 x2 x3 : AV} {x : Int} : ex E C ((5, a, 4, c) :: L) (x0 :: x1 :: x2 :: x3 :: aJ x :: σ) st h = ex E C L (x0 :: x1 :: x2 :: x3 :: aJ x :: σ) (aJ x :: st) h := id rfl
theorem x_6_4 {x0 x1 x2 x3 : AV} {t k : Nat} : ex E C ((6, a, 4, c) :: L) (x0 :: x1 :: x2 :: x3 :: aA t k :: σ) st h = ex E C L (x0 :: x1 :: x2 :: x3 :: aA t k :: σ) (aA t k :: st) h := id rfl
theorem x_7_4_I {x0 x1 x2 : AV} {z : Int} {x : Int} {v : AV} : ex E C ((7, a, 4, c) :: L) (x0 :: x1 :: x2 :: (aI z) :: v :: σ) (aI x :: st) h = ex E C L (x0 :: x1 :: x2 :: (aI z) :: aI x :: σ) st h := id rfl
theorem x_9_4_I {x0 x1 x2 : AV} {z : Int} {t k : Nat} {v : AV} : ex E C ((9, a, 4, c) :: L) (x0 :: x1 :: x2 :: (aI z) :: v :: σ) (aA t k :: st) h = ex E C L (x0 :: x1 :: x2 :: (aI z) :: aA t k :: σ) st h := id rfl
theorem x_9n_4_I {x0 x1 x2 : AV} {z : Int} {v : AV} : ex E C ((9, a, 4, c) :: L) (x0 :: x1 :: x2 :: (aI z) :: v :: σ) (none :: st) h = ex E C L (x0 :: x1 :: x2 :: (aI z) :: none :: σ) st h := id rfl
theorem x_8_4_I {x0 x1 x2 : AV} {z : Int} {x : Int} {v u : AV} : ex E C ((8, a, 4, c) :: L) (x0 :: x1 :: x2 :: (aI z) :: v :: u :: σ) (aJ x :: st) h = ex E C L (x0 :: x1 :: x2 :: (aI z) :: aJ x :: none :: σ) st h := id rfl
theorem x_10_4_I {x0 x1 x2 : AV} {z : Int} {x : Int} : ex E C ((10, a, 4, c) :: L) (x0 :: x1 :: x2 :: (aI z) :: aI x :: σ) st h = ex E C L (x0 :: x1 :: x2 :: (aI z) :: aI (w32 (x + a)) :: σ) st h := id rfl
theorem x_7_4_A {x0 x1 x2 : AV} {z w : Nat} {x : Int} {v : AV} : ex E C ((7, a, 4, c) :: L) (x0 :: x1 :: x2 :: (aA z w) :: v :: σ) (aI x :: st) h = ex E C L (x0 :: x1 :: x2 :: (aA z w) :: aI x :: σ) st h := id rfl
theorem x_9_4_A {x0 x1 x2 : AV} {z w : Nat} {t k : Nat} {v : AV} : ex E C ((9, a, 4, c) :: L) (x0 :: x1 :: x2 :: (aA z w) :: v :: σ) (aA t k :: st) h = ex E C L (x0 :: x1 :: x2 :: (aA z w) :: aA t k :: σ) st h := id rfl
theorem x_9n_4_A {x0 x1 x2 : AV} {z w : Nat} {v : AV} : ex E C ((9, a, 4, c) :: L) (x0 :: x1 :: x2 :: (aA z w) :: v :: σ) (none :: st) h = ex E C L (x0 :: x1 :: x2 :: (aA z w) :: none :: σ) st h := id rfl
theorem x_8_4_A {x0 x1 x2 : AV} {z w : Nat} {x : Int} {v u : AV} : ex E C ((8, a, 4, c) :: L) (x0 :: x1 :: x2 :: (aA z w) :: v :: u :: σ) (aJ x :: st) h = ex E C L (x0 :: x1 :: x2 :: (aA z w) :: aJ x :: none :: σ) st h := id rfl
theorem x_10_4_A {x0 x1 x2 : AV} {z w : Nat} {x : Int} : ex E C ((10, a, 4, c) :: L) (x0 :: x1 :: x2 :: (aA z w) :: aI x :: σ) st h = ex E C L (x0 :: x1 :: x2 :: (aA z w) :: aI (w32 (x + a)) :: σ) st h := id rfl
theorem x_7_4_U {x0 x1 x2 : AV} {x : Int} {v : AV} : ex E C ((7, a, 4, c) :: L) (x0 :: x1 :: x2 :: none :: v :: σ) (aI x :: st) h = ex E C L (x0 :: x1 :: x2 :: none :: aI x :: σ) st h := id rfl
theorem x_9_4_U {x0 x1 x2 : AV} {t k : Nat} {v : AV} : ex E C ((9, a, 4, c) :: L) (x0 :: x1 :: x2 :: none :: v :: σ) (aA t k :: st) h = ex E C L (x0 :: x1 :: x2 :: none :: aA t k :: σ) st h := id rfl
theorem x_9n_4_U {x0 x1 x2 : AV} {v : AV} : ex E C ((9, a, 4, c) :: L) (x0 :: x1 :: x2 :: none :: v :: σ) (none :: st) h = ex E C L (x0 :: x1 :: x2 :: none :: none :: σ) st h := id rfl
theorem x_8_4_U {x0 x1 x2 : AV} {x : Int} {v u : AV} : ex E C ((8, a, 4, c) :: L) (x0 :: x1 :: x2 :: none :: v :: u :: σ) (aJ x :: st) h = ex E C L (x0 :: x1 :: x2 :: none :: aJ x :: none :: σ) st h := id rfl
theorem x_10_4_U {x0 x1 x2 : AV} {x : Int} : ex E C ((10, a, 4, c) :: L) (x0 :: x1 :: x2 :: none :: aI x :: σ) st h = ex E C L (x0 :: x1 :: x2 :: none :: aI (w32 (x + a)) :: σ) st h := id rfl
theorem x_4_5 {x0 x1 x2 x3 x4 : AV} {x : Int} : ex E C ((4, a, 5, c) :: L) (x0 :: x1 :: x2 :: x3 :: x4 :: aI x :: σ) st h = ex E C L (x0 :: x1 :: x2 :: x3 :: x4 :: aI x :: σ) (aI x :: st) h := id rfl
theorem x_5_5 {x0 x1 x2 x3 x4 : AV} {x : Int} : ex E C ((5, a, 5, c) :: L) (x0 :: x1 :: x2 :: x3 :: x4 :: aJ x :: σ) st h = ex E C L (x0 :: x1 :: x2 :: x3 :: x4 :: aJ x :: σ) (aJ x :: st) h := id rfl
theorem x_6_5 {x0 x1 x2 x3 x4 : AV} {t k : Nat} : ex E C ((6, a, 5, c) :: L) (x0 :: x1 :: x2 :: x3 :: x4 :: aA t k :: σ) st h = ex E C L (x0 :: x1 :: x2 :: x3 :: x4 :: aA t k :: σ) (aA t k :: st) h := id rfl
theorem x_7_5_I {x0 x1 x2 x3 : AV} {z : Int} {x : Int} {v : AV} : ex E C ((7, a, 5, c) :: L) (x0 :: x1 :: x2 :: x3 :: (aI z) :: v :: σ) (aI x :: st) h = ex E C L (x0 :: x1 :: x2 :: x3 :: (aI z) :: aI x :: σ) st h := id rfl
theorem x_9_5_I {x0 x1 x2 x3 : AV} {z : Int} {t k : Nat} {v : AV} : ex E C ((9, a, 5, c) :: L) (x0 :: x1 :: x2 :: x3 :: (aI z) :: v :: σ) (aA t k :: st) h = ex E C L (x0 :: x1 :: x2 :: x3 :: (aI z) :: aA t k :: σ) st h := id rfl
theorem x_9n_5_I {x0 x1 x2 x3 : AV} {z : Int} {v : AV} : ex E C ((9, a, 5, c) :: L) (x0 :: x1 :: x2 :: x3 :: (aI z) :: v :: σ) (none :: st) h = ex E C L (x0 :: x1 :: x2 :: x3 :: (aI z) :: none :: σ) st h := id rfl
theorem x_8_5_I {x0 x1 x2 x3 : AV} {z : Int} {x : Int} {v u : AV} : ex E C ((8, a, 5, c) :: L) (x0 :: x1 :: x2 :: x3 :: (aI z) :: v :: u :: σ) (aJ x :: st) h = ex E C L (x0 :: x1 :: x2 :: x3 :: (aI z) :: aJ x :: none :: σ) st h := id rfl
theorem x_10_5_I {x0 x1 x2 x3 : AV} {z : Int} {x : Int} : ex E C ((10, a, 5, c) :: L) (x0 :: x1 :: x2 :: x3 :: (aI z) :: aI x :: σ) st h = ex E C L (x0 :: x1 :: x2 :: x3 :: (aI z) :: aI (w32 (x + a)) :: σ) st h := id rfl
theorem x_7_5_A {x0 x1 x2 x3 : AV} {z w : Nat} {x : Int} {v : AV} : ex E C ((7, a, 5, c) :: L) (x0 :: x1 :: x2 :: x3 :: (aA z w) :: v :: σ) (aI x :: st) h = ex E C L (x0 :: x1 :: x2 :: x3 :: (aA z w) :: aI x :: σ) st h := id rfl
theorem x_9_5_A {x0 x1 x2 x3 : AV} {z w : Nat} {t k : Nat} {v : AV} : ex E C ((9, a, 5, c) :: L) (x0 :: x1 :: x2 :: x3 :: (aA z w) :: v :: σ) (aA t k :: st) h = ex E C L (x0 :: x1 :: x2 :: x3 :: (aA z w) :: aA t k :: σ) st h := id rfl
theorem x_9n_5_A {x0 x1 x2 x3 : AV} {z w : Nat} {v : AV} : ex E C ((9, a, 5, c) :: L) (x0 :: x1 :: x2 :: x3 :: (aA z w) :: v :: σ) (none :: st) h = ex E C L (x0 :: x1 :: x2 :: x3 :: (aA z w) :: none :: σ) st h := id rfl
theorem x_8_5_A {x0 x1 x2 x3 : AV} {z w : Nat} {x : Int} {v u : AV} : ex E C ((8, a, 5, c) :: L) (x0 :: x1 :: x2 :: x3 :: (aA z w) :: v :: u :: σ) (aJ x :: st) h = ex E C L (x0 :: x1 :: x2 :: x3 :: (aA z w) :: aJ x :: none :: σ) st h := id rfl
theorem x_10_5_A {x0 x1 x2 x3 : AV} {z w : Nat} {x : Int} : ex E C ((10, a, 5, c) :: L) (x0 :: x1 :: x2 :: x3 :: (aA z w) :: aI x :: σ) st h = ex E C L (x0 :: x1 :: x2 :: x3 :: (aA z w) :: aI (w32 (x + a)) :: σ) st h := id rfl
theorem x_7_5_U {x0 x1 x2 x3 : AV} {x : Int} {v : AV} : ex E C ((7, a, 5, c) :: L) (x0 :: x1 :: x2 :: x3 :: none :: v :: σ) (aI x :: st) h = ex E C L (x0 :: x1 :: x2 :: x3 :: none :: aI x :: σ) st h := id rfl
theorem x_9_5_U {x0 x1 x2 x3 : AV} {t k : Nat} {v : AV} : ex E C ((9, a, 5, c) :: L) (x0 :: x1 :: x2 :: x3 :: none :: v :: σ) (aA t k :: st) h = ex E C L (x0 :: x1 :: x2 :: x3 :: none :: aA t k :: σ) st h := id rfl
theorem x_9n_5_U {x0 x1 x2 x3 : AV} {v : AV} : ex E C ((9, a, 5, c) :: L) (x0 :: x1 :: x2 :: x3 :: none :: v :: σ) (none :: st) h = ex E C L (x0 :: x1 :: x2 :: x3 :: none :: none :: σ) st h := id rfl
theorem x_8_5_U {x0 x1 x2 x3 : AV} {x : Int} {v u : AV} : ex E C ((8, a, 5, c) :: L) (x0 :: x1 :: x2 :: x3 :: none :: v :: u :: σ) (aJ x :: st) h = ex E C L (x0 :: x1 :: x2 :: x3 :: none :: aJ x :: none :: σ) st h := id rfl
theorem x_10_5_U {x0 x1 x2 x3 : AV} {x : Int} : ex E C ((10, a, 5, c) :: L) (x0 :: x1 :: x2 :: x3 :: none :: aI x :: σ) st h = ex E C L (x0 :: x1 :: x2 :: x3 :: none :: aI (w32 (x + a)) :: σ) st h := id rfl
theorem x_4_6 {x0 x1 x2 x3 x4 x5 : AV} {x : Int} : ex E C ((4, a, 6, c) :: L) (x0 :: x1 :: x2 :: x3 :: x4 :: x5 :: aI x :: σ) st h = ex E C L (x0 :: x1 :: x2 :: x3 :: x4 :: x5 :: aI x :: σ) (aI x :: st) h := id rfl
theorem x_5_6 {x0 x1 x2 x3 x4 x5 : AV} {x : Int} : ex E C ((5, a, 6, c) :: L) (x0 :: x1 :: x2 :: x3 :: x4 :: x5 :: aJ x :: σ) st h = ex E C L (x0 :: x1 :: x2 :: x3 :: x4 :: x5 :: aJ x :: σ) (aJ x :: st) h := id rfl
theorem x_6_6 {x0 x1 x2 x3 x4 x5 : AV} {t k : Nat} : ex E C ((6, a, 6, c) :: L) (x0 :: x1 :: x2 :: x3 :: x4 :: x5 :: aA t k :: σ) st h = ex E C L (x0 :: x1 :: x2 :: x3 :: x4 :: x5 :: aA t k :: σ) (aA t k :: st) h := id rfl
theorem x_7_6_I {x0 x1 x2 x3 x4 : AV} {z : Int} {x : Int} {v : AV} : ex E C ((7, a, 6, c) :: L) (x0 :: x1 :: x2 :: x3 :: x4 :: (aI z) :: v :: σ) (aI x :: st) h = ex E C L (x0 :: x1 :: x2 :: x3 :: x4 :: (aI z) :: aI x :: σ) st h := id rfl
theorem x_9_6_I {x0 x1 x2 x3 x4 : AV} {z : Int} {t k : Nat} {v : AV} : ex E C ((9, a, 6, c) :: L) (x0 :: x1 :: x2 :: x3 :: x4 :: (aI z) :: v :: σ) (aA t k :: st) h = ex E C L (x0 :: x1 :: x2 :: x3 :: x4 :: (aI z) :: aA t k :: σ) st h := id rfl
theorem x_9n_6_I {x0 x1 x2 x3 x4 : AV} {z : Int} {v : AV} : ex E C ((9, a, 6, c) :: L) (x0 :: x1 :: x2 :: x3 :: x4 :: (aI z) :: v :: σ) (none :: st) h = ex E C L (x0 :: x1 :: x2 :: x3 :: x4 :: (aI z) :: none :: σ) st h := id rfl
theorem x_8_6_I {x0 x1 x2 x3 x4 : AV} {z : Int} {x : Int} {v u : AV} : ex E C ((8, a, 6, c) :: L) (x0 :: x1 :: x2 :: x3 :: x4 :: (aI z) :: v :: u :: σ) (aJ x :: st) h = ex E C L (x0 :: x1 :: x2 :: x3 :: x4 :: (aI z) :: aJ x :: none :: σ) st h := id rfl
theorem x_10_6_I {x0 x1 x2 x3 x4 : AV} {z : Int} {x : Int} : ex E C ((10, a, 6, c) :: L) (x0 :: x1 :: x2 :: x3 :: x4 :: (aI z) :: aI x :: σ) st h = ex E C L (x0 :: x1 :: x2 :: x3 :: x4 :: (aI z) :: aI (w32 (x + a)) :: σ) st h := id rfl
theorem x_7_6_A {x0 x1 x2 x3 x4 : AV} {z w : Nat} {x : Int} {v : AV} : ex E C ((7, a, 6, c) :: L) (x0 :: x1 :: x2 :: x3 :: x4 :: (aA z w) :: v :: σ) (aI x :: st) h = ex E C L (x0 :: x1 :: x2 :: x3 :: x4 :: (aA z w) :: aI x :: σ) st h := id rfl
theorem x_9_6_A {x0 x1 x2 x3 x4 : AV} {z w : Nat} {t k : Nat} {v : AV} : ex E C ((9, a, 6, c) :: L) (x0 :: x1 :: x2 :: x3 :: x4 :: (aA z w) :: v :: σ) (aA t k :: st) h = ex E C L (x0 :: x1 :: x2 :: x3 :: x4 :: (aA z w) :: aA t k :: σ) st h := id rfl
theorem x_9n_6_A {x0 x1 x2 x3 x4 : AV} {z w : Nat} {v : AV} : ex E C ((9, a, 6, c) :: L) (x0 :: x1 :: x2 :: x3 :: x4 :: (aA z w) :: v :: σ) (none :: st) h = ex E C L (x0 :: x1 :: x2 :: x3 :: x4 :: (aA z w) :: none :: σ) st h := id rfl
theorem x_8_6_A {x0 x1 x2 x3 x4 : AV} {z w : Nat} {x : Int} {v u : AV} : ex E C ((8, a, 6, c) :: L) (x0 :: x1 :: x2 :: x3 :: x4 :: (aA z w) :: v :: u :: σ) (aJ x :: st) h = ex E C L (x0 :: x1 :: x2 :: x3 :: x4 :: (aA z w) :: aJ x :: none :: σ) st h := id rfl
theorem x_10_6_A {x0 x1 x2 x3 x4 : AV} {z w : Nat} {x : Int} : ex E C ((10, a, 6, c) :: L) (x0 :: x1 :: x2 :: x3 :: x4 :: (aA z w) :: aI x :: σ) st h = ex E C L (x0 :: x1 :: x2 :: x3 :: x4 :: (aA z w) :: aI (w32 (x + a)) :: σ) st h := id rfl
theorem x_7_6_U {x0 x1 x2 x3 x4 : AV} {x : Int} {v : AV} : ex E C ((7, a, 6, c) :: L) (x0 :: x1 :: x2 :: x3 :: x4 :: none :: v :: σ) (aI x :: st) h = ex E C L (x0 :: x1 :: x2 :: x3 :: x4 :: none :: aI x :: σ) st h := id rfl
theorem x_9_6_U {x0 x1 x2 x3 x4 : AV} {t k : Nat} {v : AV} : ex E C ((9, a, 6, c) :: L) (x0 :: x1 :: x2 :: x3 :: x4 :: none :: v :: σ) (aA t k :: st) h = ex E C L (x0 :: x1 :: x2 :: x3 :: x4 :: none :: aA t k :: σ) st h := id rfl
theorem x_9n_6_U {x0 x1 x2 x3 x4 : AV} {v : AV} : ex E C ((9, a, 6, c) :: L) (x0 :: x1 :: x2 :: x3 :: x4 :: none :: v :: σ) (none :: st) h = ex E C L (x0 :: x1 :: x2 :: x3 :: x4 :: none :: none :: σ) st h := id rfl
theorem x_8_6_U {x0 x1 x2 x3 x4 : AV} {x : Int} {v u : AV} : ex E C ((8, a, 6, c) :: L) (x0 :: x1 :: x2 :: x3 :: x4 :: none :: v :: u :: σ) (aJ x :: st) h = ex E C L (x0 :: x1 :: x2 :: x3 :: x4 :: none :: aJ x :: none :: σ) st h := id rfl
theorem x_10_6_U {x0 x1 x2 x3 x4 : AV} {x : Int} : ex E C ((10, a, 6, c) :: L) (x0 :: x1 :: x2 :: x3 :: x4 :: none :: aI x :: σ) st h = ex E C L (x0 :: x1 :: x2 :: x3 :: x4 :: none :: aI (w32 (x + a)) :: σ) st h := id rfl
theorem x_4_7 {x0 x1 x2 x3 x4 x5 x6 : AV} {x : Int} : ex E C ((4, a, 7, c) :: L) (x0 :: x1 :: x2 :: x3 :: x4 :: x5 :: x6 :: aI x :: σ) st h = ex E C L (x0 :: x1 :: x2 :: x3 :: x4 :: x5 :: x6 :: aI x :: σ) (aI x :: st) h := id rfl
theorem x_5_7 {x0 x1 x2 x3 x4 x5 x6 : AV} {x : Int} : ex E C ((5, a, 7, c) :: L) (x0 :: x1 :: x2 :: x3 :: x4 :: x5 :: x6 :: aJ x :: σ) st h = ex E C L (x0 :: x1 :: x2 :: x3 :: x4 :: x5 :: x6 :: aJ x :: σ) (aJ x :: st) h := id rfl
theorem x_6_7 {x0 x1 x2 x3 x4 x5 x6 : AV} {t k : Nat} : ex E C ((6, a, 7, c) :: L) (x0 :: x1 :: x2 :: x3 :: x4 :: x5 :: x6 :: aA t k :: σ) st h = ex E C L (x0 :: x1 :: x2 :: x3 :: x4 :: x5 :: x6 :: aA t k :: σ) (aA t k :: st) h := id rfl
theorem x_7_7_I {x0 x1 x2 x3 x4 x5 : AV} {z : Int} {x : Int} {v : AV} : ex E C ((7, a, 7, c) :: L) (x0 :: x1 :: x2 :: x3 :: x4 :: x5 :: (aI z) :: v :: σ) (aI x :: st) h = ex E C L (x0 :: x1 :: x2 :: x3 :: x4 :: x5 :: (aI z) :: aI x :: σ) st h := id rfl
theorem x_9_7_I {x0 x1 x2 x3 x4 x5 : AV} {z : Int} {t k : Nat} {v : AV} : ex E C ((9, a, 7, c) :: L) (x0 :: x1 :: x2 :: x3 :: x4 :: x5 :: (aI z) :: v :: σ) (aA t k :: st) h = ex E C L (x0 :: x1 :: x2 :: x3 :: x4 :: x5 :: (aI z) :: aA t k :: σ) st h := id rfl
theorem x_9n_7_I {x0 x1 x2 x3 x4 x5 : AV} {z : Int} {v : AV} : ex E C ((9, a, 7, c) :: L) (x0 :: x1 :: x2 :: x3 :: x4 :: x5 :: (aI z) :: v :: σ) (none :: st) h = ex E C L (x0 :: x1 :: x2 :: x3 :: x4 :: x5 :: (aI z) :: none :: σ) st h := id rfl
theorem x_8_7_I {x0 x1 x2 x3 x4 x5 : AV} {z : Int} {x : Int} {v u : AV} : ex E C ((8, a, 7, c) :: L) (x0 :: x1 :: x2 :: x3 :: x4 :: x5 :: (aI z) :: v :: u :: σ) (aJ x :: st) h = ex E C L (x0 :: x1 :: x2 :: x3 :: x4 :: x5 :: (aI z) :: aJ x :: none :: σ) st h := id rfl
theorem x_10_7_I {x0 x1 x2 x3 x4 x5 : AV} {z : Int} {x : Int} : ex E C ((10, a, 7, c) :: L) (x0 :: x1 :: x2 :: x3 :: x4 :: x5 :: (aI z) :: aI x :: σ) st h = ex E C L (x0 :: x1 :: x2 :: x3 :: x4 :: x5 :: (aI z) :: aI (w32 (x + a)) :: σ) st h := id rfl
theorem x_7_7_A {x0 x1 x2 x3 x4 x5 : AV} {z w : Nat} {x : Int} {v : AV} : ex E C ((7, a, 7, c) :: L) (x0 :: x1 :: x2 :: x3 :: x4 :: x5 :: (aA z w) :: v :: σ) (aI x :: st) h = ex E C L (x0 :: x1 :: x2 :: x3 :: x4 :: x5 :: (aA z w) :: aI x :: σ) st h := id rfl
theorem x_9_7_A {x0 x1 x2 x3 x4 x5 : AV} {z w : Nat} {t k : Nat} {v : AV} : ex E C ((9, a, 7, c) :: L) (x0 :: x1 :: x2 :: x3 :: x4 :: x5 :: (aA z w) :: v :: σ) (aA t k :: st) h = ex E C L (x0 :: x1 :: x2 :: x3 :: x4 :: x5 :: (aA z w) :: aA t k :: σ) st h := id rfl
theorem x_9n_7_A {x0 x1 x2 x3 x4 x5 : AV} {z w : Nat} {v : AV} : ex E C ((9, a, 7, c) :: L) (x0 :: x1 :: x2 :: x3 :: x4 :: x5 :: (aA z w) :: v :: σ) (none :: st) h = ex E C L (x0 :: x1 :: x2 :: x3 :: x4 :: x5 :: (aA z w) :: none :: σ) st h := id rfl
theorem x_8_7_A {x0 x1 x2 x3 x4 x5 : AV} {z w : Nat} {x : Int} {v u : AV} : ex E C ((8, a, 7, c) :: L) (x0 :: x1 :: x2 :: x3 :: x4 :: x5 :: (aA z w) :: v :: u :: σ) (aJ x :: st) h = ex E C L (x0 :: x1 :: x2 :: x3 :: x4 :: x5 :: (aA z w) :: aJ x :: none :: σ) st h := id rfl
theorem x_10_7_A {x0 x1 x2 x3 x4 x5 : AV} {z w : Nat} {x : Int} : ex E C ((10, a, 7, c) :: L) (x0 :: x1 :: x2 :: x3 :: x4 :: x5 :: (aA z w) :: aI x :: σ) st h = ex E C L (x0 :: x1 :: x2 :: x3 :: x4 :: x5 :: (aA z w) :: aI (w32 (x + a)) :: σ) st h := id rfl
theorem x_7_7_U {x0 x1 x2 x3 x4 x5 : AV} {x : Int} {v : AV} : ex E C ((7, a, 7, c) :: L) (x0 :: x1 :: x2 :: x3 :: x4 :: x5 :: none :: v :: σ) (aI x :: st) h = ex E C L (x0 :: x1 :: x2 :: x3 :: x4 :: x5 :: none :: aI x :: σ) st h := id rfl
theorem x_9_7_U {x0 x1 x2 x3 x4 x5 : AV} {t k : Nat} {v : AV} : ex E C ((9, a, 7, c) :: L) (x0 :: x1 :: x2 :: x3 :: x4 :: x5 :: none :: v :: σ) (aA t k :: st) h = ex E C L (x0 :: x1 :: x2 :: x3 :: x4 :: x5 :: none :: aA t k :: σ) st h := id rfl
theorem x_9n_7_U {x0 x1 x2 x3 x4 x5 : AV} {v : AV} : ex E C ((9, a, 7, c) :: L) (x0 :: x1 :: x2 :: x3 :: x4 :: x5 :: none :: v :: σ) (none :: st) h = ex E C L (x0 :: x1 :: x2 :: x3 :: x4 :: x5 :: none :: none :: σ) st h := id rfl
theorem x_8_7_U {x0 x1 x2 x3 x4 x5 : AV} {x : Int} {v u : AV} : ex E C ((8, a, 7, c) :: L) (x0 :: x1 :: x2 :: x3 :: x4 :: x5 :: none :: v :: u :: σ) (aJ x :: st) h = ex E C L (x0 :: x1 :: x2 :: x3 :: x4 :: x5 :: none :: aJ x :: none :: σ) st h := id rfl
theorem x_10_7_U {x0 x1 x2 x3 x4 x5 : AV} {x : Int} : ex E C ((10, a, 7, c) :: L) (x0 :: x1 :: x2 :: x3 :: x4 :: x5 :: none :: aI x :: σ) st h = ex E C L (x0 :: x1 :: x2 :: x3 :: x4 :: x5 :: none :: aI (w32 (x + a)) :: σ) st h := id rfl
theorem x_4_8 {x0 x1 x2 x3 x4 x5 x6 x7 : AV} {x : Int} : ex E C ((4, a, 8, c) :: L) (x0 :: x1 :: x2 :: x3 :: x4 :: x5 :: x6 :: x7 :: aI x :: σ) st h = ex E C L (x0 :: x1 :: x2 :: x3 :: x4 :: x5 :: x6 :: x7 :: aI x :: σ) (aI x :: st) h := id rfl
theorem x_5_8 {x0 x1 x2 x3 x4 x5 x6 x7 : AV} {x : Int} : ex E C ((5, a, 8, c) :: L) (x0 :: x1 :: x2 :: x3 :: x4 :: x5 :: x6 :: x7 :: aJ x :: σ) st h = ex E C L (x0 :: x1 :: x2 :: x3 :: x4 :: x5 :: x6 :: x7 :: aJ x :: σ) (aJ x :: st) h := id rfl
theorem x_6_8 {x0 x1 x2 x3 x4 x5 x6 x7 : AV} {t k : Nat} : ex E C ((6, a, 8, c) :: L) (x0 :: x1 :: x2 :: x3 :: x4 :: x5 :: x6 :: x7 :: aA t k :: σ) st h = ex E C L (x0 :: x1 :: x2 :: x3 :: x4 :: x5 :: x6 :: x7 :: aA t k :: σ) (aA t k :: st) h := id rfl
theorem x_7_8_I {x0 x1 x2 x3 x4 x5 x6 : AV} {z : Int} {x : Int} {v : AV} : ex E C ((7, a, 8, c) :: L) (x0 :: x1 :: x2 :: x3 :: x4 :: x5 :: x6 :: (aI z) :: v :: σ) (aI x :: st) h = ex E C L (x0 :: x1 :: x2 :: x3 :: x4 :: x5 :: x6 :: (aI z) :: aI x :: σ) st h := id rfl
theorem x_9_8_I {x0 x1 x2 x3 x4 x5 x6 : AV} {z : Int} {t k : Nat} {v : AV} : ex E C ((9, a, 8, c) :: L) (x0 :: x1 :: x2 :: x3 :: x4 :: x5 :: x6 :: (aI z) :: v :: σ) (aA t k :: st) h = ex E C L (x0 :: x1 :: x2 :: x3 :: x4 :: x5 :: x6 :: (aI z) :: aA t k :: σ) st h := id rfl
theorem x_9n_8_I {x0 x1 x2 x3 x4 x5 x6 : AV} {z : Int} {v : AV} : ex E C ((9, a, 8, c) :: L) (x0 :: x1 :: x2 :: x3 :: x4 :: x5 :: x6 :: (aI z) :: v :: σ) (none :: st) h = ex E C L (x0 :: x1 :: x2 :: x3 :: x4 :: x5 :: x6 :: (aI z) :: none :: σ) st h := id rfl
theorem x_8_8_I {x0 x1 x2 x3 x4 x5 x6 : AV} {z : Int} {x : Int} {v u : AV} : ex E C ((8, a, 8, c) :: L) (x0 :: x1 :: x2 :: x3 :: x4 :: x5 :: x6 :: (aI z) :: v :: u :: σ) (aJ x :: st) h = ex E C L (x0 :: x1 :: x2 :: x3 :: x4 :: x5 :: x6 :: (aI z) :: aJ x :: none :: σ) st h := id rfl
theorem x_10_8_I {x0 x1 x2 x3 x4 x5 x6 : AV} {z : Int} {x : Int} : ex E C ((10, a, 8, c) :: L) (x0 :: x1 :: x2 :: x3 :: x4 :: x5 :: x6 :: (aI z) :: aI x :: σ) st h = ex E C L (x0 :: x1 :: x2 :: x3 :: x4 :: x5 :: x6 :: (aI z) :: aI (w32 (x + a)) :: σ) st h := id rfl
theorem x_7_8_A {x0 x1 x2 x3 x4 x5 x6 : AV} {z w : Nat} {x : Int} {v : AV} : ex E C ((7, a, 8, c) :: L) (x0 :: x1 :: x2 :: x3 :: x4 :: x5 :: x6 :: (aA z w) :: v :: σ) (aI x :: st) h = ex E C L (x0 :: x1 :: x2 :: x3 :: x4 :: x5 :: x6 :: (aA z w) :: aI x :: σ) st h := id rfl
theorem x_9_8_A {x0 x1 x2 x3 x4 x5 x6 : AV} {z w : Nat} {t k : Nat} {v : AV} : ex E C ((9, a, 8, c) :: L) (x0 :: x1 :: x2 :: x3 :: x4 :: x5 :: x6 :: (aA z w) :: v :: σ) (aA t k :: st) h = ex E C L (x0 :: x1 :: x2 :: x3 :: x4 :: x5 :: x6 :: (aA z w) :: aA t k :: σ) st h := id rfl
theorem x_9n_8_A {x0 x1 x2 x3 x4 x5 x6 : AV} {z w : Nat} {v : AV} : ex E C ((9, a, 8, c) :: L) (x0 :: x1 :: x2 :: x3 :: x4 :: x5 :: x6 :: (aA z w) :: v :: σ) (none :: st) h = ex E C L (x0 :: x1 :: x2 :: x3 :: x4 :: x5 :: x6 :: (aA z w) :: none :: σ) st h := id rfl
theorem x_8_8_A {x0 x1 x2 x3 x4 x5 x6 : AV} {z w : Nat} {x : Int} {v u : AV} : ex E C ((8, a, 8, c) :: L) (x0 :: x1 :: x2 :: x3 :: x4 :: x5 :: x6 :: (aA z w) :: v :: u :: σ) (aJ x :: st) h = ex E C L (x0 :: x1 :: x2 :: x3 :: x4 :: x5 :: x6 :: (aA z w) :: aJ x :: none :: σ) st h := id rfl
theorem x_10_8_A {x0 x1 x2 x3 x4 x5 x6 : AV} {z w : Nat} {x : Int} : ex E C ((10, a, 8, c) :: L) (x0 :: x1 :: x2 :: x3 :: x4 :: x5 :: x6 :: (aA z w) :: aI x :: σ) st h = ex E C L (x0 :: x1 :: x2 :: x3 :: x4 :: x5 :: x6 :: (aA z w) :: aI (w32 (x + a)) :: σ) st h := id rfl
theorem x_7_8_U {x0 x1 x2 x3 x4 x5 x6 : AV} {x : Int} {v : AV} : ex E C ((7, a, 8, c) :: L) (x0 :: x1 :: x2 :: x3 :: x4 :: x5 :: x6 :: none :: v :: σ) (aI x :: st) h = ex E C L (x0 :: x1 :: x2 :: x3 :: x4 :: x5 :: x6 :: none :: aI x :: σ) st h := id rfl
theorem x_9_8_U {x0 x1 x2 x3 x4 x5 x6 : AV} {t k : Nat} {v : AV} : ex E C ((9, a, 8, c) :: L) (x0 :: x1 :: x2 :: x3 :: x4 :: x5 :: x6 :: none :: v :: σ) (aA t k :: st) h = ex E C L (x0 :: x1 :: x2 :: x3 :: x4 :: x5 :: x6 :: none :: aA t k :: σ) st h := id rfl
theorem x_9n_8_U {x0 x1 x2 x3 x4 x5 x6 : AV} {v : AV} : ex E C ((9, a, 8, c) :: L) (x0 :: x1 :: x2 :: x3 :: x4 :: x5 :: x6 :: none :: v :: σ) (none :: st) h = ex E C L (x0 :: x1 :: x2 :: x3 :: x4 :: x5 :: x6 :: none :: none :: σ) st h := id rfl
theorem x_8_8_U {x0 x1 x2 x3 x4 x5 x6 : AV} {x : Int} {v u : AV} : ex E C ((8, a, 8, c) :: L) (x0 :: x1 :: x2 :: x3 :: x4 :: x5 :: x6 :: none :: v :: u :: σ) (aJ x :: st) h = ex E C L (x0 :: x1 :: x2 :: x3 :: x4 :: x5 :: x6 :: none :: aJ x :: none :: σ) st h := id rfl
theorem x_10_8_U {x0 x1 x2 x3 x4 x5 x6 : AV} {x : Int} : ex E C ((10, a, 8, c) :: L) (x0 :: x1 :: x2 :: x3 :: x4 :: x5 :: x6 :: none :: aI x :: σ) st h = ex E C L (x0 :: x1 :: x2 :: x3 :: x4 :: x5 :: x6 :: none :: aI (w32 (x + a)) :: σ) st h := id rfl
theorem x_4_9 {x0 x1 x2 x3 x4 x5 x6 x7 x8 : AV} {x : Int} : ex E C ((4, a, 9, c) :: L) (x0 :: x1 :: x2 :: x3 :: x4 :: x5 :: x6 :: x7 :: x8 :: aI x :: σ) st h = ex E C L (x0 :: x1 :: x2 :: x3 :: x4 :: x5 :: x6 :: x7 :: x8 :: aI x :: σ) (aI x :: st) h := id rfl
theorem x_5_9 {x0 x1 x2 x3 x4 x5 x6 x7 x8 : AV} {x : Int} : ex E C ((5, a, 9, c) :: L) (x0 :: x1 :: x2 :: x3 :: x4 :: x5 :: x6 :: x7 :: x8 :: aJ x :: σ) st h = ex E C L (x0 :: x1 :: x2 :: x3 :: x4 :: x5 :: x6 :: x7 :: x8 :: aJ x :: σ) (aJ x :: st) h := id rfl
theorem x_6_9 {x0 x1 x2 x3 x4 x5 x6 x7 x8 : AV} {t k : Nat} : ex E C ((6, a, 9, c) :: L) (x0 :: x1 :: x2 :: x3 :: x4 :: x5 :: x6 :: x7 :: x8 :: aA t k :: σ) st h = ex E C L (x0 :: x1 :: x2 :: x3 :: x4 :: x5 :: x6 :: x7 :: x8 :: aA t k :: σ) (aA t k :: st) h := id rfl
theorem x_7_9_I {x0 x1 x2 x3 x4 x5 x6 x7 : AV} {z : Int} {x : Int} {v : AV} : ex E C ((7, a, 9, c) :: L) (x0 :: x1 :: x2 :: x3 :: x4 :: x5 :: x6 :: x7 :: (aI z) :: v :: σ) (aI x :: st) h = ex E C L (x0 :: x1 :: x2 :: x3 :: x4 :: x5 :: x6 :: x7 :: (aI z) :: aI x :: σ) st h := id rfl
theorem x_9_9_I {x0 x1 x2 x3 x4 x5 x6 x7 : AV} {z : Int} {t k : Nat} {v : AV} : ex E C ((9, a, 9, c) :: L) (x0 :: x1 :: x2 :: x3 :: x4 :: x5 :: x6 :: x7 :: (aI z) :: v :: σ) (aA t k :: st) h = ex E C L (x0 :: x1 :: x2 :: x3 :: x4 :: x5 :: x6 :: x7 :: (aI z) :: aA t k :: σ) st h := id rfl
theorem x_9n_9_I {x0 x1 x2 x3 x4 x5 x6 x7 : AV} {z : Int} {v : AV} : ex E C ((9, a, 9, c) :: L) (x0 :: x1 :: x2 :: x3 :: x4 :: x5 :: x6 :: x7 :: (aI z) :: v :: σ) (none :: st) h = ex E C L (x0 :: x1 :: x2 :: x3 :: x4 :: x5 :: x6 :: x7 :: (aI z) :: none :: σ) st h := id rfl
theorem x_8_9_I {x0 x1 x2 x3 x4 x5 x6 x7 : AV} {z : Int} {x : Int} {v u : AV} : ex E C ((8, a, 9, c) :: L) (x0 :: x1 :: x2 :: x3 :: x4 :: x5 :: x6 :: x7 :: (aI z) :: v :: u :: σ) (aJ x :: st) h = ex E C L (x0 :: x1 :: x2 :: x3 :: x4 :: x5 :: x6 :: x7 :: (aI z) :: aJ x :: none :: σ) st h := id rfl
theorem x_10_9_I {x0 x1 x2 x3 x4 x5 x6 x7 : AV} {z : Int} {x : Int} : ex E C ((10, a, 9, c) :: L) (x0 :: x1 :: x2 :: x3 :: x4 :: x5 :: x6 :: x7 :: (aI z) :: aI x :: σ) st h = ex E C L (x0 :: x1 :: x2 :: x3 :: x4 :: x5 :: x6 :: x7 :: (aI z) :: aI (w32 (x + a)) :: σ) st h := id rfl
theorem x_7_9_A {x0 x1 x2 x3 x4 x5 x6 x7 : AV} {z w : Nat} {x : Int} {v : AV} : ex E C ((7, a, 9, c) :: L) (x0 :: x1 :: x2 :: x3 :: x4 :: x5 :: x6 :: x7 :: (aA z w) :: v :: σ) (aI x :: st) h = ex E C L (x0 :: x1 :: x2 :: x3 :: x4 :: x5 :: x6 :: x7 :: (aA z w) :: aI x :: σ) st h := id rfl
theorem x_9_9_A {x0 x1 x2 x3 x4 x5 x6 x7 : AV} {z w : Nat} {t k : Nat} {v : AV} : ex E C ((9, a, 9, c) :: L) (x0 :: x1 :: x2 :: x3 :: x4 :: x5 :: x6 :: x7 :: (aA z w) :: v :: σ) (aA t k :: st) h = ex E C L (x0 :: x1 :: x2 :: x3 :: x4 :: x5 :: x6 :: x7 :: (aA z w) :: aA t k :: σ) st h := id rfl
theorem x_9n_9_A {x0 x1 x2 x3 x4 x5 x6 x7 : AV} {z w : Nat} {v : AV} : ex E C ((9, a, 9, c) :: L) (x0 :: x1 :: x2 :: x3 :: x4 :: x5 :: x6 :: x7 :: (aA z w) :: v :: σ) (none :: st) h = ex E C L (x0 :: x1 :: x2 :: x3 :: x4 :: x5 :: x6 :: x7 :: (aA z w) :: none :: σ) st h := id rfl
theorem x_8_9_A {x0 x1 x2 x3 x4 x5 x6 x7 : AV} {z w : Nat} {x : Int} {v u : AV} : ex E C ((8, a, 9, c) :: L) (x0 :: x1 :: x2 :: x3 :: x4 :: x5 :: x6 :: x7 :: (aA z w) :: v :: u :: σ) (aJ x :: st) h = ex E C L (x0 :: x1 :: x2 :: x3 :: x4 :: x5 :: x6 :: x7 :: (aA z w) :: aJ x :: none :: σ) st h := id rfl
theorem x_10_9_A {x0 x1 x2 x3 x4 x5 x6 x7 : AV} {z w : Nat} {x : Int} : ex E C ((10, a, 9, c) :: L) (x0 :: x1 :: x2 :: x3 :: x4 :: x5 :: x6 :: x7 :: (aA z w) :: aI x :: σ) st h = ex E C L (x0 :: x1 :: x2 :: x3 :: x4 :: x5 :: x6 :: x7 :: (aA z w) :: aI (w32 (x + a)) :: σ) st h := id rfl
theorem x_7_9_U {x0 x1 x2 x3 x4 x5 x6 x7 : AV} {x : Int} {v : AV} : ex E C ((7, a, 9, c) :: L) (x0 :: x1 :: x2 :: x3 :: x4 :: x5 :: x6 :: x7 :: none :: v :: σ) (aI x :: st) h = ex E C L (x0 :: x1 :: x2 :: x3 :: x4 :: x5 :: x6 :: x7 :: none :: aI x :: σ) st h := id rfl
theorem x_9_9_U {x0 x1 x2 x3 x4 x5 x6 x7 : AV} {t k : Nat} {v : AV} : ex E C ((9, a, 9, c) :: L) (x0 :: x1 :: x2 :: x3 :: x4 :: x5 :: x6 :: x7 :: none :: v :: σ) (aA t k :: st) h = ex E C L (x0 :: x1 :: x2 :: x3 :: x4 :: x5 :: x6 :: x7 :: none :: aA t k :: σ) st h := id rfl
theorem x_9n_9_U {x0 x1 x2 x3 x4 x5 x6 x7 : AV} {v : AV} : ex E C ((9, a, 9, c) :: L) (x0 :: x1 :: x2 :: x3 :: x4 :: x5 :: x6 :: x7 :: none :: v :: σ) (none :: st) h = ex E C L (x0 :: x1 :: x2 :: x3 :: x4 :: x5 :: x6 :: x7 :: none :: none :: σ) st h := id rfl
theorem x_8_9_U {x0 x1 x2 x3 x4 x5 x6 x7 : AV} {x : Int} {v u : AV} : ex E C ((8, a, 9, c) :: L) (x0 :: x1 :: x2 :: x3 :: x4 :: x5 :: x6 :: x7 :: none :: v :: u :: σ) (aJ x :: st) h = ex E C L (x0 :: x1 :: x2 :: x3 :: x4 :: x5 :: x6 :: x7 :: none :: aJ x :: none :: σ) st h := id rfl
theorem x_10_9_U {x0 x1 x2 x3 x4 x5 x6 x7 : AV} {x : Int} : ex E C ((10, a, 9, c) :: L) (x0 :: x1 :: x2 :: x3 :: x4 :: x5 :: x6 :: x7 :: none :: aI x :: σ) st h = ex E C L (x0 :: x1 :: x2 :: x3 :: x4 :: x5 :: x6 :: x7 :: none :: aI (w32 (x + a)) :: σ) st h := id rfl
theorem x_4_10 {x0 x1 x2 x3 x4 x5 x6 x7 x8 x9 : AV} {x : Int} : ex E C ((4, a, 10, c) :: L) (x0 :: x1 :: x2 :: x3 :: x4 :: x5 :: x6 :: x7 :: x8 :: x9 :: aI x :: σ) st h = ex E C L (x0 :: x1 :: x2 :: x3 :: x4 :: x5 :: x6 :: x7 :: x8 :: x9 :: aI x :: σ) (aI x :: st) h := id rfl
theorem x_5_10 {x0 x1 x2 x3 x4 x5 x6 x7 x8 x9 : AV} {x : Int} : ex E C ((5, a, 10, c) :: L) (x0 :: x1 :: x2 :: x3 :: x4 :: x5 :: x6 :: x7 :: x8 :: x9 :: aJ x :: σ) st h = ex E C L (x0 :: x1 :: x2 :: x3 :: x4 :: x5 :: x6 :: x7 :: x8 :: x9 :: aJ x :: σ) (aJ x :: st) h := id rfl
theorem x_6_10 {x0 x1 x2 x3 x4 x5 x6 x7 x8 x9 : AV} {t k : Nat} : ex E C ((6, a, 10, c) :: L) (x0 :: x1 :: x2 :: x3 :: x4 :: x5 :: x6 :: x7 :: x8 :: x9 :: aA t k :: σ) st h = ex E C L (x0 :: x1 :: x2 :: x3 :: x4 :: x5 :: x6 :: x7 :: x8 :: x9 :: aA t k :: σ) (aA t k :: st) h := id rfl
theorem x_7_10_I {x0 x1 x2 x3 x4 x5 x6 x7 x8 : AV} {z : Int} {x : Int} {v : AV} : ex E C ((7, a, 10, c) :: L) (x0 :: x1 :: x2 :: x3 :: x4 :: x5 :: x6 :: x7 :: x8 :: (aI z) :: v :: σ) (aI x :: st) h = ex E C L (x0 :: x1 :: x2 :: x3 :: x4 :: x5 :: x6 :: x7 :: x8 :: (aI z) :: aI x :: σ) st h := id rfl
theorem x_9_10_I {x0 x1 x2 x3 x4 x5 x6 x7 x8 : AV} {z : Int} {t k : Nat} {v : AV} : ex E C ((9, a, 10, c) :: L) (x0 :: x1 :: x2 :: x3 :: x4 :: x5 :: x6 :: x7 :: x8 :: (aI z) :: v :: σ) (aA t k :: st) h = ex E C L (x0 :: x1 :: x2 :: x3 :: x4 :: x5 :: x6 :: x7 :: x8 :: (aI z) :: aA t k :: σ) st h := id rfl
theorem x_9n_10_I {x0 x1 x2 x3 x4 x5 x6 x7 x8 : AV} {z : Int} {v : AV} : ex E C ((9, a, 10, c) :: L) (x0 :: x1 :: x2 :: x3 :: x4 :: x5 :: x6 :: x7 :: x8 :: (aI z) :: v :: σ) (none :: st) h = ex E C L (x0 :: x1 :: x2 :: x3 :: x4 :: x5 :: x6 :: x7 :: x8 :: (aI z) :: none :: σ) st h := id rfl
theorem x_8_10_I {x0 x1 x2 x3 x4 x5 x6 x7 x8 : AV} {z : Int} {x : Int} {v u : AV} : ex E C ((8, a, 10, c) :: L) (x0 :: x1 :: x2 :: x3 :: x4 :: x5 :: x6 :: x7 :: x8 :: (aI z) :: v :: u :: σ) (aJ x :: st) h = ex E C L (x0 :: x1 :: x2 :: x3 :: x4 :: x5 :: x6 :: x7 :: x8 :: (aI z) :: aJ x :: none :: σ) st h := id rfl
theorem x_10_10_I {x0 x1 x2 x3 x4 x5 x6 x7 x8 : AV} {z : Int} {x : Int} : ex E C ((10, a, 10, c) :: L) (x0 :: x1 :: x2 :: x3 :: x4 :: x5 :: x6 :: x7 :: x8 :: (aI z) :: aI x :: σ) st h = ex E C L (x0 :: x1 :: x2 :: x3 :: x4 :: x5 :: x6 :: x7 :: x8 :: (aI z) :: aI (w32 (x + a)) :: σ) st h := id rfl
theorem x_7_10_A {x0 x1 x2 x3 x4 x5 x6 x7 x8 : AV} {z w : Nat} {x : Int} {v : AV} : ex E C ((7, a, 10, c) :: L) (x0 :: x1 :: x2 :: x3 :: x4 :: x5 :: x6 :: x7 :: x8 :: (aA z w) :: v :: σ) (aI x :: st) h = ex E C L (x0 :: x1 :: x2 :: x3 :: x4 :: x5 :: x6 :: x7 :: x8 :: (aA z w) :: aI x :: σ) st h := id rfl
theorem x_9_10_A {x0 x1 x2 x3 x4 x5 x6 x7 x8 : AV} {z w : Nat} {t k : Nat} {v : AV} : ex E C ((9, a, 10, c) :: L) (x0 :: x1 :: x2 :: x3 :: x4 :: x5 :: x6 :: x7 :: x8 :: (aA z w) :: v :: σ) (aA t k :: st) h = ex E C L (x0 :: x1 :: x2 :: x3 :: x4 :: x5 :: x6 :: x7 :: x8 :: (aA z w) :: aA t k :: σ) st h := id rfl
theorem x_9n_10_A {x0 x1 x2 x3 x4 x5 x6 x7 x8 : AV} {z w : Nat} {v : AV} : ex E C ((9, a, 10, c) :: L) (x0 :: x1 :: x2 :: x3 :: x4 :: x5 :: x6 :: x7 :: x8 :: (aA z w) :: v :: σ) (none :: st) h = ex E C L (x0 :: x1 :: x2 :: x3 :: x4 :: x5 :: x6 :: x7 :: x8 :: (aA z w) :: none :: σ) st h := id rfl
theorem x_8_10_A {x0 x1 x2 x3 x4 x5 x6 x7 x8 : AV} {z w : Nat} {x : Int} {v u : AV} : ex E C ((8, a, 10, c) :: L) (x0 :: x1 :: x2 :: x3 :: x4 :: x5 :: x6 :: x7 :: x8 :: (aA z w) :: v :: u :: σ) (aJ x :: st) h = ex E C L (x0 :: x1 :: x2 :: x3 :: x4 :: x5 :: x6 :: x7 :: x8 :: (aA z w) :: aJ x :: none :: σ) st h := id rfl
theorem x_10_10_A {x0 x1 x2 x3 x4 x5 x6 x7 x8 : AV} {z w : Nat} {x : Int} : ex E C ((10, a, 10, c) :: L) (x0 :: x1 :: x2 :: x3 :: x4 :: x5 :: x6 :: x7 :: x8 :: (aA z w) :: aI x :: σ) st h = ex E C L (x0 :: x1 :: x2 :: x3 :: x4 :: x5 :: x6 :: x7 :: x8 :: (aA z w) :: aI (w32 (x + a)) :: σ) st h := id rfl
theorem x_7_10_U {x0 x1 x2 x3 x4 x5 x6 x7 x8 : AV} {x : Int} {v : AV} : ex E C ((7, a, 10, c) :: L) (x0 :: x1 :: x2 :: x3 :: x4 :: x5 :: x6 :: x7 :: x8 :: none :: v :: σ) (aI x :: st) h = ex E C L (x0 :: x1 :: x2 :: x3 :: x4 :: x5 :: x6 :: x7 :: x8 :: none :: aI x :: σ) st h := id rfl
theorem x_9_10_U {x0 x1 x2 x3 x4 x5 x6 x7 x8 : AV} {t k : Nat} {v : AV} : ex E C ((9, a, 10, c) :: L) (x0 :: x1 :: x2 :: x3 :: x4 :: x5 :: x6 :: x7 :: x8 :: none :: v :: σ) (aA t k :: st) h = ex E C L (x0 :: x1 :: x2 :: x3 :: x4 :: x5 :: x6 :: x7 :: x8 :: none :: aA t k :: σ) st h := id rfl
theorem x_9n_10_U {x0 x1 x2 x3 x4 x5 x6 x7 x8 : AV} {v : AV} : ex E C ((9, a, 10, c) :: L) (x0 :: x1 :: x2 :: x3 :: x4 :: x5 :: x6 :: x7 :: x8 :: none :: v :: σ) (none :: st) h = ex E C L (x0 :: x1 :: x2 :: x3 :: x4 :: x5 :: x6 :: x7 :: x8 :: none :: none :: σ) st h := id rfl
theorem x_8_10_U {x0 x1 x2 x3 x4 x5 x6 x7 x8 : AV} {x : Int} {v u : AV} : ex E C ((8, a, 10, c) :: L) (x0 :: x1 :: x2 :: x3 :: x4 :: x5 :: x6 :: x7 :: x8 :: none :: v :: u :: σ) (aJ x :: st) h = ex E C L (x0 :: x1 :: x2 :: x3 :: x4 :: x5 :: x6 :: x7 :: x8 :: none :: aJ x :: none :: σ) st h := id rfl
theorem x_10_10_U {x0 x1 x2 x3 x4 x5 x6 x7 x8 : AV} {x : Int} : ex E C ((10, a, 10, c) :: L) (x0 :: x1 :: x2 :: x3 :: x4 :: x5 :: x6 :: x7 :: x8 :: none :: aI x :: σ) st h = ex E C L (x0 :: x1 :: x2 :: x3 :: x4 :: x5 :: x6 :: x7 :: x8 :: none :: aI (w32 (x + a)) :: σ) st h := id rfl
theorem x_4_11 {x0 x1 x2 x3 x4 x5 x6 x7 x8 x9 x10 : AV} {x : Int} : ex E C ((4, a, 11, c) :: L) (x0 :: x1 :: x2 :: x3 :: x4 :: x5 :: x6 :: x7 :: x8 :: x9 :: x10 :: aI x :: σ) st h = ex E C L (x0 :: x1 :: x2 :: x3 :: x4 :: x5 :: x6 :: x7 :: x8 :: x9 :: x10 :: aI x :: σ) (aI x :: st) h := id rfl
theorem x_5_11 {x0 x1 x2 x3 x4 x5 x6 x7 x8 x9 x10 : AV} {x : Int} : ex E C ((5, a, 11, c) :: L) (x0 :: x1 :: x2 :: x3 :: x4 :: x5 :: x6 :: x7 :: x8 :: x9 :: x10 :: aJ x :: σ) st h = ex E C L (x0 :: x1 :: x2 :: x3 :: x4 :: x5 :: x6 :: x7 :: x8 :: x9 :: x10 :: aJ x :: σ) (aJ x :: st) h := id rfl
theorem x_6_11 {x0 x1 x2 x3 x4 x5 x6 x7 x8 x9 x10 : AV} {t k : Nat} : ex E C ((6, a, 11, c) :: L) (x0 :: x1 :: x2 :: x3 :: x4 :: x5 :: x6 :: x7 :: x8 :: x9 :: x10 :: aA t k :: σ) st h = ex E C L (x0 :: x1 :: x2 :: x3 :: x4 :: x5 :: x6 :: x7 :: x8 :: x9 :: x10 :: aA t k :: σ) (aA t k :: st) h := id rfl
theorem x_7_11_I {x0 x1 x2 x3 x4 x5 x6 x7 x8 x9 : AV} {z : Int} {x : Int} {v : AV} : ex E C ((7, a, 11, c) :: L) (x0 :: x1 :: x2 :: x3 :: x4 :: x5 :: x6 :: x7 :: x8 :: x9 :: (aI z) :: v :: σ) (aI x :: st) h = ex E C L (x0 :: x1 :: x2 :: x3 :: x4 :: x5 :: x6 :: x7 :: x8 :: x9 :: (aI z) :: aI x :: σ) st h := id rfl
theorem x_9_11_I {x0 x1 x2 x3 x4 x5 x6 x7 x8 x9 : AV} {z : Int} {t k : Nat} {v : AV} : ex E C ((9, a, 11, c) :: L) (x0 :: x1 :: x2 :: x3 :: x4 :: x5 :: x6 :: x7 :: x8 :: x9 :: (aI z) :: v :: σ) (aA t k :: st) h = ex E C L (x0 :: x1 :: x2 :: x3 :: x4 :: x5 :: x6 :: x7 :: x8 :: x9 :: (aI z) :: aA t k :: σ) st h := id rfl
theorem x_9n_11_I {x0 x1 x2 x3 x4 x5 x6 x7 x8 x9 : AV} {z : Int} {v : AV} : ex E C ((9, a, 11, c) :: L) (x0 :: x1 :: x2 :: x3 :: x4 :: x5 :: x6 :: x7 :: x8 :: x9 :: (aI z) :: v :: σ) (none :: st) h = ex E C L (x0 :: x1 :: x2 :: x3 :: x4 :: x5 :: x6 :: x7 :: x8 :: x9 :: (aI z) :: none :: σ) st h := id rfl
theorem x_8_11_I {x0 x1 x2 x3 x4 x5 x6 x7 x8 x9 : AV} {z : Int} {x : Int} {v u : AV} : ex E C ((8, a, 11, c) :: L) (x0 :: x1 :: x2 :: x3 :: x4 :: x5 :: x6 :: x7 :: x8 :: x9 :: (aI z) :: v :: u :: σ) (aJ x :: st) h = ex E C L (x0 :: x1 :: x2 :: x3 :: x4 :: x5 :: x6 :: x7 :: x8 :: x9 :: (aI z) :: aJ x :: none :: σ) st h := id rfl
theorem x_10_11_I {x0 x1 x2 x3 x4 x5 x6 x7 x8 x9 : AV} {z : Int} {x : Int} : ex E C ((10, a, 11, c) :: L) (x0 :: x1 :: x2 :: x3 :: x4 :: x5 :: x6 :: x7 :: x8 :: x9 :: (aI z) :: aI x :: σ) st h = ex E C L (x0 :: x1 :: x2 :: x3 :: x4 :: x5 :: x6 :: x7 :: x8 :: x9 :: (aI z) :: aI (w32 (x + a)) :: σ) st h := id rfl
theorem x_7_11_A {x0 x1 x2 x3 x4 x5 x6 x7 x8 x9 : AV} {z w : Nat} {x : Int} {v : AV} : ex E C ((7, a, 11, c) :: L) (x0 :: x1 :: x2 :: x3 :: x4 :: x5 :: x6 :: x7 :: x8 :: x9 :: (aA z w) :: v :: σ) (aI x :: st) h = ex E C L (x0 :: x1 :: x2 :: x3 :: x4 :: x5 :: x6 :: x7 :: x8 :: x9 :: (aA z w) :: aI x :: σ) st h := id rfl
theorem x_9_11_A {x0 x1 x2 x3 x4 x5 x6 x7 x8 x9 : AV} {z w : Nat} {t k : Nat} {v : AV} : ex E C ((9, a, 11, c) :: L) (x0 :: x1 :: x2 :: x3 :: x4 :: x5 :: x6 :: x7 :: x8 :: x9 :: (aA z w) :: v :: σ) (aA t k :: st) h = ex E C L (x0 :: x1 :: x2 :: x3 :: x4 :: x5 :: x6 :: x7 :: x8 :: x9 :: (aA z w) :: aA t k :: σ) st h := id rfl
theorem x_9n_11_A {x0 x1 x2 x3 x4 x5 x6 x7 x8 x9 : AV} {z w : Nat} {v : AV} : ex E C ((9, a, 11, c) :: L) (x0 :: x1 :: x2 :: x3 :: x4 :: x5 :: x6 :: x7 :: x8 :: x9 :: (aA z w) :: v :: σ) (none :: st) h = ex E C L (x0 :: x1 :: x2 :: x3 :: x4 :: x5 :: x6 :: x7 :: x8 :: x9 :: (aA z w) :: none :: σ) st h := id rfl
theorem x_8_11_A {x0 x1 x2 x3 x4 x5 x6 x7 x8 x9 : AV} {z w : Nat} {x : Int} {v u : AV} : ex E C ((8, a, 11, c) :: L) (x0 :: x1 :: x2 :: x3 :: x4 :: x5 :: x6 :: x7 :: x8 :: x9 :: (aA z w) :: v :: u :: σ) (aJ x :: st) h = ex E C L (x0 :: x1 :: x2 :: x3 :: x4 :: x5 :: x6 :: x7 :: x8 :: x9 :: (aA z w) :: aJ x :: none :: σ) st h := id rfl
theorem x_10_11_A {x0 x1 x2 x3 x4 x5 x6 x7 x8 x9 : AV} {z w : Nat} {x : Int} : ex E C ((10, a, 11, c) :: L) (x0 :: x1 :: x2 :: x3 :: x4 :: x5 :: x6 :: x7 :: x8 :: x9 :: (aA z w) :: aI x :: σ) st h = ex E C L (x0 :: x1 :: x2 :: x3 :: x4 :: x5 :: x6 :: x7 :: x8 :: x9 :: (aA z w) :: aI (w32 (x + a)) :: σ) st h := id rfl
theorem x_7_11_U {x0 x1 x2 x3 x4 x5 x6 x7 x8 x9 : AV} {x : Int} {v : AV} : ex E C ((7, a, 11, c) :: L) (x0 :: x1 :: x2 :: x3 :: x4 :: x5 :: x6 :: x7 :: x8 :: x9 :: none :: v :: σ) (aI x :: st) h = ex E C L (x0 :: x1 :: x2 :: x3 :: x4 :: x5 :: x6 :: x7 :: x8 :: x9 :: none :: aI x :: σ) st h := id rfl
theorem x_9_11_U {x0 x1 x2 x3 x4 x5 x6 x7 x8 x9 : AV} {t k : Nat} {v : AV} : ex E C ((9, a, 11, c) :: L) (x0 :: x1 :: x2 :: x3 :: x4 :: x5 :: x6 :: x7 :: x8 :: x9 :: none :: v :: σ) (aA t k :: st) h = ex E C L (x0 :: x1 :: x2 :: x3 :: x4 :: x5 :: x6 :: x7 :: x8 :: x9 :: none :: aA t k :: σ) st h := id rfl
theorem x_9n_11_U {x0 x1 x2 x3 x4 x5 x6 x7 x8 x9 : AV} {v : AV} : ex E C ((9, a, 11, c) :: L) (x0 :: x1 :: x2 :: x3 :: x4 :: x5 :: x6 :: x7 :: x8 :: x9 :: none :: v :: σ) (none :: st) h = ex E C L (x0 :: x1 :: x2 :: x3 :: x4 :: x5 :: x6 :: x7 :: x8 :: x9 :: none :: none :: σ) st h := id rfl
theorem x_8_11_U {x0 x1 x2 x3 x4 x5 x6 x7 x8 x9 : AV} {x : Int} {v u : AV} : ex E C ((8, a, 11, c) :: L) (x0 :: x1 :: x2 :: x3 :: x4 :: x5 :: x6 :: x7 :: x8 :: x9 :: none :: v :: u :: σ) (aJ x :: st) h = ex E C L (x0 :: x1 :: x2 :: x3 :: x4 :: x5 :: x6 :: x7 :: x8 :: x9 :: none :: aJ x :: none :: σ) st h := id rfl
theorem x_10_11_U {x0 x1 x2 x3 x4 x5 x6 x7 x8 x9 : AV} {x : Int} : ex E C ((10, a, 11, c) :: L) (x0 :: x1 :: x2 :: x3 :: x4 :: x5 :: x6 :: x7 :: x8 :: x9 :: none :: aI x :: σ) st h = ex E C L (x0 :: x1 :: x2 :: x3 :: x4 :: x5 :: x6 :: x7 :: x8 :: x9 :: none :: aI (w32 (x + a)) :: σ) st h := id rfl
theorem x_4_12 {x0 x1 x2 x3 x4 x5 x6 x7 x8 x9 x10 x11 : AV} {x : Int} : ex E C ((4, a, 12, c) :: L) (x0 :: x1 :: x2 :: x3 :: x4 :: x5 :: x6 :: x7 :: x8 :: x9 :: x10 :: x11 :: aI x :: σ) st h = ex E C L (x0 :: x1 :: x2 :: x3 :: x4 :: x5 :: x6 :: x7 :: x8 :: x9 :: x10 :: x11 :: aI x :: σ) (aI x :: st) h := id rfl
theorem x_5_12 {x0 x1 x2 x3 x4 x5 x6 x7 x8 x9 x10 x11 : AV} {x : Int} : ex E C ((5, a, 12, c) :: L) (x0 :: x1 :: x2 :: x3 :: x4 :: x5 :: x6 :: x7 :: x8 :: x9 :: x10 :: x11 :: aJ x :: σ) st h = ex E C L (x0 :: x1 :: x2 :: x3 :: x4 :: x5 :: x6 :: x7 :: x8 :: x9 :: x10 :: x11 :: aJ x :: σ) (aJ x :: st) h := id rfl
theorem x_6_12 {x0 x1 x2 x3 x4 x5 x6 x7 x8 x9 x10 x11 : AV} {t k : Nat} : ex E C ((6, a, 12, c) :: L) (x0 :: x1 :: x2 :: x3 :: x4 :: x5 :: x6 :: x7 :: x8 :: x9 :: x10 :: x11 :: aA t k :: σ) st h = ex E C L (x0 :: x1 :: x2 :: x3 :: x4 :: x5 :: x6 :: x7 :: x8 :: x9 :: x10 :: x11 :: aA t k :: σ) (aA t k :: st) h := id rfl
theorem x_7_12_I {x0 x1 x2 x3 x4 x5 x6 x7 x8 x9 x10 : AV} {z : Int} {x : Int} {v : AV} : ex E C ((7, a, 12, c) :: L) (x0 :: x1 :: x2 :: x3 :: x4 :: x5 :: x6 :: x7 :: x8 :: x9 :: x10 :: (aI z) :: v :: σ) (aI x :: st) h = ex E C L (x0 :: x1 :: x2 :: x3 :: x4 :: x5 :: x6 :: x7 :: x8 :: x9 :: x10 :: (aI z) :: aI x :: σ) st h := id rfl
theorem x_9_12_I {x0 x1 x2 x3 x4 x5 x6 x7 x8 x9 x10 : AV} {z : Int} {t k : Nat} {v : AV} : ex E C ((9, a, 12, c) :: L) (x0 :: x1 :: x2 :: x3 :: x4 :: x5 :: x6 :: x7 :: x8 :: x9 :: x10 :: (aI z) :: v :: σ) (aA t k :: st) h = ex E C L (x0 :: x1 :: x2 :: x3 :: x4 :: x5 :: x6 :: x7 :: x8 :: x9 :: x10 :: (aI z) :: aA t k :: σ) st h := id rfl
theorem x_9n_12_I {x0 x1 x2 x3 x4 x5 x6 x7 x8 x9 x10 : AV} {z : Int} {v : AV} : ex E C ((9, a, 12, c) :: L) (x0 :: x1 :: x2 :: x3 :: x4 :: x5 :: x6 :: x7 :: x8 :: x9 :: x10 :: (aI z) :: v :: σ) (none :: st) h = ex E C L (x0 :: x1 :: x2 :: x3 :: x4 :: x5 :: x6 :: x7 :: x8 :: x9 :: x10 :: (aI z) :: none :: σ) st h := id rfl
theorem x_8_12_I {x0 x1 x2 x3 x4 x5 x6 x7 x8 x9 x10 : AV} {z : Int} {x : Int} {v u : AV} : ex E C ((8, a, 12, c) :: L) (x0 :: x1 :: x2 :: x3 :: x4 :: x5 :: x6 :: x7 :: x8 :: x9 :: x10 :: (aI z) :: v :: u :: σ) (aJ x :: st) h = ex E C L (x0 :: x1 :: x2 :: x3 :: x4 :: x5 :: x6 :: x7 :: x8 :: x9 :: x10 :: (aI z) :: aJ x :: none :: σ) st h := id rfl
theorem x_10_12_I {x0 x1 x2 x3 x4 x5 x6 x7 x8 x9 x10 : AV} {z : Int} {x : Int} : ex E C ((10, a, 12, c) :: L) (x0 :: x1 :: x2 :: x3 :: x4 :: x5 :: x6 :: x7 :: x8 :: x9 :: x10 :: (aI z) :: aI x :: σ) st h = ex E C L (x0 :: x1 :: x2 :: x3 :: x4 :: x5 :: x6 :: x7 :: x8 :: x9 :: x10 :: (aI z) :: aI (w32 (x + a)) :: σ) st h := id rfl
theorem x_7_12_A {x0 x1 x2 x3 x4 x5 x6 x7 x8 x9 x10 : AV} {z w : Nat} {x : Int} {v : AV} : ex E C ((7, a, 12, c) :: L) (x0 :: x1 :: x2 :: x3 :: x4 :: x5 :: x6 :: x7 :: x8 :: x9 :: x10 :: (aA z w) :: v :: σ) (aI x :: st) h = ex E C L (x0 :: x1 :: x2 :: x3 :: x4 :: x5 :: x6 :: x7 :: x8 :: x9 :: x10 :: (aA z w) :: aI x :: σ) st h := id rfl
theorem x_9_12_A {x0 x1 x2 x3 x4 x5 x6 x7 x8 x9 x10 : AV} {z w : Nat} {t k : Nat} {v : AV} : ex E C ((9, a, 12, c) :: L) (x0 :: x1 :: x2 :: x3 :: x4 :: x5 :: x6 :: x7 :: x8 :: x9 :: x10 :: (aA z w) :: v :: σ) (aA t k :: st) h = ex E C L (x0 :: x1 :: x2 :: x3 :: x4 :: x5 :: x6 :: x7 :: x8 :: x9 :: x10 :: (aA z w) :: aA t k :: σ) st h := id rfl
theorem x_9n_12_A {x0 x1 x2 x3 x4 x5 x6 x7 x8 x9 x10 : AV} {z w : Nat} {v : AV} : ex E C ((9, a, 12, c) :: L) (x0 :: x1 :: x2 :: x3 :: x4 :: x5 :: x6 :: x7 :: x8 :: x9 :: x10 :: (aA z w) :: v :: σ) (none :: st) h = ex E C L (x0 :: x1 :: x2 :: x3 :: x4 :: x5 :: x6 :: x7 :: x8 :: x9 :: x10 :: (aA z w) :: none :: σ) st h := id rfl
theorem x_8_12_A {x0 x1 x2 x3 x4 x5 x6 x7 x8 x9 x10 : AV} {z w : Nat} {x : Int} {v u : AV} : ex E C ((8, a, 12, c) :: L) (x0 :: x1 :: x2 :: x3 :: x4 :: x5 :: x6 :: x7 :: x8 :: x9 :: x10 :: (aA z w) :: v :: u :: σ) (aJ x :: st) h = ex E C L (x0 :: x1 :: x2 :: x3 :: x4 :: x5 :: x6 :: x7 :: x8 :: x9 :: x10 :: (aA z w) :: aJ x :: none :: σ) st h := id rfl
theorem x_10_12_A {x0 x1 x2 x3 x4 x5 x6 x7 x8 x9 x10 : AV} {z w : Nat} {x : Int} : ex E C ((10, a, 12, c) :: L) (x0 :: x1 :: x2 :: x3 :: x4 :: x5 :: x6 :: x7 :: x8 :: x9 :: x10 :: (aA z w) :: aI x :: σ) st h = ex E C L (x0 :: x1 :: x2 :: x3 :: x4 :: x5 :: x6 :: x7 :: x8 :: x9 :: x10 :: (aA z w) :: aI (w32 (x + a)) :: σ) st h := id rfl
theorem x_7_12_U {x0 x1 x2 x3 x4 x5 x6 x7 x8 x9 x10 : AV} {x : Int} {v : AV} : ex E C ((7, a, 12, c) :: L) (x0 :: x1 :: x2 :: x3 :: x4 :: x5 :: x6 :: x7 :: x8 :: x9 :: x10 :: none :: v :: σ) (aI x :: st) h = ex E C L (x0 :: x1 :: x2 :: x3 :: x4 :: x5 :: x6 :: x7 :: x8 :: x9 :: x10 :: none :: aI x :: σ) st h := id rfl
theorem x_9_12_U {x0 x1 x2 x3 x4 x5 x6 x7 x8 x9 x10 : AV} {t k : Nat} {v : AV} : ex E C ((9, a, 12, c) :: L) (x0 :: x1 :: x2 :: x3 :: x4 :: x5 :: x6 :: x7 :: x8 :: x9 :: x10 :: none :: v :: σ) (aA t k :: st) h = ex E C L (x0 :: x1 :: x2 :: x3 :: x4 :: x5 :: x6 :: x7 :: x8 :: x9 :: x10 :: none :: aA t k :: σ) st h := id rfl
theorem x_9n_12_U {x0 x1 x2 x3 x4 x5 x6 x7 x8 x9 x10 : AV} {v : AV} : ex E C ((9, a, 12, c) :: L) (x0 :: x1 :: x2 :: x3 :: x4 :: x5 :: x6 :: x7 :: x8 :: x9 :: x10 :: none :: v :: σ) (none :: st) h = ex E C L (x0 :: x1 :: x2 :: x3 :: x4 :: x5 :: x6 :: x7 :: x8 :: x9 :: x10 :: none :: none :: σ) st h := id rfl
theorem x_8_12_U {x0 x1 x2 x3 x4 x5 x6 x7 x8 x9 x10 : AV} {x : Int} {v u : AV} : ex E C ((8, a, 12, c) :: L) (x0 :: x1 :: x2 :: x3 :: x4 :: x5 :: x6 :: x7 :: x8 :: x9 :: x10 :: none :: v :: u :: σ) (aJ x :: st) h = ex E C L (x0 :: x1 :: x2 :: x3 :: x4 :: x5 :: x6 :: x7 :: x8 :: x9 :: x10 :: none :: aJ x :: none :: σ) st h := id rfl
theorem x_10_12_U {x0 x1 x2 x3 x4 x5 x6 x7 x8 x9 x10 : AV} {x : Int} : ex E C ((10, a, 12, c) :: L) (x0 :: x1 :: x2 :: x3 :: x4 :: x5 :: x6 :: x7 :: x8 :: x9 :: x10 :: none :: aI x :: σ) st h = ex E C L (x0 :: x1 :: x2 :: x3 :: x4 :: x5 :: x6 :: x7 :: x8 :: x9 :: x10 :: none :: aI (w32 (x + a)) :: σ) st h := id rfl
theorem x_11 {x y : Int} : ex E C ((11, a, b, c) :: L) σ (aI y :: aI x :: st) h = ex E C L σ (aI (w32 (x + y)) :: st) h := id rfl
theorem x_12 {x y : Int} : ex E C ((12, a, b, c) :: L) σ (aI y :: aI x :: st) h = ex E C L σ (aI (w32 (x - y)) :: st) h := id rfl
theorem x_13 {x y : Int} : ex E C ((13, a, b, c) :: L) σ (aI y :: aI x :: st) h = ex E C L σ (aI (w32 (x * y)) :: st) h := id rfl
theorem x_17 {x y : Int} : ex E C ((17, a, b, c) :: L) σ (aI y :: aI x :: st) h = ex E C L σ (aI (iand x y) :: st) h := id rfl
theorem x_18 {x y : Int} : ex E C ((18, a, b, c) :: L) σ (aI y :: aI x :: st) h = ex E C L σ (aI (ior x y) :: st) h := id rfl
theorem x_19 {x y : Int} : ex E C ((19, a, b, c) :: L) σ (aI y :: aI x :: st) h = ex E C L σ (aI (ixor x y) :: st) h := id rfl
theorem x_20 {x y : Int} : ex E C ((20, a, b, c) :: L) σ (aI y :: aI x :: st) h = ex E C L σ (aI (ishl x y) :: st) h := id rfl
theorem x_21 {x y : Int} : ex E C ((21, a, b, c) :: L) σ (aI y :: aI x :: st) h = ex E C L σ (aI (ishr x y) :: st) h := id rfl
theorem x_22 {x y : Int} : ex E C ((22, a, b, c) :: L) σ (aI y :: aI x :: st) h = ex E C L σ (aI (iushr x y) :: st) h := id rfl
theorem x_14 {x y : Int} (hy : ¬ y = 0) : ex E C ((14, a, b, c) :: L) σ (aI y :: aI x :: st) h = ex E C L σ (aI (idiv x y) :: st) h := by show (if y = 0 then none else _ : Option _).bind _ = _; rw [if_neg hy]; rfl
theorem x_15 {x y : Int} (hy : ¬ y = 0) : ex E C ((15, a, b, c) :: L) σ (aI y :: aI x :: st) h = ex E C L σ (aI (irem x y) :: st) h := by show (if y = 0 then none else _ : Option _).bind _ = _; rw [if_neg hy]; rfl
theorem x_16 {x : Int} : ex E C ((16, a, b, c) :: L) σ (aI x :: st) h = ex E C L σ (aI (w32 (-x)) :: st) h := id rfl
theorem x_23 {x : Int} : ex E C ((23, a, b, c) :: L) σ (aI x :: st) h = ex E C L σ (aJ x :: st) h := id rfl
theorem x_24 {x : Int} : ex E C ((24, a, b, c) :: L) σ (aJ x :: st) h = ex E C L σ (aI (w32 x) :: st) h := id rfl
theorem x_25 {x y : Int} : ex E C ((25, a, b, c) :: L) σ (aJ y :: aJ x :: st) h = ex E C L σ (aJ (w64 (x + y)) :: st) h := id rfl
theorem x_26 {x y : Int} : ex E C ((26, a, b, c) :: L) σ (aJ y :: aJ x :: st) h = ex E C L σ (aJ (w64 (x - y)) :: st) h := id rfl
theorem x_27 {x y : Int} : ex E C ((27, a, b, c) :: L) σ (aJ y :: aJ x :: st) h = ex E C L σ (aJ (jand x y) :: st) h := id rfl
theorem x_28 {x y : Int} : ex E C ((28, a, b, c) :: L) σ (aJ y :: aJ x :: st) h = ex E C L σ (aJ (jor x y) :: st) h := id rfl
theorem x_29 {x y : Int} : ex E C ((29, a, b, c) :: L) σ (aI y :: aJ x :: st) h = ex E C L σ (aJ (jshl x y) :: st) h := id rfl
theorem x_30 {x y : Int} : ex E C ((30, a, b, c) :: L) σ (aI y :: aJ x :: st) h = ex E C L σ (aJ (jshr x y) :: st) h := id rfl
theorem x_31 {x y : Int} : ex E C ((31, a, b, c) :: L) σ (aI y :: aJ x :: st) h = ex E C L σ (aJ (jushr x y) :: st) h := id rfl
theorem x_32 {x y : Int} : ex E C ((32, a, b, c) :: L) σ (aJ y :: aJ x :: st) h = ex E C L σ (aI (jcmp x y) :: st) h := id rfl
theorem x_33 {k : Nat} : ex E C ((33, a, b, c) :: L) σ (aA c k :: st) h = ex E C L σ (aI (h b k 0) :: st) h := by show (if c = c then _ else none : Option _).bind _ = _; rw [if_pos rfl]; rfl
theorem x_34 {k : Nat} : ex E C ((34, a, b, c) :: L) σ (aA c k :: st) h = ex E C L σ (aA b k :: st) h := by show (if c = c then _ else none : Option _).bind _ = _; rw [if_pos rfl]; rfl
theorem x_35_0 {k : Nat} : ex E C ((35, 0, b, c) :: L) σ (aA c k :: st) h = ex E C L σ (aA b 0 :: st) h := by show (if c = c then _ else none : Option _).bind _ = _; rw [if_pos rfl]; rfl
theorem x_35_1 {k : Nat} : ex E C ((35, 1, b, c) :: L) σ (aA c k :: st) h = ex E C L σ (aA b 1 :: st) h := by show (if c = c then _ else none : Option _).bind _ = _; rw [if_pos rfl]; rfl
theorem x_35_2 {k : Nat} : ex E C ((35, 2, b, c) :: L) σ (aA c k :: st) h = ex E C L σ (aA b 2 :: st) h := by show (if c = c then _ else none : Option _).bind _ = _; rw [if_pos rfl]; rfl
theorem x_36 {k : Nat} {x : Int} : ex E C ((36, a, b, c) :: L) σ (aI x :: aA c k :: st) h = ex E C L σ st (hset h b k 0 x) := by show (if c = c then _ else none : Option _).bind _ = _; rw [if_pos rfl]; rfl
theorem x_37 {k : Nat} {x : Int} (hx : x = 0 ∨ x = 1) : ex E C ((37, a, b, c) :: L) σ (aI x :: aA c k :: st) h = ex E C L σ st (hset h b k 0 x) := by show (if c = c ∧ (x = 0 ∨ x = 1) then _ else none : Option _).bind _ = _; rw [if_pos ⟨rfl, hx⟩]; rfl
theorem x_38_101 {k : Nat} {i : Int} (h0 : 0 ≤ i) (h1 : i < 14) : ex E C ((38, a, b, c) :: L) σ (aI i :: aA 101 k :: st) h = ex E C L σ (aI (h 101 k i.toNat) :: st) h := by show (if 0 ≤ i ∧ i < aLen 101 then _ else none : Option _).bind _ = _; rw [if_pos ⟨h0, h1⟩]; rfl
theorem x_39_101 {k : Nat} {i x : Int} (h0 : 0 ≤ i) (h1 : i < 14) : ex E C ((39, a, b, c) :: L) σ (aI x :: aI i :: aA 101 k :: st) h = ex E C L σ st (hset h 101 k i.toNat x) := by show (if 0 ≤ i ∧ i < aLen 101 then _ else none : Option _).bind _ = _; rw [if_pos ⟨h0, h1⟩]; rfl
theorem x_50_101 {k k2 : Nat} {n : Int} (hk : ¬ k = k2) (h0 : 0 < n) (h1 : n ≤ 14) : ex E C ((50, a, b, c) :: L) σ (aI n :: aI 0 :: aA 101 k2 :: aI 0 :: aA 101 k :: []) h = ex E C L σ [] (hcpy h 101 k 101 k2 0 0 n.toNat) := by show (if (101 = 101 ∧ k ≠ k2) ∧ (0 : Int) = 0 ∧ (0 : Int) = 0 ∧ 0 < n ∧ n ≤ aLen 101 ∧ Nat.ble (wd []) 8 = true then _ else none : Option _).bind _ = _; rw [if_pos ⟨⟨rfl, hk⟩, rfl, rfl, h0, h1, rfl⟩]; rfl
theorem x_45_101 {k : Nat} : ex E C ((45, a, b, c) :: L) σ (aA 101 k :: st) h = ex E C L σ (aI 14 :: st) h := id rfl
theorem x_38_104 {k : Nat} {i : Int} (h0 : 0 ≤ i) (h1 : i < 400) : ex E C ((38, a, b, c) :: L) σ (aI i :: aA 104 k :: st) h = ex E C L σ (aI (h 104 k i.toNat) :: st) h := by show (if 0 ≤ i ∧ i < aLen 104 then _ else none : Option _).bind _ = _; rw [if_pos ⟨h0, h1⟩]; rfl
theorem x_39_104 {k : Nat} {i x : Int} (h0 : 0 ≤ i) (h1 : i < 400) : ex E C ((39, a, b, c) :: L) σ (aI x :: aI i :: aA 104 k :: st) h = ex E C L σ st (hset h 104 k i.toNat x) := by show (if 0 ≤ i ∧ i < aLen 104 then _ else none : Option _).bind _ = _; rw [if_pos ⟨h0, h1⟩]; rfl
theorem x_50_104 {k k2 : Nat} {n : Int} (hk : ¬ k = k2) (h0 : 0 < n) (h1 : n ≤ 400) : ex E C ((50, a, b, c) :: L) σ (aI n :: aI 0 :: aA 104 k2 :: aI 0 :: aA 104 k :: []) h = ex E C L σ [] (hcpy h 104 k 104 k2 0 0 n.toNat) := by show (if (104 = 104 ∧ k ≠ k2) ∧ (0 : Int) = 0 ∧ (0 : Int) = 0 ∧ 0 < n ∧ n ≤ aLen 104 ∧ Nat.ble (wd []) 8 = true then _ else none : Option _).bind _ = _; rw [if_pos ⟨⟨rfl, hk⟩, rfl, rfl, h0, h1, rfl⟩]; rfl
theorem x_45_104 {k : Nat} : ex E C ((45, a, b, c) :: L) σ (aA 104 k :: st) h = ex E C L σ (aI 400 :: st) h := id rfl
theorem x_38_105 {k : Nat} {i : Int} (h0 : 0 ≤ i) (h1 : i < 12) : ex E C ((38, a, b, c) :: L) σ (aI i :: aA 105 k :: st) h = ex E C L σ (aI (h 105 k i.toNat) :: st) h := by show (if 0 ≤ i ∧ i < aLen 105 then _ else none : Option _).bind _ = _; rw [if_pos ⟨h0, h1⟩]; rfl
theorem x_39_105 {k : Nat} {i x : Int} (h0 : 0 ≤ i) (h1 : i < 12) : ex E C ((39, a, b, c) :: L) σ (aI x :: aI i :: aA 105 k :: st) h = ex E C L σ st (hset h 105 k i.toNat x) := by show (if 0 ≤ i ∧ i < aLen 105 then _ else none : Option _).bind _ = _; rw [if_pos ⟨h0, h1⟩]; rfl
theorem x_50_105 {k k2 : Nat} {n : Int} (hk : ¬ k = k2) (h0 : 0 < n) (h1 : n ≤ 12) : ex E C ((50, a, b, c) :: L) σ (aI n :: aI 0 :: aA 105 k2 :: aI 0 :: aA 105 k :: []) h = ex E C L σ [] (hcpy h 105 k 105 k2 0 0 n.toNat) := by show (if (105 = 105 ∧ k ≠ k2) ∧ (0 : Int) = 0 ∧ (0 : Int) = 0 ∧ 0 < n ∧ n ≤ aLen 105 ∧ Nat.ble (wd []) 8 = true then _ else none : Option _).bind _ = _; rw [if_pos ⟨⟨rfl, hk⟩, rfl, rfl, h0, h1, rfl⟩]; rfl
theorem x_45_105 {k : Nat} : ex E C ((45, a, b, c) :: L) σ (aA 105 k :: st) h = ex E C L σ (aI 12 :: st) h := id rfl
theorem x_38_106 {k : Nat} {i : Int} (h0 : 0 ≤ i) (h1 : i < 12) : ex E C ((38, a, b, c) :: L) σ (aI i :: aA 106 k :: st) h = ex E C L σ (aI (h 106 k i.toNat) :: st) h := by show (if 0 ≤ i ∧ i < aLen 106 then _ else none : Option _).bind _ = _; rw [if_pos ⟨h0, h1⟩]; rfl
theorem x_39_106 {k : Nat} {i x : Int} (h0 : 0 ≤ i) (h1 : i < 12) : ex E C ((39, a, b, c) :: L) σ (aI x :: aI i :: aA 106 k :: st) h = ex E C L σ st (hset h 106 k i.toNat x) := by show (if 0 ≤ i ∧ i < aLen 106 then _ else none : Option _).bind _ = _; rw [if_pos ⟨h0, h1⟩]; rfl
theorem x_50_106 {k k2 : Nat} {n : Int} (hk : ¬ k = k2) (h0 : 0 < n) (h1 : n ≤ 12) : ex E C ((50, a, b, c) :: L) σ (aI n :: aI 0 :: aA 106 k2 :: aI 0 :: aA 106 k :: []) h = ex E C L σ [] (hcpy h 106 k 106 k2 0 0 n.toNat) := by show (if (106 = 106 ∧ k ≠ k2) ∧ (0 : Int) = 0 ∧ (0 : Int) = 0 ∧ 0 < n ∧ n ≤ aLen 106 ∧ Nat.ble (wd []) 8 = true then _ else none : Option _).bind _ = _; rw [if_pos ⟨⟨rfl, hk⟩, rfl, rfl, h0, h1, rfl⟩]; rfl
theorem x_45_106 {k : Nat} : ex E C ((45, a, b, c) :: L) σ (aA 106 k :: st) h = ex E C L σ (aI 12 :: st) h := id rfl
theorem x_38_107 {k : Nat} {i : Int} (h0 : 0 ≤ i) (h1 : i < 9) : ex E C ((38, a, b, c) :: L) σ (aI i :: aA 107 k :: st) h = ex E C L σ (aI (h 107 k i.toNat) :: st) h := by show (if 0 ≤ i ∧ i < aLen 107 then _ else none : Option _).bind _ = _; rw [if_pos ⟨h0, h1⟩]; rfl
theorem x_39_107 {k : Nat} {i x : Int} (h0 : 0 ≤ i) (h1 : i < 9) : ex E C ((39, a, b, c) :: L) σ (aI x :: aI i :: aA 107 k :: st) h = ex E C L σ st (hset h 107 k i.toNat x) := by show (if 0 ≤ i ∧ i < aLen 107 then _ else none : Option _).bind _ = _; rw [if_pos ⟨h0, h1⟩]; rfl
theorem x_50_107 {k k2 : Nat} {n : Int} (hk : ¬ k = k2) (h0 : 0 < n) (h1 : n ≤ 9) : ex E C ((50, a, b, c) :: L) σ (aI n :: aI 0 :: aA 107 k2 :: aI 0 :: aA 107 k :: []) h = ex E C L σ [] (hcpy h 107 k 107 k2 0 0 n.toNat) := by show (if (107 = 107 ∧ k ≠ k2) ∧ (0 : Int) = 0 ∧ (0 : Int) = 0 ∧ 0 < n ∧ n ≤ aLen 107 ∧ Nat.ble (wd []) 8 = true then _ else none : Option _).bind _ = _; rw [if_pos ⟨⟨rfl, hk⟩, rfl, rfl, h0, h1, rfl⟩]; rfl
theorem x_45_107 {k : Nat} : ex E C ((45, a, b, c) :: L) σ (aA 107 k :: st) h = ex E C L σ (aI 9 :: st) h := id rfl
theorem x_38_108 {k : Nat} {i : Int} (h0 : 0 ≤ i) (h1 : i < 20) : ex E C ((38, a, b, c) :: L) σ (aI i :: aA 108 k :: st) h = ex E C L σ (aI (h 108 k i.toNat) :: st) h := by show (if 0 ≤ i ∧ i < aLen 108 then _ else none : Option _).bind _ = _; rw [if_pos ⟨h0, h1⟩]; rfl
theorem x_39_108 {k : Nat} {i x : Int} (h0 : 0 ≤ i) (h1 : i < 20) : ex E C ((39, a, b, c) :: L) σ (aI x :: aI i :: aA 108 k :: st) h = ex E C L σ st (hset h 108 k i.toNat x) := by show (if 0 ≤ i ∧ i < aLen 108 then _ else none : Option _).bind _ = _; rw [if_pos ⟨h0, h1⟩]; rfl
theorem x_50_108 {k k2 : Nat} {n : Int} (hk : ¬ k = k2) (h0 : 0 < n) (h1 : n ≤ 20) : ex E C ((50, a, b, c) :: L) σ (aI n :: aI 0 :: aA 108 k2 :: aI 0 :: aA 108 k :: []) h = ex E C L σ [] (hcpy h 108 k 108 k2 0 0 n.toNat) := by show (if (108 = 108 ∧ k ≠ k2) ∧ (0 : Int) = 0 ∧ (0 : Int) = 0 ∧ 0 < n ∧ n ≤ aLen 108 ∧ Nat.ble (wd []) 8 = true then _ else none : Option _).bind _ = _; rw [if_pos ⟨⟨rfl, hk⟩, rfl, rfl, h0, h1, rfl⟩]; rfl
theorem x_45_108 {k : Nat} : ex E C ((45, a, b, c) :: L) σ (aA 108 k :: st) h = ex E C L σ (aI 20 :: st) h := id rfl
theorem x_38_117 {k : Nat} {i : Int} (h0 : 0 ≤ i) (h1 : i < 14) : ex E C ((38, a, b, c) :: L) σ (aI i :: aA 117 k :: st) h = ex E C L σ (aI (h 117 k i.toNat) :: st) h := by show (if 0 ≤ i ∧ i < aLen 117 then _ else none : Option _).bind _ = _; rw [if_pos ⟨h0, h1⟩]; rfl
theorem x_39_117 {k : Nat} {i x : Int} (h0 : 0 ≤ i) (h1 : i < 14) : ex E C ((39, a, b, c) :: L) σ (aI x :: aI i :: aA 117 k :: st) h = ex E C L σ st (hset h 117 k i.toNat x) := by show (if 0 ≤ i ∧ i < aLen 117 then _ else none : Option _).bind _ = _; rw [if_pos ⟨h0, h1⟩]; rfl
theorem x_50_117 {k k2 : Nat} {n : Int} (hk : ¬ k = k2) (h0 : 0 < n) (h1 : n ≤ 14) : ex E C ((50, a, b, c) :: L) σ (aI n :: aI 0 :: aA 117 k2 :: aI 0 :: aA 117 k :: []) h = ex E C L σ [] (hcpy h 117 k 117 k2 0 0 n.toNat) := by show (if (117 = 117 ∧ k ≠ k2) ∧ (0 : Int) = 0 ∧ (0 : Int) = 0 ∧ 0 < n ∧ n ≤ aLen 117 ∧ Nat.ble (wd []) 8 = true then _ else none : Option _).bind _ = _; rw [if_pos ⟨⟨rfl, hk⟩, rfl, rfl, h0, h1, rfl⟩]; rfl
theorem x_45_117 {k : Nat} : ex E C ((45, a, b, c) :: L) σ (aA 117 k :: st) h = ex E C L σ (aI 14 :: st) h := id rfl
theorem x_38_118 {k : Nat} {i : Int} (h0 : 0 ≤ i) (h1 : i < 84) : ex E C ((38, a, b, c) :: L) σ (aI i :: aA 118 k :: st) h = ex E C L σ (aI (h 118 k i.toNat) :: st) h := by show (if 0 ≤ i ∧ i < aLen 118 then _ else none : Option _).bind _ = _; rw [if_pos ⟨h0, h1⟩]; rfl
theorem x_39_118 {k : Nat} {i x : Int} (h0 : 0 ≤ i) (h1 : i < 84) : ex E C ((39, a, b, c) :: L) σ (aI x :: aI i :: aA 118 k :: st) h = ex E C L σ st (hset h 118 k i.toNat x) := by show (if 0 ≤ i ∧ i < aLen 118 then _ else none : Option _).bind _ = _; rw [if_pos ⟨h0, h1⟩]; rfl
theorem x_50_118 {k k2 : Nat} {n : Int} (hk : ¬ k = k2) (h0 : 0 < n) (h1 : n ≤ 84) : ex E C ((50, a, b, c) :: L) σ (aI n :: aI 0 :: aA 118 k2 :: aI 0 :: aA 118 k :: []) h = ex E C L σ [] (hcpy h 118 k 118 k2 0 0 n.toNat) := by show (if (118 = 118 ∧ k ≠ k2) ∧ (0 : Int) = 0 ∧ (0 : Int) = 0 ∧ 0 < n ∧ n ≤ aLen 118 ∧ Nat.ble (wd []) 8 = true then _ else none : Option _).bind _ = _; rw [if_pos ⟨⟨rfl, hk⟩, rfl, rfl, h0, h1, rfl⟩]; rfl
theorem x_45_118 {k : Nat} : ex E C ((45, a, b, c) :: L) σ (aA 118 k :: st) h = ex E C L σ (aI 84 :: st) h := id rfl
theorem x_38_121 {k : Nat} {i : Int} (h0 : 0 ≤ i) (h1 : i < 60) : ex E C ((38, a, b, c) :: L) σ (aI i :: aA 121 k :: st) h = ex E C L σ (aI (h 121 k i.toNat) :: st) h := by show (if 0 ≤ i ∧ i < aLen 121 then _ else none : Option _).bind _ = _; rw [if_pos ⟨h0, h1⟩]; rfl
theorem x_39_121 {k : Nat} {i x : Int} (h0 : 0 ≤ i) (h1 : i < 60) : ex E C ((39, a, b, c) :: L) σ (aI x :: aI i :: aA 121 k :: st) h = ex E C L σ st (hset h 121 k i.toNat x) := by show (if 0 ≤ i ∧ i < aLen 121 then _ else none : Option _).bind _ = _; rw [if_pos ⟨h0, h1⟩]; rfl
theorem x_50_121 {k k2 : Nat} {n : Int} (hk : ¬ k = k2) (h0 : 0 < n) (h1 : n ≤ 60) : ex E C ((50, a, b, c) :: L) σ (aI n :: aI 0 :: aA 121 k2 :: aI 0 :: aA 121 k :: []) h = ex E C L σ [] (hcpy h 121 k 121 k2 0 0 n.toNat) := by show (if (121 = 121 ∧ k ≠ k2) ∧ (0 : Int) = 0 ∧ (0 : Int) = 0 ∧ 0 < n ∧ n ≤ aLen 121 ∧ Nat.ble (wd []) 8 = true then _ else none : Option _).bind _ = _; rw [if_pos ⟨⟨rfl, hk⟩, rfl, rfl, h0, h1, rfl⟩]; rfl
theorem x_45_121 {k : Nat} : ex E C ((45, a, b, c) :: L) σ (aA 121 k :: st) h = ex E C L σ (aI 60 :: st) h := id rfl
theorem x_38_129 {k : Nat} {i : Int} (h0 : 0 ≤ i) (h1 : i < 7) : ex E C ((38, a, b, c) :: L) σ (aI i :: aA 129 k :: st) h = ex E C L σ (aI (h 129 k i.toNat) :: st) h := by show (if 0 ≤ i ∧ i < aLen 129 then _ else none : Option _).bind _ = _; rw [if_pos ⟨h0, h1⟩]; rfl
theorem x_39_129 {k : Nat} {i x : Int} (h0 : 0 ≤ i) (h1 : i < 7) : ex E C ((39, a, b, c) :: L) σ (aI x :: aI i :: aA 129 k :: st) h = ex E C L σ st (hset h 129 k i.toNat x) := by show (if 0 ≤ i ∧ i < aLen 129 then _ else none : Option _).bind _ = _; rw [if_pos ⟨h0, h1⟩]; rfl
theorem x_50_129 {k k2 : Nat} {n : Int} (hk : ¬ k = k2) (h0 : 0 < n) (h1 : n ≤ 7) : ex E C ((50, a, b, c) :: L) σ (aI n :: aI 0 :: aA 129 k2 :: aI 0 :: aA 129 k :: []) h = ex E C L σ [] (hcpy h 129 k 129 k2 0 0 n.toNat) := by show (if (129 = 129 ∧ k ≠ k2) ∧ (0 : Int) = 0 ∧ (0 : Int) = 0 ∧ 0 < n ∧ n ≤ aLen 129 ∧ Nat.ble (wd []) 8 = true then _ else none : Option _).bind _ = _; rw [if_pos ⟨⟨rfl, hk⟩, rfl, rfl, h0, h1, rfl⟩]; rfl
theorem x_45_129 {k : Nat} : ex E C ((45, a, b, c) :: L) σ (aA 129 k :: st) h = ex E C L σ (aI 7 :: st) h := id rfl
theorem x_38_130 {k : Nat} {i : Int} (h0 : 0 ≤ i) (h1 : i < 7) : ex E C ((38, a, b, c) :: L) σ (aI i :: aA 130 k :: st) h = ex E C L σ (aI (h 130 k i.toNat) :: st) h := by show (if 0 ≤ i ∧ i < aLen 130 then _ else none : Option _).bind _ = _; rw [if_pos ⟨h0, h1⟩]; rfl
theorem x_39_130 {k : Nat} {i x : Int} (h0 : 0 ≤ i) (h1 : i < 7) : ex E C ((39, a, b, c) :: L) σ (aI x :: aI i :: aA 130 k :: st) h = ex E C L σ st (hset h 130 k i.toNat x) := by show (if 0 ≤ i ∧ i < aLen 130 then _ else none : Option _).bind _ = _; rw [if_pos ⟨h0, h1⟩]; rfl
theorem x_50_130 {k k2 : Nat} {n : Int} (hk : ¬ k = k2) (h0 : 0 < n) (h1 : n ≤ 7) : ex E C ((50, a, b, c) :: L) σ (aI n :: aI 0 :: aA 130 k2 :: aI 0 :: aA 130 k :: []) h = ex E C L σ [] (hcpy h 130 k 130 k2 0 0 n.toNat) := by show (if (130 = 130 ∧ k ≠ k2) ∧ (0 : Int) = 0 ∧ (0 : Int) = 0 ∧ 0 < n ∧ n ≤ aLen 130 ∧ Nat.ble (wd []) 8 = true then _ else none : Option _).bind _ = _; rw [if_pos ⟨⟨rfl, hk⟩, rfl, rfl, h0, h1, rfl⟩]; rfl
theorem x_45_130 {k : Nat} : ex E C ((45, a, b, c) :: L) σ (aA 130 k :: st) h = ex E C L σ (aI 7 :: st) h := id rfl
theorem x_38_131 {k : Nat} {i : Int} (h0 : 0 ≤ i) (h1 : i < 7) : ex E C ((38, a, b, c) :: L) σ (aI i :: aA 131 k :: st) h = ex E C L σ (aI (h 131 k i.toNat) :: st) h := by show (if 0 ≤ i ∧ i < aLen 131 then _ else none : Option _).bind _ = _; rw [if_pos ⟨h0, h1⟩]; rfl
theorem x_39_131 {k : Nat} {i x : Int} (h0 : 0 ≤ i) (h1 : i < 7) : ex E C ((39, a, b, c) :: L) σ (aI x :: aI i :: aA 131 k :: st) h = ex E C L σ st (hset h 131 k i.toNat x) := by show (if 0 ≤ i ∧ i < aLen 131 then _ else none : Option _).bind _ = _; rw [if_pos ⟨h0, h1⟩]; rfl
theorem x_50_131 {k k2 : Nat} {n : Int} (hk : ¬ k = k2) (h0 : 0 < n) (h1 : n ≤ 7) : ex E C ((50, a, b, c) :: L) σ (aI n :: aI 0 :: aA 131 k2 :: aI 0 :: aA 131 k :: []) h = ex E C L σ [] (hcpy h 131 k 131 k2 0 0 n.toNat) := by show (if (131 = 131 ∧ k ≠ k2) ∧ (0 : Int) = 0 ∧ (0 : Int) = 0 ∧ 0 < n ∧ n ≤ aLen 131 ∧ Nat.ble (wd []) 8 = true then _ else none : Option _).bind _ = _; rw [if_pos ⟨⟨rfl, hk⟩, rfl, rfl, h0, h1, rfl⟩]; rfl
theorem x_45_131 {k : Nat} : ex E C ((45, a, b, c) :: L) σ (aA 131 k :: st) h = ex E C L σ (aI 7 :: st) h := id rfl
theorem x_38_132 {k : Nat} {i : Int} (h0 : 0 ≤ i) (h1 : i < 7) : ex E C ((38, a, b, c) :: L) σ (aI i :: aA 132 k :: st) h = ex E C L σ (aI (h 132 k i.toNat) :: st) h := by show (if 0 ≤ i ∧ i < aLen 132 then _ else none : Option _).bind _ = _; rw [if_pos ⟨h0, h1⟩]; rfl
theorem x_39_132 {k : Nat} {i x : Int} (h0 : 0 ≤ i) (h1 : i < 7) : ex E C ((39, a, b, c) :: L) σ (aI x :: aI i :: aA 132 k :: st) h = ex E C L σ st (hset h 132 k i.toNat x) := by show (if 0 ≤ i ∧ i < aLen 132 then _ else none : Option _).bind _ = _; rw [if_pos ⟨h0, h1⟩]; rfl
theorem x_50_132 {k k2 : Nat} {n : Int} (hk : ¬ k = k2) (h0 : 0 < n) (h1 : n ≤ 7) : ex E C ((50, a, b, c) :: L) σ (aI n :: aI 0 :: aA 132 k2 :: aI 0 :: aA 132 k :: []) h = ex E C L σ [] (hcpy h 132 k 132 k2 0 0 n.toNat) := by show (if (132 = 132 ∧ k ≠ k2) ∧ (0 : Int) = 0 ∧ (0 : Int) = 0 ∧ 0 < n ∧ n ≤ aLen 132 ∧ Nat.ble (wd []) 8 = true then _ else none : Option _).bind _ = _; rw [if_pos ⟨⟨rfl, hk⟩, rfl, rfl, h0, h1, rfl⟩]; rfl
theorem x_45_132 {k : Nat} : ex E C ((45, a, b, c) :: L) σ (aA 132 k :: st) h = ex E C L σ (aI 7 :: st) h := id rfl
theorem x_38_133 {k : Nat} {i : Int} (h0 : 0 ≤ i) (h1 : i < 7) : ex E C ((38, a, b, c) :: L) σ (aI i :: aA 133 k :: st) h = ex E C L σ (aI (h 133 k i.toNat) :: st) h := by show (if 0 ≤ i ∧ i < aLen 133 then _ else none : Option _).bind _ = _; rw [if_pos ⟨h0, h1⟩]; rfl
theorem x_39_133 {k : Nat} {i x : Int} (h0 : 0 ≤ i) (h1 : i < 7) : ex E C ((39, a, b, c) :: L) σ (aI x :: aI i :: aA 133 k :: st) h = ex E C L σ st (hset h 133 k i.toNat x) := by show (if 0 ≤ i ∧ i < aLen 133 then _ else none : Option _).bind _ = _; rw [if_pos ⟨h0, h1⟩]; rfl
theorem x_50_133 {k k2 : Nat} {n : Int} (hk : ¬ k = k2) (h0 : 0 < n) (h1 : n ≤ 7) : ex E C ((50, a, b, c) :: L) σ (aI n :: aI 0 :: aA 133 k2 :: aI 0 :: aA 133 k :: []) h = ex E C L σ [] (hcpy h 133 k 133 k2 0 0 n.toNat) := by show (if (133 = 133 ∧ k ≠ k2) ∧ (0 : Int) = 0 ∧ (0 : Int) = 0 ∧ 0 < n ∧ n ≤ aLen 133 ∧ Nat.ble (wd []) 8 = true then _ else none : Option _).bind _ = _; rw [if_pos ⟨⟨rfl, hk⟩, rfl, rfl, h0, h1, rfl⟩]; rfl
theorem x_45_133 {k : Nat} : ex E C ((45, a, b, c) :: L) σ (aA 133 k :: st) h = ex E C L σ (aI 7 :: st) h := id rfl
theorem x_38_134 {k : Nat} {i : Int} (h0 : 0 ≤ i) (h1 : i < 14) : ex E C ((38, a, b, c) :: L) σ (aI i :: aA 134 k :: st) h = ex E C L σ (aI (h 134 k i.toNat) :: st) h := by show (if 0 ≤ i ∧ i < aLen 134 then _ else none : Option _).bind _ = _; rw [if_pos ⟨h0, h1⟩]; rfl
theorem x_39_134 {k : Nat} {i x : Int} (h0 : 0 ≤ i) (h1 : i < 14) : ex E C ((39, a, b, c) :: L) σ (aI x :: aI i :: aA 134 k :: st) h = ex E C L σ st (hset h 134 k i.toNat x) := by show (if 0 ≤ i ∧ i < aLen 134 then _ else none : Option _).bind _ = _; rw [if_pos ⟨h0, h1⟩]; rfl
theorem x_50_134 {k k2 : Nat} {n : Int} (hk : ¬ k = k2) (h0 : 0 < n) (h1 : n ≤ 14) : ex E C ((50, a, b, c) :: L) σ (aI n :: aI 0 :: aA 134 k2 :: aI 0 :: aA 134 k :: []) h = ex E C L σ [] (hcpy h 134 k 134 k2 0 0 n.toNat) := by show (if (134 = 134 ∧ k ≠ k2) ∧ (0 : Int) = 0 ∧ (0 : Int) = 0 ∧ 0 < n ∧ n ≤ aLen 134 ∧ Nat.ble (wd []) 8 = true then _ else none : Option _).bind _ = _; rw [if_pos ⟨⟨rfl, hk⟩, rfl, rfl, h0, h1, rfl⟩]; rfl
theorem x_45_134 {k : Nat} : ex E C ((45, a, b, c) :: L) σ (aA 134 k :: st) h = ex E C L σ (aI 14 :: st) h := id rfl
theorem x_38_135 {k : Nat} {i : Int} (h0 : 0 ≤ i) (h1 : i < 14) : ex E C ((38, a, b, c) :: L) σ (aI i :: aA 135 k :: st) h = ex E C L σ (aI (h 135 k i.toNat) :: st) h := by show (if 0 ≤ i ∧ i < aLen 135 then _ else none : Option _).bind _ = _; rw [if_pos ⟨h0, h1⟩]; rfl
theorem x_39_135 {k : Nat} {i x : Int} (h0 : 0 ≤ i) (h1 : i < 14) : ex E C ((39, a, b, c) :: L) σ (aI x :: aI i :: aA 135 k :: st) h = ex E C L σ st (hset h 135 k i.toNat x) := by show (if 0 ≤ i ∧ i < aLen 135 then _ else none : Option _).bind _ = _; rw [if_pos ⟨h0, h1⟩]; rfl
theorem x_50_135 {k k2 : Nat} {n : Int} (hk : ¬ k = k2) (h0 : 0 < n) (h1 : n ≤ 14) : ex E C ((50, a, b, c) :: L) σ (aI n :: aI 0 :: aA 135 k2 :: aI 0 :: aA 135 k :: []) h = ex E C L σ [] (hcpy h 135 k 135 k2 0 0 n.toNat) := by show (if (135 = 135 ∧ k ≠ k2) ∧ (0 : Int) = 0 ∧ (0 : Int) = 0 ∧ 0 < n ∧ n ≤ aLen 135 ∧ Nat.ble (wd []) 8 = true then _ else none : Option _).bind _ = _; rw [if_pos ⟨⟨rfl, hk⟩, rfl, rfl, h0, h1, rfl⟩]; rfl
theorem x_45_135 {k : Nat} : ex E C ((45, a, b, c) :: L) σ (aA 135 k :: st) h = ex E C L σ (aI 14 :: st) h := id rfl
theorem x_38_136 {k : Nat} {i : Int} (h0 : 0 ≤ i) (h1 : i < 14) : ex E C ((38, a, b, c) :: L) σ (aI i :: aA 136 k :: st) h = ex E C L σ (aI (h 136 k i.toNat) :: st) h := by show (if 0 ≤ i ∧ i < aLen 136 then _ else none : Option _).bind _ = _; rw [if_pos ⟨h0, h1⟩]; rfl
theorem x_39_136 {k : Nat} {i x : Int} (h0 : 0 ≤ i) (h1 : i < 14) : ex E C ((39, a, b, c) :: L) σ (aI x :: aI i :: aA 136 k :: st) h = ex E C L σ st (hset h 136 k i.toNat x) := by show (if 0 ≤ i ∧ i < aLen 136 then _ else none : Option _).bind _ = _; rw [if_pos ⟨h0, h1⟩]; rfl
theorem x_50_136 {k k2 : Nat} {n : Int} (hk : ¬ k = k2) (h0 : 0 < n) (h1 : n ≤ 14) : ex E C ((50, a, b, c) :: L) σ (aI n :: aI 0 :: aA 136 k2 :: aI 0 :: aA 136 k :: []) h = ex E C L σ [] (hcpy h 136 k 136 k2 0 0 n.toNat) := by show (if (136 = 136 ∧ k ≠ k2) ∧ (0 : Int) = 0 ∧ (0 : Int) = 0 ∧ 0 < n ∧ n ≤ aLen 136 ∧ Nat.ble (wd []) 8 = true then _ else none : Option _).bind _ = _; rw [if_pos ⟨⟨rfl, hk⟩, rfl, rfl, h0, h1, rfl⟩]; rfl
theorem x_45_136 {k : Nat} : ex E C ((45, a, b, c) :: L) σ (aA 136 k :: st) h = ex E C L σ (aI 14 :: st) h := id rfl
theorem x_38_137 {k : Nat} {i : Int} (h0 : 0 ≤ i) (h1 : i < 4) : ex E C ((38, a, b, c) :: L) σ (aI i :: aA 137 k :: st) h = ex E C L σ (aI (h 137 k i.toNat) :: st) h := by show (if 0 ≤ i ∧ i < aLen 137 then _ else none : Option _).bind _ = _; rw [if_pos ⟨h0, h1⟩]; rfl
theorem x_39_137 {k : Nat} {i x : Int} (h0 : 0 ≤ i) (h1 : i < 4) : ex E C ((39, a, b, c) :: L) σ (aI x :: aI i :: aA 137 k :: st) h = ex E C L σ st (hset h 137 k i.toNat x) := by show (if 0 ≤ i ∧ i < aLen 137 then _ else none : Option _).bind _ = _; rw [if_pos ⟨h0, h1⟩]; rfl
theorem x_50_137 {k k2 : Nat} {n : Int} (hk : ¬ k = k2) (h0 : 0 < n) (h1 : n ≤ 4) : ex E C ((50, a, b, c) :: L) σ (aI n :: aI 0 :: aA 137 k2 :: aI 0 :: aA 137 k :: []) h = ex E C L σ [] (hcpy h 137 k 137 k2 0 0 n.toNat) := by show (if (137 = 137 ∧ k ≠ k2) ∧ (0 : Int) = 0 ∧ (0 : Int) = 0 ∧ 0 < n ∧ n ≤ aLen 137 ∧ Nat.ble (wd []) 8 = true then _ else none : Option _).bind _ = _; rw [if_pos ⟨⟨rfl, hk⟩, rfl, rfl, h0, h1, rfl⟩]; rfl
theorem x_45_137 {k : Nat} : ex E C ((45, a, b, c) :: L) σ (aA 137 k :: st) h = ex E C L σ (aI 4 :: st) h := id rfl
theorem x_38_148 {k : Nat} {i : Int} (h0 : 0 ≤ i) (h1 : i < 400) : ex E C ((38, a, b, c) :: L) σ (aI i :: aA 148 k :: st) h = ex E C L σ (aI (h 148 k i.toNat) :: st) h := by show (if 0 ≤ i ∧ i < aLen 148 then _ else none : Option _).bind _ = _; rw [if_pos ⟨h0, h1⟩]; rfl
theorem x_39_148 {k : Nat} {i x : Int} (h0 : 0 ≤ i) (h1 : i < 400) : ex E C ((39, a, b, c) :: L) σ (aI x :: aI i :: aA 148 k :: st) h = ex E C L σ st (hset h 148 k i.toNat x) := by show (if 0 ≤ i ∧ i < aLen 148 then _ else none : Option _).bind _ = _; rw [if_pos ⟨h0, h1⟩]; rfl
theorem x_50_148 {k k2 : Nat} {n : Int} (hk : ¬ k = k2) (h0 : 0 < n) (h1 : n ≤ 400) : ex E C ((50, a, b, c) :: L) σ (aI n :: aI 0 :: aA 148 k2 :: aI 0 :: aA 148 k :: []) h = ex E C L σ [] (hcpy h 148 k 148 k2 0 0 n.toNat) := by show (if (148 = 148 ∧ k ≠ k2) ∧ (0 : Int) = 0 ∧ (0 : Int) = 0 ∧ 0 < n ∧ n ≤ aLen 148 ∧ Nat.ble (wd []) 8 = true then _ else none : Option _).bind _ = _; rw [if_pos ⟨⟨rfl, hk⟩, rfl, rfl, h0, h1, rfl⟩]; rfl
theorem x_45_148 {k : Nat} : ex E C ((45, a, b, c) :: L) σ (aA 148 k :: st) h = ex E C L σ (aI 400 :: st) h := id rfl
theorem x_38_159 {k : Nat} {i : Int} (h0 : 0 ≤ i) (h1 : i < 14) : ex E C ((38, a, b, c) :: L) σ (aI i :: aA 159 k :: st) h = ex E C L σ (aI (h 159 k i.toNat) :: st) h := by show (if 0 ≤ i ∧ i < aLen 159 then _ else none : Option _).bind _ = _; rw [if_pos ⟨h0, h1⟩]; rfl
theorem x_39_159 {k : Nat} {i x : Int} (h0 : 0 ≤ i) (h1 : i < 14) : ex E C ((39, a, b, c) :: L) σ (aI x :: aI i :: aA 159 k :: st) h = ex E C L σ st (hset h 159 k i.toNat x) := by show (if 0 ≤ i ∧ i < aLen 159 then _ else none : Option _).bind _ = _; rw [if_pos ⟨h0, h1⟩]; rfl
theorem x_50_159 {k k2 : Nat} {n : Int} (hk : ¬ k = k2) (h0 : 0 < n) (h1 : n ≤ 14) : ex E C ((50, a, b, c) :: L) σ (aI n :: aI 0 :: aA 159 k2 :: aI 0 :: aA 159 k :: []) h = ex E C L σ [] (hcpy h 159 k 159 k2 0 0 n.toNat) := by show (if (159 = 159 ∧ k ≠ k2) ∧ (0 : Int) = 0 ∧ (0 : Int) = 0 ∧ 0 < n ∧ n ≤ aLen 159 ∧ Nat.ble (wd []) 8 = true then _ else none : Option _).bind _ = _; rw [if_pos ⟨⟨rfl, hk⟩, rfl, rfl, h0, h1, rfl⟩]; rfl
theorem x_45_159 {k : Nat} : ex E C ((45, a, b, c) :: L) σ (aA 159 k :: st) h = ex E C L σ (aI 14 :: st) h := id rfl
theorem x_38_160 {k : Nat} {i : Int} (h0 : 0 ≤ i) (h1 : i < 14) : ex E C ((38, a, b, c) :: L) σ (aI i :: aA 160 k :: st) h = ex E C L σ (aI (h 160 k i.toNat) :: st) h := by show (if 0 ≤ i ∧ i < aLen 160 then _ else none : Option _).bind _ = _; rw [if_pos ⟨h0, h1⟩]; rfl
theorem x_39_160 {k : Nat} {i x : Int} (h0 : 0 ≤ i) (h1 : i < 14) : ex E C ((39, a, b, c) :: L) σ (aI x :: aI i :: aA 160 k :: st) h = ex E C L σ st (hset h 160 k i.toNat x) := by show (if 0 ≤ i ∧ i < aLen 160 then _ else none : Option _).bind _ = _; rw [if_pos ⟨h0, h1⟩]; rfl
theorem x_50_160 {k k2 : Nat} {n : Int} (hk : ¬ k = k2) (h0 : 0 < n) (h1 : n ≤ 14) : ex E C ((50, a, b, c) :: L) σ (aI n :: aI 0 :: aA 160 k2 :: aI 0 :: aA 160 k :: []) h = ex E C L σ [] (hcpy h 160 k 160 k2 0 0 n.toNat) := by show (if (160 = 160 ∧ k ≠ k2) ∧ (0 : Int) = 0 ∧ (0 : Int) = 0 ∧ 0 < n ∧ n ≤ aLen 160 ∧ Nat.ble (wd []) 8 = true then _ else none : Option _).bind _ = _; rw [if_pos ⟨⟨rfl, hk⟩, rfl, rfl, h0, h1, rfl⟩]; rfl
theorem x_45_160 {k : Nat} : ex E C ((45, a, b, c) :: L) σ (aA 160 k :: st) h = ex E C L σ (aI 14 :: st) h := id rfl
theorem x_38_161 {k : Nat} {i : Int} (h0 : 0 ≤ i) (h1 : i < 84) : ex E C ((38, a, b, c) :: L) σ (aI i :: aA 161 k :: st) h = ex E C L σ (aI (h 161 k i.toNat) :: st) h := by show (if 0 ≤ i ∧ i < aLen 161 then _ else none : Option _).bind _ = _; rw [if_pos ⟨h0, h1⟩]; rfl
theorem x_39_161 {k : Nat} {i x : Int} (h0 : 0 ≤ i) (h1 : i < 84) : ex E C ((39, a, b, c) :: L) σ (aI x :: aI i :: aA 161 k :: st) h = ex E C L σ st (hset h 161 k i.toNat x) := by show (if 0 ≤ i ∧ i < aLen 161 then _ else none : Option _).bind _ = _; rw [if_pos ⟨h0, h1⟩]; rfl
theorem x_50_161 {k k2 : Nat} {n : Int} (hk : ¬ k = k2) (h0 : 0 < n) (h1 : n ≤ 84) : ex E C ((50, a, b, c) :: L) σ (aI n :: aI 0 :: aA 161 k2 :: aI 0 :: aA 161 k :: []) h = ex E C L σ [] (hcpy h 161 k 161 k2 0 0 n.toNat) := by show (if (161 = 161 ∧ k ≠ k2) ∧ (0 : Int) = 0 ∧ (0 : Int) = 0 ∧ 0 < n ∧ n ≤ aLen 161 ∧ Nat.ble (wd []) 8 = true then _ else none : Option _).bind _ = _; rw [if_pos ⟨⟨rfl, hk⟩, rfl, rfl, h0, h1, rfl⟩]; rfl
theorem x_45_161 {k : Nat} : ex E C ((45, a, b, c) :: L) σ (aA 161 k :: st) h = ex E C L σ (aI 84 :: st) h := id rfl
theorem x_38_162 {k : Nat} {i : Int} (h0 : 0 ≤ i) (h1 : i < 15) : ex E C ((38, a, b, c) :: L) σ (aI i :: aA 162 k :: st) h = ex E C L σ (aI (h 162 k i.toNat) :: st) h := by show (if 0 ≤ i ∧ i < aLen 162 then _ else none : Option _).bind _ = _; rw [if_pos ⟨h0, h1⟩]; rfl
theorem x_39_162 {k : Nat} {i x : Int} (h0 : 0 ≤ i) (h1 : i < 15) : ex E C ((39, a, b, c) :: L) σ (aI x :: aI i :: aA 162 k :: st) h = ex E C L σ st (hset h 162 k i.toNat x) := by show (if 0 ≤ i ∧ i < aLen 162 then _ else none : Option _).bind _ = _; rw [if_pos ⟨h0, h1⟩]; rfl
theorem x_50_162 {k k2 : Nat} {n : Int} (hk : ¬ k = k2) (h0 : 0 < n) (h1 : n ≤ 15) : ex E C ((50, a, b, c) :: L) σ (aI n :: aI 0 :: aA 162 k2 :: aI 0 :: aA 162 k :: []) h = ex E C L σ [] (hcpy h 162 k 162 k2 0 0 n.toNat) := by show (if (162 = 162 ∧ k ≠ k2) ∧ (0 : Int) = 0 ∧ (0 : Int) = 0 ∧ 0 < n ∧ n ≤ aLen 162 ∧ Nat.ble (wd []) 8 = true then _ else none : Option _).bind _ = _; rw [if_pos ⟨⟨rfl, hk⟩, rfl, rfl, h0, h1, rfl⟩]; rfl
theorem x_45_162 {k : Nat} : ex E C ((45, a, b, c) :: L) σ (aA 162 k :: st) h = ex E C L σ (aI 15 :: st) h := id rfl
theorem x_38_163 {k : Nat} {i : Int} (h0 : 0 ≤ i) (h1 : i < 960) : ex E C ((38, a, b, c) :: L) σ (aI i :: aA 163 k :: st) h = ex E C L σ (aI (h 163 k i.toNat) :: st) h := by show (if 0 ≤ i ∧ i < aLen 163 then _ else none : Option _).bind _ = _; rw [if_pos ⟨h0, h1⟩]; rfl
theorem x_39_163 {k : Nat} {i x : Int} (h0 : 0 ≤ i) (h1 : i < 960) : ex E C ((39, a, b, c) :: L) σ (aI x :: aI i :: aA 163 k :: st) h = ex E C L σ st (hset h 163 k i.toNat x) := by show (if 0 ≤ i ∧ i < aLen 163 then _ else none : Option _).bind _ = _; rw [if_pos ⟨h0, h1⟩]; rfl
theorem x_50_163 {k k2 : Nat} {n : Int} (hk : ¬ k = k2) (h0 : 0 < n) (h1 : n ≤ 960) : ex E C ((50, a, b, c) :: L) σ (aI n :: aI 0 :: aA 163 k2 :: aI 0 :: aA 163 k :: []) h = ex E C L σ [] (hcpy h 163 k 163 k2 0 0 n.toNat) := by show (if (163 = 163 ∧ k ≠ k2) ∧ (0 : Int) = 0 ∧ (0 : Int) = 0 ∧ 0 < n ∧ n ≤ aLen 163 ∧ Nat.ble (wd []) 8 = true then _ else none : Option _).bind _ = _; rw [if_pos ⟨⟨rfl, hk⟩, rfl, rfl, h0, h1, rfl⟩]; rfl
theorem x_45_163 {k : Nat} : ex E C ((45, a, b, c) :: L) σ (aA 163 k :: st) h = ex E C L σ (aI 960 :: st) h := id rfl
theorem x_38_165 {k : Nat} {i : Int} (h0 : 0 ≤ i) (h1 : i < 14) : ex E C ((38, a, b, c) :: L) σ (aI i :: aA 165 k :: st) h = ex E C L σ (aI (h 165 k i.toNat) :: st) h := by show (if 0 ≤ i ∧ i < aLen 165 then _ else none : Option _).bind _ = _; rw [if_pos ⟨h0, h1⟩]; rfl
theorem x_39_165 {k : Nat} {i x : Int} (h0 : 0 ≤ i) (h1 : i < 14) : ex E C ((39, a, b, c) :: L) σ (aI x :: aI i :: aA 165 k :: st) h = ex E C L σ st (hset h 165 k i.toNat x) := by show (if 0 ≤ i ∧ i < aLen 165 then _ else none : Option _).bind _ = _; rw [if_pos ⟨h0, h1⟩]; rfl
theorem x_50_165 {k k2 : Nat} {n : Int} (hk : ¬ k = k2) (h0 : 0 < n) (h1 : n ≤ 14) : ex E C ((50, a, b, c) :: L) σ (aI n :: aI 0 :: aA 165 k2 :: aI 0 :: aA 165 k :: []) h = ex E C L σ [] (hcpy h 165 k 165 k2 0 0 n.toNat) := by show (if (165 = 165 ∧ k ≠ k2) ∧ (0 : Int) = 0 ∧ (0 : Int) = 0 ∧ 0 < n ∧ n ≤ aLen 165 ∧ Nat.ble (wd []) 8 = true then _ else none : Option _).bind _ = _; rw [if_pos ⟨⟨rfl, hk⟩, rfl, rfl, h0, h1, rfl⟩]; rfl
theorem x_45_165 {k : Nat} : ex E C ((45, a, b, c) :: L) σ (aA 165 k :: st) h = ex E C L σ (aI 14 :: st) h := id rfl
theorem x_38_166 {k : Nat} {i : Int} (h0 : 0 ≤ i) (h1 : i < 6) : ex E C ((38, a, b, c) :: L) σ (aI i :: aA 166 k :: st) h = ex E C L σ (aI (h 166 k i.toNat) :: st) h := by show (if 0 ≤ i ∧ i < aLen 166 then _ else none : Option _).bind _ = _; rw [if_pos ⟨h0, h1⟩]; rfl
theorem x_39_166 {k : Nat} {i x : Int} (h0 : 0 ≤ i) (h1 : i < 6) : ex E C ((39, a, b, c) :: L) σ (aI x :: aI i :: aA 166 k :: st) h = ex E C L σ st (hset h 166 k i.toNat x) := by show (if 0 ≤ i ∧ i < aLen 166 then _ else none : Option _).bind _ = _; rw [if_pos ⟨h0, h1⟩]; rfl
theorem x_50_166 {k k2 : Nat} {n : Int} (hk : ¬ k = k2) (h0 : 0 < n) (h1 : n ≤ 6) : ex E C ((50, a, b, c) :: L) σ (aI n :: aI 0 :: aA 166 k2 :: aI 0 :: aA 166 k :: []) h = ex E C L σ [] (hcpy h 166 k 166 k2 0 0 n.toNat) := by show (if (166 = 166 ∧ k ≠ k2) ∧ (0 : Int) = 0 ∧ (0 : Int) = 0 ∧ 0 < n ∧ n ≤ aLen 166 ∧ Nat.ble (wd []) 8 = true then _ else none : Option _).bind _ = _; rw [if_pos ⟨⟨rfl, hk⟩, rfl, rfl, h0, h1, rfl⟩]; rfl
theorem x_45_166 {k : Nat} : ex E C ((45, a, b, c) :: L) σ (aA 166 k :: st) h = ex E C L σ (aI 6 :: st) h := id rfl
theorem x_38_182 {k : Nat} {i : Int} (h0 : 0 ≤ i) (h1 : i < 12) : ex E C ((38, a, b, c) :: L) σ (aI i :: aA 182 k :: st) h = ex E C L σ (aI (h 182 k i.toNat) :: st) h := by show (if 0 ≤ i ∧ i < aLen 182 then _ else none : Option _).bind _ = _; rw [if_pos ⟨h0, h1⟩]; rfl
theorem x_39_182 {k : Nat} {i x : Int} (h0 : 0 ≤ i) (h1 : i < 12) : ex E C ((39, a, b, c) :: L) σ (aI x :: aI i :: aA 182 k :: st) h = ex E C L σ st (hset h 182 k i.toNat x) := by show (if 0 ≤ i ∧ i < aLen 182 then _ else none : Option _).bind _ = _; rw [if_pos ⟨h0, h1⟩]; rfl
theorem x_50_182 {k k2 : Nat} {n : Int} (hk : ¬ k = k2) (h0 : 0 < n) (h1 : n ≤ 12) : ex E C ((50, a, b, c) :: L) σ (aI n :: aI 0 :: aA 182 k2 :: aI 0 :: aA 182 k :: []) h = ex E C L σ [] (hcpy h 182 k 182 k2 0 0 n.toNat) := by show (if (182 = 182 ∧ k ≠ k2) ∧ (0 : Int) = 0 ∧ (0 : Int) = 0 ∧ 0 < n ∧ n ≤ aLen 182 ∧ Nat.ble (wd []) 8 = true then _ else none : Option _).bind _ = _; rw [if_pos ⟨⟨rfl, hk⟩, rfl, rfl, h0, h1, rfl⟩]; rfl
theorem x_45_182 {k : Nat} : ex E C ((45, a, b, c) :: L) σ (aA 182 k :: st) h = ex E C L σ (aI 12 :: st) h := id rfl
theorem x_38_187 {k : Nat} {i : Int} (h0 : 0 ≤ i) (h1 : i < 746) : ex E C ((38, a, b, c) :: L) σ (aI i :: aA 187 k :: st) h = ex E C L σ (aI (h 187 k i.toNat) :: st) h := by show (if 0 ≤ i ∧ i < aLen 187 then _ else none : Option _).bind _ = _; rw [if_pos ⟨h0, h1⟩]; rfl
theorem x_39_187 {k : Nat} {i x : Int} (h0 : 0 ≤ i) (h1 : i < 746) : ex E C ((39, a, b, c) :: L) σ (aI x :: aI i :: aA 187 k :: st) h = ex E C L σ st (hset h 187 k i.toNat x) := by show (if 0 ≤ i ∧ i < aLen 187 then _ else none : Option _).bind _ = _; rw [if_pos ⟨h0, h1⟩]; rfl
theorem x_50_187 {k k2 : Nat} {n : Int} (hk : ¬ k = k2) (h0 : 0 < n) (h1 : n ≤ 746) : ex E C ((50, a, b, c) :: L) σ (aI n :: aI 0 :: aA 187 k2 :: aI 0 :: aA 187 k :: []) h = ex E C L σ [] (hcpy h 187 k 187 k2 0 0 n.toNat) := by show (if (187 = 187 ∧ k ≠ k2) ∧ (0 : Int) = 0 ∧ (0 : Int) = 0 ∧ 0 < n ∧ n ≤ aLen 187 ∧ Nat.ble (wd []) 8 = true then _ else none : Option _).bind _ = _; rw [if_pos ⟨⟨rfl, hk⟩, rfl, rfl, h0, h1, rfl⟩]; rfl
theorem x_45_187 {k : Nat} : ex E C ((45, a, b, c) :: L) σ (aA 187 k :: st) h = ex E C L σ (aI 746 :: st) h := id rfl
theorem x_38_188 {k : Nat} {i : Int} (h0 : 0 ≤ i) (h1 : i < 746) : ex E C ((38, a, b, c) :: L) σ (aI i :: aA 188 k :: st) h = ex E C L σ (aI (h 188 k i.toNat) :: st) h := by show (if 0 ≤ i ∧ i < aLen 188 then _ else none : Option _).bind _ = _; rw [if_pos ⟨h0, h1⟩]; rfl
theorem x_39_188 {k : Nat} {i x : Int} (h0 : 0 ≤ i) (h1 : i < 746) : ex E C ((39, a, b, c) :: L) σ (aI x :: aI i :: aA 188 k :: st) h = ex E C L σ st (hset h 188 k i.toNat x) := by show (if 0 ≤ i ∧ i < aLen 188 then _ else none : Option _).bind _ = _; rw [if_pos ⟨h0, h1⟩]; rfl
theorem x_50_188 {k k2 : Nat} {n : Int} (hk : ¬ k = k2) (h0 : 0 < n) (h1 : n ≤ 746) : ex E C ((50, a, b, c) :: L) σ (aI n :: aI 0 :: aA 188 k2 :: aI 0 :: aA 188 k :: []) h = ex E C L σ [] (hcpy h 188 k 188 k2 0 0 n.toNat) := by show (if (188 = 188 ∧ k ≠ k2) ∧ (0 : Int) = 0 ∧ (0 : Int) = 0 ∧ 0 < n ∧ n ≤ aLen 188 ∧ Nat.ble (wd []) 8 = true then _ else none : Option _).bind _ = _; rw [if_pos ⟨⟨rfl, hk⟩, rfl, rfl, h0, h1, rfl⟩]; rfl
theorem x_45_188 {k : Nat} : ex E C ((45, a, b, c) :: L) σ (aA 188 k :: st) h = ex E C L σ (aI 746 :: st) h := id rfl
theorem x_38_190 {k : Nat} {i : Int} (h0 : 0 ≤ i) (h1 : i < 346) : ex E C ((38, a, b, c) :: L) σ (aI i :: aA 190 k :: st) h = ex E C L σ (aI (h 190 k i.toNat) :: st) h := by show (if 0 ≤ i ∧ i < aLen 190 then _ else none : Option _).bind _ = _; rw [if_pos ⟨h0, h1⟩]; rfl
theorem x_39_190 {k : Nat} {i x : Int} (h0 : 0 ≤ i) (h1 : i < 346) : ex E C ((39, a, b, c) :: L) σ (aI x :: aI i :: aA 190 k :: st) h = ex E C L σ st (hset h 190 k i.toNat x) := by show (if 0 ≤ i ∧ i < aLen 190 then _ else none : Option _).bind _ = _; rw [if_pos ⟨h0, h1⟩]; rfl
theorem x_50_190 {k k2 : Nat} {n : Int} (hk : ¬ k = k2) (h0 : 0 < n) (h1 : n ≤ 346) : ex E C ((50, a, b, c) :: L) σ (aI n :: aI 0 :: aA 190 k2 :: aI 0 :: aA 190 k :: []) h = ex E C L σ [] (hcpy h 190 k 190 k2 0 0 n.toNat) := by show (if (190 = 190 ∧ k ≠ k2) ∧ (0 : Int) = 0 ∧ (0 : Int) = 0 ∧ 0 < n ∧ n ≤ aLen 190 ∧ Nat.ble (wd []) 8 = true then _ else none : Option _).bind _ = _; rw [if_pos ⟨⟨rfl, hk⟩, rfl, rfl, h0, h1, rfl⟩]; rfl
theorem x_45_190 {k : Nat} : ex E C ((45, a, b, c) :: L) σ (aA 190 k :: st) h = ex E C L σ (aI 346 :: st) h := id rfl
theorem x_38_191 {k : Nat} {i : Int} (h0 : 0 ≤ i) (h1 : i < 4152) : ex E C ((38, a, b, c) :: L) σ (aI i :: aA 191 k :: st) h = ex E C L σ (aI (h 191 k i.toNat) :: st) h := by show (if 0 ≤ i ∧ i < aLen 191 then _ else none : Option _).bind _ = _; rw [if_pos ⟨h0, h1⟩]; rfl
theorem x_39_191 {k : Nat} {i x : Int} (h0 : 0 ≤ i) (h1 : i < 4152) : ex E C ((39, a, b, c) :: L) σ (aI x :: aI i :: aA 191 k :: st) h = ex E C L σ st (hset h 191 k i.toNat x) := by show (if 0 ≤ i ∧ i < aLen 191 then _ else none : Option _).bind _ = _; rw [if_pos ⟨h0, h1⟩]; rfl
theorem x_50_191 {k k2 : Nat} {n : Int} (hk : ¬ k = k2) (h0 : 0 < n) (h1 : n ≤ 4152) : ex E C ((50, a, b, c) :: L) σ (aI n :: aI 0 :: aA 191 k2 :: aI 0 :: aA 191 k :: []) h = ex E C L σ [] (hcpy h 191 k 191 k2 0 0 n.toNat) := by show (if (191 = 191 ∧ k ≠ k2) ∧ (0 : Int) = 0 ∧ (0 : Int) = 0 ∧ 0 < n ∧ n ≤ aLen 191 ∧ Nat.ble (wd []) 8 = true then _ else none : Option _).bind _ = _; rw [if_pos ⟨⟨rfl, hk⟩, rfl, rfl, h0, h1, rfl⟩]; rfl
theorem x_45_191 {k : Nat} : ex E C ((45, a, b, c) :: L) σ (aA 191 k :: st) h = ex E C L σ (aI 4152 :: st) h := id rfl
theorem x_38_193 {k : Nat} {i : Int} (h0 : 0 ≤ i) (h1 : i < 400) : ex E C ((38, a, b, c) :: L) σ (aI i :: aA 193 k :: st) h = ex E C L σ (aI (h 193 k i.toNat) :: st) h := by show (if 0 ≤ i ∧ i < aLen 193 then _ else none : Option _).bind _ = _; rw [if_pos ⟨h0, h1⟩]; rfl
theorem x_39_193 {k : Nat} {i x : Int} (h0 : 0 ≤ i) (h1 : i < 400) : ex E C ((39, a, b, c) :: L) σ (aI x :: aI i :: aA 193 k :: st) h = ex E C L σ st (hset h 193 k i.toNat x) := by show (if 0 ≤ i ∧ i < aLen 193 then _ else none : Option _).bind _ = _; rw [if_pos ⟨h0, h1⟩]; rfl
theorem x_50_193 {k k2 : Nat} {n : Int} (hk : ¬ k = k2) (h0 : 0 < n) (h1 : n ≤ 400) : ex E C ((50, a, b, c) :: L) σ (aI n :: aI 0 :: aA 193 k2 :: aI 0 :: aA 193 k :: []) h = ex E C L σ [] (hcpy h 193 k 193 k2 0 0 n.toNat) := by show (if (193 = 193 ∧ k ≠ k2) ∧ (0 : Int) = 0 ∧ (0 : Int) = 0 ∧ 0 < n ∧ n ≤ aLen 193 ∧ Nat.ble (wd []) 8 = true then _ else none : Option _).bind _ = _; rw [if_pos ⟨⟨rfl, hk⟩, rfl, rfl, h0, h1, rfl⟩]; rfl
theorem x_45_193 {k : Nat} : ex E C ((45, a, b, c) :: L) σ (aA 193 k :: st) h = ex E C L σ (aI 400 :: st) h := id rfl
theorem x_38_200 {k : Nat} {i : Int} (h0 : 0 ≤ i) (h1 : i < 7) : ex E C ((38, a, b, c) :: L) σ (aI i :: aA 200 k :: st) h = ex E C L σ (aI (h 200 k i.toNat) :: st) h := by show (if 0 ≤ i ∧ i < aLen 200 then _ else none : Option _).bind _ = _; rw [if_pos ⟨h0, h1⟩]; rfl
theorem x_39_200 {k : Nat} {i x : Int} (h0 : 0 ≤ i) (h1 : i < 7) : ex E C ((39, a, b, c) :: L) σ (aI x :: aI i :: aA 200 k :: st) h = ex E C L σ st (hset h 200 k i.toNat x) := by show (if 0 ≤ i ∧ i < aLen 200 then _ else none : Option _).bind _ = _; rw [if_pos ⟨h0, h1⟩]; rfl
theorem x_50_200 {k k2 : Nat} {n : Int} (hk : ¬ k = k2) (h0 : 0 < n) (h1 : n ≤ 7) : ex E C ((50, a, b, c) :: L) σ (aI n :: aI 0 :: aA 200 k2 :: aI 0 :: aA 200 k :: []) h = ex E C L σ [] (hcpy h 200 k 200 k2 0 0 n.toNat) := by show (if (200 = 200 ∧ k ≠ k2) ∧ (0 : Int) = 0 ∧ (0 : Int) = 0 ∧ 0 < n ∧ n ≤ aLen 200 ∧ Nat.ble (wd []) 8 = true then _ else none : Option _).bind _ = _; rw [if_pos ⟨⟨rfl, hk⟩, rfl, rfl, h0, h1, rfl⟩]; rfl
theorem x_45_200 {k : Nat} : ex E C ((45, a, b, c) :: L) σ (aA 200 k :: st) h = ex E C L σ (aI 7 :: st) h := id rfl
theorem x_38_207 {k : Nat} {i : Int} (h0 : 0 ≤ i) (h1 : i < 1920) : ex E C ((38, a, b, c) :: L) σ (aI i :: aA 207 k :: st) h = ex E C L σ (aI (h 207 k i.toNat) :: st) h := by show (if 0 ≤ i ∧ i < aLen 207 then _ else none : Option _).bind _ = _; rw [if_pos ⟨h0, h1⟩]; rfl
theorem x_39_207 {k : Nat} {i x : Int} (h0 : 0 ≤ i) (h1 : i < 1920) : ex E C ((39, a, b, c) :: L) σ (aI x :: aI i :: aA 207 k :: st) h = ex E C L σ st (hset h 207 k i.toNat x) := by show (if 0 ≤ i ∧ i < aLen 207 then _ else none : Option _).bind _ = _; rw [if_pos ⟨h0, h1⟩]; rfl
theorem x_50_207 {k k2 : Nat} {n : Int} (hk : ¬ k = k2) (h0 : 0 < n) (h1 : n ≤ 1920) : ex E C ((50, a, b, c) :: L) σ (aI n :: aI 0 :: aA 207 k2 :: aI 0 :: aA 207 k :: []) h = ex E C L σ [] (hcpy h 207 k 207 k2 0 0 n.toNat) := by show (if (207 = 207 ∧ k ≠ k2) ∧ (0 : Int) = 0 ∧ (0 : Int) = 0 ∧ 0 < n ∧ n ≤ aLen 207 ∧ Nat.ble (wd []) 8 = true then _ else none : Option _).bind _ = _; rw [if_pos ⟨⟨rfl, hk⟩, rfl, rfl, h0, h1, rfl⟩]; rfl
theorem x_45_207 {k : Nat} : ex E C ((45, a, b, c) :: L) σ (aA 207 k :: st) h = ex E C L σ (aI 1920 :: st) h := id rfl
theorem x_38_208 {k : Nat} {i : Int} (h0 : 0 ≤ i) (h1 : i < 14) : ex E C ((38, a, b, c) :: L) σ (aI i :: aA 208 k :: st) h = ex E C L σ (aI (h 208 k i.toNat) :: st) h := by show (if 0 ≤ i ∧ i < aLen 208 then _ else none : Option _).bind _ = _; rw [if_pos ⟨h0, h1⟩]; rfl
theorem x_39_208 {k : Nat} {i x : Int} (h0 : 0 ≤ i) (h1 : i < 14) : ex E C ((39, a, b, c) :: L) σ (aI x :: aI i :: aA 208 k :: st) h = ex E C L σ st (hset h 208 k i.toNat x) := by show (if 0 ≤ i ∧ i < aLen 208 then _ else none : Option _).bind _ = _; rw [if_pos ⟨h0, h1⟩]; rfl
theorem x_50_208 {k k2 : Nat} {n : Int} (hk : ¬ k = k2) (h0 : 0 < n) (h1 : n ≤ 14) : ex E C ((50, a, b, c) :: L) σ (aI n :: aI 0 :: aA 208 k2 :: aI 0 :: aA 208 k :: []) h = ex E C L σ [] (hcpy h 208 k 208 k2 0 0 n.toNat) := by show (if (208 = 208 ∧ k ≠ k2) ∧ (0 : Int) = 0 ∧ (0 : Int) = 0 ∧ 0 < n ∧ n ≤ aLen 208 ∧ Nat.ble (wd []) 8 = true then _ else none : Option _).bind _ = _; rw [if_pos ⟨⟨rfl, hk⟩, rfl, rfl, h0, h1, rfl⟩]; rfl
theorem x_45_208 {k : Nat} : ex E C ((45, a, b, c) :: L) σ (aA 208 k :: st) h = ex E C L σ (aI 14 :: st) h := id rfl
theorem x_38_210 {k : Nat} {i : Int} (h0 : 0 ≤ i) (h1 : i < 14) : ex E C ((38, a, b, c) :: L) σ (aI i :: aA 210 k :: st) h = ex E C L σ (aI (h 210 k i.toNat) :: st) h := by show (if 0 ≤ i ∧ i < aLen 210 then _ else none : Option _).bind _ = _; rw [if_pos ⟨h0, h1⟩]; rfl
theorem x_39_210 {k : Nat} {i x : Int} (h0 : 0 ≤ i) (h1 : i < 14) : ex E C ((39, a, b, c) :: L) σ (aI x :: aI i :: aA 210 k :: st) h = ex E C L σ st (hset h 210 k i.toNat x) := by show (if 0 ≤ i ∧ i < aLen 210 then _ else none : Option _).bind _ = _; rw [if_pos ⟨h0, h1⟩]; rfl
theorem x_50_210 {k k2 : Nat} {n : Int} (hk : ¬ k = k2) (h0 : 0 < n) (h1 : n ≤ 14) : ex E C ((50, a, b, c) :: L) σ (aI n :: aI 0 :: aA 210 k2 :: aI 0 :: aA 210 k :: []) h = ex E C L σ [] (hcpy h 210 k 210 k2 0 0 n.toNat) := by show (if (210 = 210 ∧ k ≠ k2) ∧ (0 : Int) = 0 ∧ (0 : Int) = 0 ∧ 0 < n ∧ n ≤ aLen 210 ∧ Nat.ble (wd []) 8 = true then _ else none : Option _).bind _ = _; rw [if_pos ⟨⟨rfl, hk⟩, rfl, rfl, h0, h1, rfl⟩]; rfl
theorem x_45_210 {k : Nat} : ex E C ((45, a, b, c) :: L) σ (aA 210 k :: st) h = ex E C L σ (aI 14 :: st) h := id rfl
theorem x_38_211 {k : Nat} {i : Int} (h0 : 0 ≤ i) (h1 : i < 7) : ex E C ((38, a, b, c) :: L) σ (aI i :: aA 211 k :: st) h = ex E C L σ (aI (h 211 k i.toNat) :: st) h := by show (if 0 ≤ i ∧ i < aLen 211 then _ else none : Option _).bind _ = _; rw [if_pos ⟨h0, h1⟩]; rfl
theorem x_39_211 {k : Nat} {i x : Int} (h0 : 0 ≤ i) (h1 : i < 7) : ex E C ((39, a, b, c) :: L) σ (aI x :: aI i :: aA 211 k :: st) h = ex E C L σ st (hset h 211 k i.toNat x) := by show (if 0 ≤ i ∧ i < aLen 211 then _ else none : Option _).bind _ = _; rw [if_pos ⟨h0, h1⟩]; rfl
theorem x_50_211 {k k2 : Nat} {n : Int} (hk : ¬ k = k2) (h0 : 0 < n) (h1 : n ≤ 7) : ex E C ((50, a, b, c) :: L) σ (aI n :: aI 0 :: aA 211 k2 :: aI 0 :: aA 211 k :: []) h = ex E C L σ [] (hcpy h 211 k 211 k2 0 0 n.toNat) := by show (if (211 = 211 ∧ k ≠ k2) ∧ (0 : Int) = 0 ∧ (0 : Int) = 0 ∧ 0 < n ∧ n ≤ aLen 211 ∧ Nat.ble (wd []) 8 = true then _ else none : Option _).bind _ = _; rw [if_pos ⟨⟨rfl, hk⟩, rfl, rfl, h0, h1, rfl⟩]; rfl
theorem x_45_211 {k : Nat} : ex E C ((45, a, b, c) :: L) σ (aA 211 k :: st) h = ex E C L σ (aI 7 :: st) h := id rfl
theorem x_38_213 {k : Nat} {i : Int} (h0 : 0 ≤ i) (h1 : i < 12) : ex E C ((38, a, b, c) :: L) σ (aI i :: aA 213 k :: st) h = ex E C L σ (aI (h 213 k i.toNat) :: st) h := by show (if 0 ≤ i ∧ i < aLen 213 then _ else none : Option _).bind _ = _; rw [if_pos ⟨h0, h1⟩]; rfl
theorem x_39_213 {k : Nat} {i x : Int} (h0 : 0 ≤ i) (h1 : i < 12) : ex E C ((39, a, b, c) :: L) σ (aI x :: aI i :: aA 213 k :: st) h = ex E C L σ st (hset h 213 k i.toNat x) := by show (if 0 ≤ i ∧ i < aLen 213 then _ else none : Option _).bind _ = _; rw [if_pos ⟨h0, h1⟩]; rfl
theorem x_50_213 {k k2 : Nat} {n : Int} (hk : ¬ k = k2) (h0 : 0 < n) (h1 : n ≤ 12) : ex E C ((50, a, b, c) :: L) σ (aI n :: aI 0 :: aA 213 k2 :: aI 0 :: aA 213 k :: []) h = ex E C L σ [] (hcpy h 213 k 213 k2 0 0 n.toNat) := by show (if (213 = 213 ∧ k ≠ k2) ∧ (0 : Int) = 0 ∧ (0 : Int) = 0 ∧ 0 < n ∧ n ≤ aLen 213 ∧ Nat.ble (wd []) 8 = true then _ else none : Option _).bind _ = _; rw [if_pos ⟨⟨rfl, hk⟩, rfl, rfl, h0, h1, rfl⟩]; rfl
theorem x_45_213 {k : Nat} : ex E C ((45, a, b, c) :: L) σ (aA 213 k :: st) h = ex E C L σ (aI 12 :: st) h := id rfl
theorem x_40_205 {k : Nat} {i : Int} (h0 : 0 ≤ i) (h1 : i < 98) : ex E C ((40, a, b, c) :: L) σ (aI i :: aA 205 k :: st) h = ex E C L σ (aI (h 205 k i.toNat) :: st) h := by show (if 0 ≤ i ∧ i < zLen 205 then _ else none : Option _).bind _ = _; rw [if_pos ⟨h0, h1⟩]; rfl
theorem x_41_205 {k : Nat} {i x : Int} (h0 : 0 ≤ i) (h1 : i < 98) (hx : x = 0 ∨ x = 1) : ex E C ((41, a, b, c) :: L) σ (aI x :: aI i :: aA 205 k :: st) h = ex E C L σ st (hset h 205 k i.toNat x) := by show (if (0 ≤ i ∧ i < zLen 205) ∧ (x = 0 ∨ x = 1) then _ else none : Option _).bind _ = _; rw [if_pos ⟨⟨h0, h1⟩, hx⟩]; rfl
theorem x_40_212 {k : Nat} {i : Int} (h0 : 0 ≤ i) (h1 : i < 640) : ex E C ((40, a, b, c) :: L) σ (aI i :: aA 212 k :: st) h = ex E C L σ (aI (h 212 k i.toNat) :: st) h := by show (if 0 ≤ i ∧ i < zLen 212 then _ else none : Option _).bind _ = _; rw [if_pos ⟨h0, h1⟩]; rfl
theorem x_41_212 {k : Nat} {i x : Int} (h0 : 0 ≤ i) (h1 : i < 640) (hx : x = 0 ∨ x = 1) : ex E C ((41, a, b, c) :: L) σ (aI x :: aI i :: aA 212 k :: st) h = ex E C L σ st (hset h 212 k i.toNat x) := by show (if (0 ≤ i ∧ i < zLen 212) ∧ (x = 0 ∨ x = 1) then _ else none : Option _).bind _ = _; rw [if_pos ⟨⟨h0, h1⟩, hx⟩]; rfl
theorem x_42 {k : Nat} : ex E C ((42, a, b, c) :: L) σ (aI 0 :: aA 25 k :: st) h = ex E C L σ (aJ (h 25 0 0) :: st) h := id rfl
theorem x_43 {k : Nat} {x : Int} : ex E C ((43, a, b, c) :: L) σ (aJ x :: aI 0 :: aA 25 k :: st) h = ex E C L σ st (hset h 25 0 0 x) := id rfl
theorem x_44 {k : Nat} {i : Int} (h0 : 0 ≤ i) (h1 : i < 12) : ex E C ((44, a, b, c) :: L) σ (aI i :: aA 26 k :: st) h = ex E C L σ (aA 7 (i.toNat + 3) :: st) h := by show (if (0 ≤ i ∧ i < 12) ∧ 26 = 26 then _ else none : Option _).bind _ = _; rw [if_pos ⟨⟨h0, h1⟩, rfl⟩]; rfl
theorem x_46 {k : Nat} : ex E C ((46, a, b, c) :: L) σ (aA 20 k :: st) h = ex E C L σ (aA 21 k :: st) h := id rfl
theorem x_47_I {x : Int} : ex E C ((47, a, b, c) :: L) σ (aI x :: st) h = ex E C L σ (aI x :: aI x :: st) h := id rfl
theorem x_47_A {t k : Nat} : ex E C ((47, a, b, c) :: L) σ (aA t k :: st) h = ex E C L σ (aA t k :: aA t k :: st) h := id rfl
theorem x_48 {y : Int} {t k : Nat} : ex E C ((48, a, b, c) :: L) σ (aI y :: aA t k :: st) h = ex E C L σ (aI y :: aA t k :: aI y :: aA t k :: st) h := id rfl
theorem x_49 {x : Int} : ex E C ((49, a, b, c) :: L) σ (aI x :: st) h = ex E C L σ st h := id rfl
theorem x_51  : ex E C ((51, a, b, c) :: L) σ st h = ex E C L σ (none :: st) h := id rfl
theorem x_52 {x : Int} : ex E C ((52, a, b, c) :: L) σ (aI x :: st) h = ex E C L σ (aI (x % 65536) :: st) h := id rfl
theorem x_53 {k : Nat} {i : Int} (h0 : 0 ≤ i) (h1 : i < h 27 0 0) : ex E C ((53, a, b, c) :: L) σ (aI i :: aA 22 k :: st) h = ex E C L σ (aI (h 22 0 i.toNat) :: st) h := by show (if (0 ≤ i ∧ i < h 27 0 0) ∧ 22 = 22 then _ else none : Option _).bind _ = _; rw [if_pos ⟨⟨h0, h1⟩, rfl⟩]; rfl
theorem x_54 {k : Nat} : ex E C ((54, a, b, c) :: L) σ (aA 22 k :: st) h = ex E C L σ (aI (h 27 0 0) :: st) h := id rfl
theorem x_55 {k : Nat} {i : Int} (h0 : 0 ≤ i) (h1 : i < sLen k) : ex E C ((55, a, b, c) :: L) σ (aI i :: aA 21 k :: st) h = ex E C L σ (aI (sChr k i.toNat) :: st) h := by show (if (0 ≤ i ∧ i < sLen k) ∧ 21 = 21 then _ else none : Option _).bind _ = _; rw [if_pos ⟨⟨h0, h1⟩, rfl⟩]; rfl
theorem x_56 {k : Nat} : ex E C ((56, a, b, c) :: L) σ (aA 21 k :: st) h = ex E C L σ (aI (sLen k) :: st) h := id rfl
theorem x_57 {k : Nat} : ex E C ((57, a, b, c) :: L) σ (aA 20 k :: st) h = ex E C L σ (aI 0 :: st) h := id rfl
theorem x_58  : ex E C ((58, a, b, c) :: L) σ st h = ex E C L σ (aI a :: st) h := id rfl
theorem x_60  : ex E C ((60, a, b, c) :: L) σ st h = E b σ st h := id rfl
theorem x_61  : ex E C ((61, a, b, c) :: L) σ st h = E b σ st h := id rfl
theorem x_62 {x y : Int} : ex E C ((62, a, b, c) :: L) σ (aI y :: aI x :: st) h = if x = y then E b σ st h else ex E C L σ st h := by by_cases q : x = y <;> simp [ex, ctl, aI, q, cjmp, cnxt]
theorem x_63 {x y : Int} : ex E C ((63, a, b, c) :: L) σ (aI y :: aI x :: st) h = if x = y then ex E C L σ st h else E b σ st h := by by_cases q : x = y <;> simp [ex, ctl, aI, q, cjmp, cnxt]
theorem x_64 {x y : Int} : ex E C ((64, a, b, c) :: L) σ (aI y :: aI x :: st) h = if x < y then E b σ st h else ex E C L σ st h := by by_cases q : x < y <;> simp [ex, ctl, aI, q, cjmp, cnxt]
theorem x_65 {x y : Int} : ex E C ((65, a, b, c) :: L) σ (aI y :: aI x :: st) h = if x < y then ex E C L σ st h else E b σ st h := by by_cases q : x < y <;> simp [ex, ctl, aI, q, cjmp, cnxt]
theorem x_66 {x y : Int} : ex E C ((66, a, b, c) :: L) σ (aI y :: aI x :: st) h = if y < x then E b σ st h else ex E C L σ st h := by by_cases q : y < x <;> simp [ex, ctl, aI, q, cjmp, cnxt]
theorem x_67 {x y : Int} : ex E C ((67, a, b, c) :: L) σ (aI y :: aI x :: st) h = if y < x then ex E C L σ st h else E b σ st h := by by_cases q : y < x <;> simp [ex, ctl, aI, q, cjmp, cnxt]
theorem x_68 {x : Int} : ex E C ((68, a, b, c) :: L) σ (aI x :: st) h = if x = 0 then E b σ st h else ex E C L σ st h := by by_cases q : x = 0 <;> simp [ex, ctl, aI, q, cjmp, cnxt]
theorem x_69 {x : Int} : ex E C ((69, a, b, c) :: L) σ (aI x :: st) h = if x = 0 then ex E C L σ st h else E b σ st h := by by_cases q : x = 0 <;> simp [ex, ctl, aI, q, cjmp, cnxt]
theorem x_70 {x : Int} : ex E C ((70, a, b, c) :: L) σ (aI x :: st) h = if x < 0 then E b σ st h else ex E C L σ st h := by by_cases q : x < 0 <;> simp [ex, ctl, aI, q, cjmp, cnxt]
theorem x_71 {x : Int} : ex E C ((71, a, b, c) :: L) σ (aI x :: st) h = if x < 0 then ex E C L σ st h else E b σ st h := by by_cases q : x < 0 <;> simp [ex, ctl, aI, q, cjmp, cnxt]
theorem x_72 {x : Int} : ex E C ((72, a, b, c) :: L) σ (aI x :: st) h = if 0 < x then E b σ st h else ex E C L σ st h := by by_cases q : 0 < x <;> simp [ex, ctl, aI, q, cjmp, cnxt]
theorem x_73 {x : Int} : ex E C ((73, a, b, c) :: L) σ (aI x :: st) h = if 0 < x then ex E C L σ st h else E b σ st h := by by_cases q : 0 < x <;> simp [ex, ctl, aI, q, cjmp, cnxt]
theorem x_74 {k : Nat} : ex E C ((74, a, b, c) :: L) σ (aA 7 k :: st) h = ex E C L σ st h := id rfl
theorem x_75 {k : Nat} : ex E C ((75, a, b, c) :: L) σ (aA 7 k :: st) h = E b σ st h := id rfl
theorem swl_swp (x : Int) (d : Nat) (k : Nat → Option Rs) : ∀ l, swl x d k l = k (swp x d l) := by
  intro l
  induction l with
  | nil => rfl
  | cons q l ih => obtain ⟨v, t⟩ := q; simp only [swl, swp]; split
                   · rfl
                   · exact ih
theorem x_76 {x : Int} : ex E C ((76, a, b, c) :: L) σ (aI x :: st) h = swl x (swD b) (fun t => E t σ st h) (swT b) := by rw [swl_swp]; rfl
theorem wd_1 (u : AV) : wd [u] ≤ 8 := by simp only [wd]; split <;> omega
theorem wd_2 (u v : AV) : wd [u, v] ≤ 8 := by simp only [wd]; split <;> split <;> omega
theorem wd_3 (u v w : AV) : wd [u, v, w] ≤ 8 := by simp only [wd]; split <;> split <;> split <;> omega
theorem wd_4 (u v w z : AV) : wd [u, v, w, z] ≤ 8 := by simp only [wd]; split <;> split <;> split <;> split <;> omega
theorem x_79_2_0_d0 {v1 : AV} {k : Nat} : ex E C ((79, 0, b, 2) :: L) σ [v1, aA 0 k] h = cbind (C b [aA 0 k, v1] h) (fun v h2 => ex E C L σ (psh v []) h2) (onTh E σ none) := by have hw := (by simp [wd] : wd ([] : List AV) ≤ 8); simp [ex, ctl, tk, hw, ccall, rcv, aA]
theorem x_79_2_0_d1 {v1 u1 : AV} {k : Nat} : ex E C ((79, 0, b, 2) :: L) σ [v1, aA 0 k, u1] h = cbind (C b [aA 0 k, v1] h) (fun v h2 => ex E C L σ (psh v [u1]) h2) (onTh E σ none) := by have hw := (wd_1 u1); simp [ex, ctl, tk, hw, ccall, rcv, aA]
theorem x_79_2_0_d2 {v1 u1 u2 : AV} {k : Nat} : ex E C ((79, 0, b, 2) :: L) σ [v1, aA 0 k, u1, u2] h = cbind (C b [aA 0 k, v1] h) (fun v h2 => ex E C L σ (psh v [u1, u2]) h2) (onTh E σ none) := by have hw := (wd_2 u1 u2); simp [ex, ctl, tk, hw, ccall, rcv, aA]
theorem x_79_2_0_d3 {v1 u1 u2 u3 : AV} {k : Nat} : ex E C ((79, 0, b, 2) :: L) σ [v1, aA 0 k, u1, u2, u3] h = cbind (C b [aA 0 k, v1] h) (fun v h2 => ex E C L σ (psh v [u1, u2, u3]) h2) (onTh E σ none) := by have hw := (wd_3 u1 u2 u3); simp [ex, ctl, tk, hw, ccall, rcv, aA]
theorem x_79_2_0_d4 {v1 u1 u2 u3 u4 : AV} {k : Nat} : ex E C ((79, 0, b, 2) :: L) σ [v1, aA 0 k, u1, u2, u3, u4] h = cbind (C b [aA 0 k, v1] h) (fun v h2 => ex E C L σ (psh v [u1, u2, u3, u4]) h2) (onTh E σ none) := by have hw := (wd_4 u1 u2 u3 u4); simp [ex, ctl, tk, hw, ccall, rcv, aA]
theorem x_79_3_0_d0 {v1 v2 : AV} {k : Nat} : ex E C ((79, 0, b, 3) :: L) σ [v2, v1, aA 0 k] h = cbind (C b [aA 0 k, v1, v2] h) (fun v h2 => ex E C L σ (psh v []) h2) (onTh E σ none) := by have hw := (by simp [wd] : wd ([] : List AV) ≤ 8); simp [ex, ctl, tk, hw, ccall, rcv, aA]
theorem x_79_3_0_d1 {v1 v2 u1 : AV} {k : Nat} : ex E C ((79, 0, b, 3) :: L) σ [v2, v1, aA 0 k, u1] h = cbind (C b [aA 0 k, v1, v2] h) (fun v h2 => ex E C L σ (psh v [u1]) h2) (onTh E σ none) := by have hw := (wd_1 u1); simp [ex, ctl, tk, hw, ccall, rcv, aA]
theorem x_79_3_0_d2 {v1 v2 u1 u2 : AV} {k : Nat} : ex E C ((79, 0, b, 3) :: L) σ [v2, v1, aA 0 k, u1, u2] h = cbind (C b [aA 0 k, v1, v2] h) (fun v h2 => ex E C L σ (psh v [u1, u2]) h2) (onTh E σ none) := by have hw := (wd_2 u1 u2); simp [ex, ctl, tk, hw, ccall, rcv, aA]
theorem x_79_3_0_d3 {v1 v2 u1 u2 u3 : AV} {k : Nat} : ex E C ((79, 0, b, 3) :: L) σ [v2, v1, aA 0 k, u1, u2, u3] h = cbind (C b [aA 0 k, v1, v2] h) (fun v h2 => ex E C L σ (psh v [u1, u2, u3]) h2) (onTh E σ none) := by have hw := (wd_3 u1 u2 u3); simp [ex, ctl, tk, hw, ccall, rcv, aA]
theorem x_79_3_0_d4 {v1 v2 u1 u2 u3 u4 : AV} {k : Nat} : ex E C ((79, 0, b, 3) :: L) σ [v2, v1, aA 0 k, u1, u2, u3, u4] h = cbind (C b [aA 0 k, v1, v2] h) (fun v h2 => ex E C L σ (psh v [u1, u2, u3, u4]) h2) (onTh E σ none) := by have hw := (wd_4 u1 u2 u3 u4); simp [ex, ctl, tk, hw, ccall, rcv, aA]
theorem x_79_5_0_d0 {v1 v2 v3 v4 : AV} {k : Nat} : ex E C ((79, 0, b, 5) :: L) σ [v4, v3, v2, v1, aA 0 k] h = cbind (C b [aA 0 k, v1, v2, v3, v4] h) (fun v h2 => ex E C L σ (psh v []) h2) (onTh E σ none) := by have hw := (by simp [wd] : wd ([] : List AV) ≤ 8); simp [ex, ctl, tk, hw, ccall, rcv, aA]
theorem x_79_5_0_d1 {v1 v2 v3 v4 u1 : AV} {k : Nat} : ex E C ((79, 0, b, 5) :: L) σ [v4, v3, v2, v1, aA 0 k, u1] h = cbind (C b [aA 0 k, v1, v2, v3, v4] h) (fun v h2 => ex E C L σ (psh v [u1]) h2) (onTh E σ none) := by have hw := (wd_1 u1); simp [ex, ctl, tk, hw, ccall, rcv, aA]
theorem x_79_5_0_d2 {v1 v2 v3 v4 u1 u2 : AV} {k : Nat} : ex E C ((79, 0, b, 5) :: L) σ [v4, v3, v2, v1, aA 0 k, u1, u2] h = cbind (C b [aA 0 k, v1, v2, v3, v4] h) (fun v h2 => ex E C L σ (psh v [u1, u2]) h2) (onTh E σ none) := by have hw := (wd_2 u1 u2); simp [ex, ctl, tk, hw, ccall, rcv, aA]
theorem x_79_5_0_d3 {v1 v2 v3 v4 u1 u2 u3 : AV} {k : Nat} : ex E C ((79, 0, b, 5) :: L) σ [v4, v3, v2, v1, aA 0 k, u1, u2, u3] h = cbind (C b [aA 0 k, v1, v2, v3, v4] h) (fun v h2 => ex E C L σ (psh v [u1, u2, u3]) h2) (onTh E σ none) := by have hw := (wd_3 u1 u2 u3); simp [ex, ctl, tk, hw, ccall, rcv, aA]
theorem x_79_5_0_d4 {v1 v2 v3 v4 u1 u2 u3 u4 : AV} {k : Nat} : ex E C ((79, 0, b, 5) :: L) σ [v4, v3, v2, v1, aA 0 k, u1, u2, u3, u4] h = cbind (C b [aA 0 k, v1, v2, v3, v4] h) (fun v h2 => ex E C L σ (psh v [u1, u2, u3, u4]) h2) (onTh E σ none) := by have hw := (wd_4 u1 u2 u3 u4); simp [ex, ctl, tk, hw, ccall, rcv, aA]
theorem x_79_6_0_d0 {v1 v2 v3 v4 v5 : AV} {k : Nat} : ex E C ((79, 0, b, 6) :: L) σ [v5, v4, v3, v2, v1, aA 0 k] h = cbind (C b [aA 0 k, v1, v2, v3, v4, v5] h) (fun v h2 => ex E C L σ (psh v []) h2) (onTh E σ none) := by have hw := (by simp [wd] : wd ([] : List AV) ≤ 8); simp [ex, ctl, tk, hw, ccall, rcv, aA]
theorem x_79_6_0_d1 {v1 v2 v3 v4 v5 u1 : AV} {k : Nat} : ex E C ((79, 0, b, 6) :: L) σ [v5, v4, v3, v2, v1, aA 0 k, u1] h = cbind (C b [aA 0 k, v1, v2, v3, v4, v5] h) (fun v h2 => ex E C L σ (psh v [u1]) h2) (onTh E σ none) := by have hw := (wd_1 u1); simp [ex, ctl, tk, hw, ccall, rcv, aA]
theorem x_79_6_0_d2 {v1 v2 v3 v4 v5 u1 u2 : AV} {k : Nat} : ex E C ((79, 0, b, 6) :: L) σ [v5, v4, v3, v2, v1, aA 0 k, u1, u2] h = cbind (C b [aA 0 k, v1, v2, v3, v4, v5] h) (fun v h2 => ex E C L σ (psh v [u1, u2]) h2) (onTh E σ none) := by have hw := (wd_2 u1 u2); simp [ex, ctl, tk, hw, ccall, rcv, aA]
theorem x_79_6_0_d3 {v1 v2 v3 v4 v5 u1 u2 u3 : AV} {k : Nat} : ex E C ((79, 0, b, 6) :: L) σ [v5, v4, v3, v2, v1, aA 0 k, u1, u2, u3] h = cbind (C b [aA 0 k, v1, v2, v3, v4, v5] h) (fun v h2 => ex E C L σ (psh v [u1, u2, u3]) h2) (onTh E σ none) := by have hw := (wd_3 u1 u2 u3); simp [ex, ctl, tk, hw, ccall, rcv, aA]
theorem x_79_6_0_d4 {v1 v2 v3 v4 v5 u1 u2 u3 u4 : AV} {k : Nat} : ex E C ((79, 0, b, 6) :: L) σ [v5, v4, v3, v2, v1, aA 0 k, u1, u2, u3, u4] h = cbind (C b [aA 0 k, v1, v2, v3, v4, v5] h) (fun v h2 => ex E C L σ (psh v [u1, u2, u3, u4]) h2) (onTh E σ none) := by have hw := (wd_4 u1 u2 u3 u4); simp [ex, ctl, tk, hw, ccall, rcv, aA]
theorem x_79_1_1_d0  {k : Nat} : ex E C ((79, 1, b, 1) :: L) σ [aA 1 k] h = cbind (C b [aA 1 k] h) (fun v h2 => ex E C L σ (psh v []) h2) (onTh E σ none) := by have hw := (by simp [wd] : wd ([] : List AV) ≤ 8); simp [ex, ctl, tk, hw, ccall, rcv, aA]
theorem x_79_1_1_d1 {u1 : AV} {k : Nat} : ex E C ((79, 1, b, 1) :: L) σ [aA 1 k, u1] h = cbind (C b [aA 1 k] h) (fun v h2 => ex E C L σ (psh v [u1]) h2) (onTh E σ none) := by have hw := (wd_1 u1); simp [ex, ctl, tk, hw, ccall, rcv, aA]
theorem x_79_1_1_d2 {u1 u2 : AV} {k : Nat} : ex E C ((79, 1, b, 1) :: L) σ [aA 1 k, u1, u2] h = cbind (C b [aA 1 k] h) (fun v h2 => ex E C L σ (psh v [u1, u2]) h2) (onTh E σ none) := by have hw := (wd_2 u1 u2); simp [ex, ctl, tk, hw, ccall, rcv, aA]
theorem x_79_1_1_d3 {u1 u2 u3 : AV} {k : Nat} : ex E C ((79, 1, b, 1) :: L) σ [aA 1 k, u1, u2, u3] h = cbind (C b [aA 1 k] h) (fun v h2 => ex E C L σ (psh v [u1, u2, u3]) h2) (onTh E σ none) := by have hw := (wd_3 u1 u2 u3); simp [ex, ctl, tk, hw, ccall, rcv, aA]
theorem x_79_1_1_d4 {u1 u2 u3 u4 : AV} {k : Nat} : ex E C ((79, 1, b, 1) :: L) σ [aA 1 k, u1, u2, u3, u4] h = cbind (C b [aA 1 k] h) (fun v h2 => ex E C L σ (psh v [u1, u2, u3, u4]) h2) (onTh E σ none) := by have hw := (wd_4 u1 u2 u3 u4); simp [ex, ctl, tk, hw, ccall, rcv, aA]
theorem x_79_2_1_d0 {v1 : AV} {k : Nat} : ex E C ((79, 1, b, 2) :: L) σ [v1, aA 1 k] h = cbind (C b [aA 1 k, v1] h) (fun v h2 => ex E C L σ (psh v []) h2) (onTh E σ none) := by have hw := (by simp [wd] : wd ([] : List AV) ≤ 8); simp [ex, ctl, tk, hw, ccall, rcv, aA]
theorem x_79_2_1_d1 {v1 u1 : AV} {k : Nat} : ex E C ((79, 1, b, 2) :: L) σ [v1, aA 1 k, u1] h = cbind (C b [aA 1 k, v1] h) (fun v h2 => ex E C L σ (psh v [u1]) h2) (onTh E σ none) := by have hw := (wd_1 u1); simp [ex, ctl, tk, hw, ccall, rcv, aA]
theorem x_79_2_1_d2 {v1 u1 u2 : AV} {k : Nat} : ex E C ((79, 1, b, 2) :: L) σ [v1, aA 1 k, u1, u2] h = cbind (C b [aA 1 k, v1] h) (fun v h2 => ex E C L σ (psh v [u1, u2]) h2) (onTh E σ none) := by have hw := (wd_2 u1 u2); simp [ex, ctl, tk, hw, ccall, rcv, aA]
theorem x_79_2_1_d3 {v1 u1 u2 u3 : AV} {k : Nat} : ex E C ((79, 1, b, 2) :: L) σ [v1, aA 1 k, u1, u2, u3] h = cbind (C b [aA 1 k, v1] h) (fun v h2 => ex E C L σ (psh v [u1, u2, u3]) h2) (onTh E σ none) := by have hw := (wd_3 u1 u2 u3); simp [ex, ctl, tk, hw, ccall, rcv, aA]
theorem x_79_2_1_d4 {v1 u1 u2 u3 u4 : AV} {k : Nat} : ex E C ((79, 1, b, 2) :: L) σ [v1, aA 1 k, u1, u2, u3, u4] h = cbind (C b [aA 1 k, v1] h) (fun v h2 => ex E C L σ (psh v [u1, u2, u3, u4]) h2) (onTh E σ none) := by have hw := (wd_4 u1 u2 u3 u4); simp [ex, ctl, tk, hw, ccall, rcv, aA]
theorem x_79_3_1_d0 {v1 v2 : AV} {k : Nat} : ex E C ((79, 1, b, 3) :: L) σ [v2, v1, aA 1 k] h = cbind (C b [aA 1 k, v1, v2] h) (fun v h2 => ex E C L σ (psh v []) h2) (onTh E σ none) := by have hw := (by simp [wd] : wd ([] : List AV) ≤ 8); simp [ex, ctl, tk, hw, ccall, rcv, aA]
theorem x_79_3_1_d1 {v1 v2 u1 : AV} {k : Nat} : ex E C ((79, 1, b, 3) :: L) σ [v2, v1, aA 1 k, u1] h = cbind (C b [aA 1 k, v1, v2] h) (fun v h2 => ex E C L σ (psh v [u1]) h2) (onTh E σ none) := by have hw := (wd_1 u1); simp [ex, ctl, tk, hw, ccall, rcv, aA]
theorem x_79_3_1_d2 {v1 v2 u1 u2 : AV} {k : Nat} : ex E C ((79, 1, b, 3) :: L) σ [v2, v1, aA 1 k, u1, u2] h = cbind (C b [aA 1 k, v1, v2] h) (fun v h2 => ex E C L σ (psh v [u1, u2]) h2) (onTh E σ none) := by have hw := (wd_2 u1 u2); simp [ex, ctl, tk, hw, ccall, rcv, aA]
theorem x_79_3_1_d3 {v1 v2 u1 u2 u3 : AV} {k : Nat} : ex E C ((79, 1, b, 3) :: L) σ [v2, v1, aA 1 k, u1, u2, u3] h = cbind (C b [aA 1 k, v1, v2] h) (fun v h2 => ex E C L σ (psh v [u1, u2, u3]) h2) (onTh E σ none) := by have hw := (wd_3 u1 u2 u3); simp [ex, ctl, tk, hw, ccall, rcv, aA]
theorem x_79_3_1_d4 {v1 v2 u1 u2 u3 u4 : AV} {k : Nat} : ex E C ((79, 1, b, 3) :: L) σ [v2, v1, aA 1 k, u1, u2, u3, u4] h = cbind (C b [aA 1 k, v1, v2] h) (fun v h2 => ex E C L σ (psh v [u1, u2, u3, u4]) h2) (onTh E σ none) := by have hw := (wd_4 u1 u2 u3 u4); simp [ex, ctl, tk, hw, ccall, rcv, aA]
theorem x_79_4_1_d0 {v1 v2 v3 : AV} {k : Nat} : ex E C ((79, 1, b, 4) :: L) σ [v3, v2, v1, aA 1 k] h = cbind (C b [aA 1 k, v1, v2, v3] h) (fun v h2 => ex E C L σ (psh v []) h2) (onTh E σ none) := by have hw := (by simp [wd] : wd ([] : List AV) ≤ 8); simp [ex, ctl, tk, hw, ccall, rcv, aA]
theorem x_79_4_1_d1 {v1 v2 v3 u1 : AV} {k : Nat} : ex E C ((79, 1, b, 4) :: L) σ [v3, v2, v1, aA 1 k, u1] h = cbind (C b [aA 1 k, v1, v2, v3] h) (fun v h2 => ex E C L σ (psh v [u1]) h2) (onTh E σ none) := by have hw := (wd_1 u1); simp [ex, ctl, tk, hw, ccall, rcv, aA]
theorem x_79_4_1_d2 {v1 v2 v3 u1 u2 : AV} {k : Nat} : ex E C ((79, 1, b, 4) :: L) σ [v3, v2, v1, aA 1 k, u1, u2] h = cbind (C b [aA 1 k, v1, v2, v3] h) (fun v h2 => ex E C L σ (psh v [u1, u2]) h2) (onTh E σ none) := by have hw := (wd_2 u1 u2); simp [ex, ctl, tk, hw, ccall, rcv, aA]
theorem x_79_4_1_d3 {v1 v2 v3 u1 u2 u3 : AV} {k : Nat} : ex E C ((79, 1, b, 4) :: L) σ [v3, v2, v1, aA 1 k, u1, u2, u3] h = cbind (C b [aA 1 k, v1, v2, v3] h) (fun v h2 => ex E C L σ (psh v [u1, u2, u3]) h2) (onTh E σ none) := by have hw := (wd_3 u1 u2 u3); simp [ex, ctl, tk, hw, ccall, rcv, aA]
theorem x_79_4_1_d4 {v1 v2 v3 u1 u2 u3 u4 : AV} {k : Nat} : ex E C ((79, 1, b, 4) :: L) σ [v3, v2, v1, aA 1 k, u1, u2, u3, u4] h = cbind (C b [aA 1 k, v1, v2, v3] h) (fun v h2 => ex E C L σ (psh v [u1, u2, u3, u4]) h2) (onTh E σ none) := by have hw := (wd_4 u1 u2 u3 u4); simp [ex, ctl, tk, hw, ccall, rcv, aA]
theorem x_79_1_2_d0  {k : Nat} : ex E C ((79, 2, b, 1) :: L) σ [aA 2 k] h = cbind (C b [aA 2 k] h) (fun v h2 => ex E C L σ (psh v []) h2) (onTh E σ none) := by have hw := (by simp [wd] : wd ([] : List AV) ≤ 8); simp [ex, ctl, tk, hw, ccall, rcv, aA]
theorem x_79_1_2_d1 {u1 : AV} {k : Nat} : ex E C ((79, 2, b, 1) :: L) σ [aA 2 k, u1] h = cbind (C b [aA 2 k] h) (fun v h2 => ex E C L σ (psh v [u1]) h2) (onTh E σ none) := by have hw := (wd_1 u1); simp [ex, ctl, tk, hw, ccall, rcv, aA]
theorem x_79_1_2_d2 {u1 u2 : AV} {k : Nat} : ex E C ((79, 2, b, 1) :: L) σ [aA 2 k, u1, u2] h = cbind (C b [aA 2 k] h) (fun v h2 => ex E C L σ (psh v [u1, u2]) h2) (onTh E σ none) := by have hw := (wd_2 u1 u2); simp [ex, ctl, tk, hw, ccall, rcv, aA]
theorem x_79_1_2_d3 {u1 u2 u3 : AV} {k : Nat} : ex E C ((79, 2, b, 1) :: L) σ [aA 2 k, u1, u2, u3] h = cbind (C b [aA 2 k] h) (fun v h2 => ex E C L σ (psh v [u1, u2, u3]) h2) (onTh E σ none) := by have hw := (wd_3 u1 u2 u3); simp [ex, ctl, tk, hw, ccall, rcv, aA]
theorem x_79_1_2_d4 {u1 u2 u3 u4 : AV} {k : Nat} : ex E C ((79, 2, b, 1) :: L) σ [aA 2 k, u1, u2, u3, u4] h = cbind (C b [aA 2 k] h) (fun v h2 => ex E C L σ (psh v [u1, u2, u3, u4]) h2) (onTh E σ none) := by have hw := (wd_4 u1 u2 u3 u4); simp [ex, ctl, tk, hw, ccall, rcv, aA]
theorem x_79_2_2_d0 {v1 : AV} {k : Nat} : ex E C ((79, 2, b, 2) :: L) σ [v1, aA 2 k] h = cbind (C b [aA 2 k, v1] h) (fun v h2 => ex E C L σ (psh v []) h2) (onTh E σ none) := by have hw := (by simp [wd] : wd ([] : List AV) ≤ 8); simp [ex, ctl, tk, hw, ccall, rcv, aA]
theorem x_79_2_2_d1 {v1 u1 : AV} {k : Nat} : ex E C ((79, 2, b, 2) :: L) σ [v1, aA 2 k, u1] h = cbind (C b [aA 2 k, v1] h) (fun v h2 => ex E C L σ (psh v [u1]) h2) (onTh E σ none) := by have hw := (wd_1 u1); simp [ex, ctl, tk, hw, ccall, rcv, aA]
theorem x_79_2_2_d2 {v1 u1 u2 : AV} {k : Nat} : ex E C ((79, 2, b, 2) :: L) σ [v1, aA 2 k, u1, u2] h = cbind (C b [aA 2 k, v1] h) (fun v h2 => ex E C L σ (psh v [u1, u2]) h2) (onTh E σ none) := by have hw := (wd_2 u1 u2); simp [ex, ctl, tk, hw, ccall, rcv, aA]
theorem x_79_2_2_d3 {v1 u1 u2 u3 : AV} {k : Nat} : ex E C ((79, 2, b, 2) :: L) σ [v1, aA 2 k, u1, u2, u3] h = cbind (C b [aA 2 k, v1] h) (fun v h2 => ex E C L σ (psh v [u1, u2, u3]) h2) (onTh E σ none) := by have hw := (wd_3 u1 u2 u3); simp [ex, ctl, tk, hw, ccall, rcv, aA]
theorem x_79_2_2_d4 {v1 u1 u2 u3 u4 : AV} {k : Nat} : ex E C ((79, 2, b, 2) :: L) σ [v1, aA 2 k, u1, u2, u3, u4] h = cbind (C b [aA 2 k, v1] h) (fun v h2 => ex E C L σ (psh v [u1, u2, u3, u4]) h2) (onTh E σ none) := by have hw := (wd_4 u1 u2 u3 u4); simp [ex, ctl, tk, hw, ccall, rcv, aA]
theorem x_79_2_3_d0 {v1 : AV} {k : Nat} : ex E C ((79, 3, b, 2) :: L) σ [v1, aA 3 k] h = cbind (C b [aA 3 k, v1] h) (fun v h2 => ex E C L σ (psh v []) h2) (onTh E σ none) := by have hw := (by simp [wd] : wd ([] : List AV) ≤ 8); simp [ex, ctl, tk, hw, ccall, rcv, aA]
theorem x_79_2_3_d1 {v1 u1 : AV} {k : Nat} : ex E C ((79, 3, b, 2) :: L) σ [v1, aA 3 k, u1] h = cbind (C b [aA 3 k, v1] h) (fun v h2 => ex E C L σ (psh v [u1]) h2) (onTh E σ none) := by have hw := (wd_1 u1); simp [ex, ctl, tk, hw, ccall, rcv, aA]
theorem x_79_2_3_d2 {v1 u1 u2 : AV} {k : Nat} : ex E C ((79, 3, b, 2) :: L) σ [v1, aA 3 k, u1, u2] h = cbind (C b [aA 3 k, v1] h) (fun v h2 => ex E C L σ (psh v [u1, u2]) h2) (onTh E σ none) := by have hw := (wd_2 u1 u2); simp [ex, ctl, tk, hw, ccall, rcv, aA]
theorem x_79_2_3_d3 {v1 u1 u2 u3 : AV} {k : Nat} : ex E C ((79, 3, b, 2) :: L) σ [v1, aA 3 k, u1, u2, u3] h = cbind (C b [aA 3 k, v1] h) (fun v h2 => ex E C L σ (psh v [u1, u2, u3]) h2) (onTh E σ none) := by have hw := (wd_3 u1 u2 u3); simp [ex, ctl, tk, hw, ccall, rcv, aA]
theorem x_79_2_3_d4 {v1 u1 u2 u3 u4 : AV} {k : Nat} : ex E C ((79, 3, b, 2) :: L) σ [v1, aA 3 k, u1, u2, u3, u4] h = cbind (C b [aA 3 k, v1] h) (fun v h2 => ex E C L σ (psh v [u1, u2, u3, u4]) h2) (onTh E σ none) := by have hw := (wd_4 u1 u2 u3 u4); simp [ex, ctl, tk, hw, ccall, rcv, aA]
theorem x_79_3_3_d0 {v1 v2 : AV} {k : Nat} : ex E C ((79, 3, b, 3) :: L) σ [v2, v1, aA 3 k] h = cbind (C b [aA 3 k, v1, v2] h) (fun v h2 => ex E C L σ (psh v []) h2) (onTh E σ none) := by have hw := (by simp [wd] : wd ([] : List AV) ≤ 8); simp [ex, ctl, tk, hw, ccall, rcv, aA]
theorem x_79_3_3_d1 {v1 v2 u1 : AV} {k : Nat} : ex E C ((79, 3, b, 3) :: L) σ [v2, v1, aA 3 k, u1] h = cbind (C b [aA 3 k, v1, v2] h) (fun v h2 => ex E C L σ (psh v [u1]) h2) (onTh E σ none) := by have hw := (wd_1 u1); simp [ex, ctl, tk, hw, ccall, rcv, aA]
theorem x_79_3_3_d2 {v1 v2 u1 u2 : AV} {k : Nat} : ex E C ((79, 3, b, 3) :: L) σ [v2, v1, aA 3 k, u1, u2] h = cbind (C b [aA 3 k, v1, v2] h) (fun v h2 => ex E C L σ (psh v [u1, u2]) h2) (onTh E σ none) := by have hw := (wd_2 u1 u2); simp [ex, ctl, tk, hw, ccall, rcv, aA]
theorem x_79_3_3_d3 {v1 v2 u1 u2 u3 : AV} {k : Nat} : ex E C ((79, 3, b, 3) :: L) σ [v2, v1, aA 3 k, u1, u2, u3] h = cbind (C b [aA 3 k, v1, v2] h) (fun v h2 => ex E C L σ (psh v [u1, u2, u3]) h2) (onTh E σ none) := by have hw := (wd_3 u1 u2 u3); simp [ex, ctl, tk, hw, ccall, rcv, aA]
theorem x_79_3_3_d4 {v1 v2 u1 u2 u3 u4 : AV} {k : Nat} : ex E C ((79, 3, b, 3) :: L) σ [v2, v1, aA 3 k, u1, u2, u3, u4] h = cbind (C b [aA 3 k, v1, v2] h) (fun v h2 => ex E C L σ (psh v [u1, u2, u3, u4]) h2) (onTh E σ none) := by have hw := (wd_4 u1 u2 u3 u4); simp [ex, ctl, tk, hw, ccall, rcv, aA]
theorem x_79_4_3_d0 {v1 v2 v3 : AV} {k : Nat} : ex E C ((79, 3, b, 4) :: L) σ [v3, v2, v1, aA 3 k] h = cbind (C b [aA 3 k, v1, v2, v3] h) (fun v h2 => ex E C L σ (psh v []) h2) (onTh E σ none) := by have hw := (by simp [wd] : wd ([] : List AV) ≤ 8); simp [ex, ctl, tk, hw, ccall, rcv, aA]
theorem x_79_4_3_d1 {v1 v2 v3 u1 : AV} {k : Nat} : ex E C ((79, 3, b, 4) :: L) σ [v3, v2, v1, aA 3 k, u1] h = cbind (C b [aA 3 k, v1, v2, v3] h) (fun v h2 => ex E C L σ (psh v [u1]) h2) (onTh E σ none) := by have hw := (wd_1 u1); simp [ex, ctl, tk, hw, ccall, rcv, aA]
theorem x_79_4_3_d2 {v1 v2 v3 u1 u2 : AV} {k : Nat} : ex E C ((79, 3, b, 4) :: L) σ [v3, v2, v1, aA 3 k, u1, u2] h = cbind (C b [aA 3 k, v1, v2, v3] h) (fun v h2 => ex E C L σ (psh v [u1, u2]) h2) (onTh E σ none) := by have hw := (wd_2 u1 u2); simp [ex, ctl, tk, hw, ccall, rcv, aA]
theorem x_79_4_3_d3 {v1 v2 v3 u1 u2 u3 : AV} {k : Nat} : ex E C ((79, 3, b, 4) :: L) σ [v3, v2, v1, aA 3 k, u1, u2, u3] h = cbind (C b [aA 3 k, v1, v2, v3] h) (fun v h2 => ex E C L σ (psh v [u1, u2, u3]) h2) (onTh E σ none) := by have hw := (wd_3 u1 u2 u3); simp [ex, ctl, tk, hw, ccall, rcv, aA]
theorem x_79_4_3_d4 {v1 v2 v3 u1 u2 u3 u4 : AV} {k : Nat} : ex E C ((79, 3, b, 4) :: L) σ [v3, v2, v1, aA 3 k, u1, u2, u3, u4] h = cbind (C b [aA 3 k, v1, v2, v3] h) (fun v h2 => ex E C L σ (psh v [u1, u2, u3, u4]) h2) (onTh E σ none) := by have hw := (wd_4 u1 u2 u3 u4); simp [ex, ctl, tk, hw, ccall, rcv, aA]
theorem x_79_2_4_d0 {v1 : AV} {k : Nat} : ex E C ((79, 4, b, 2) :: L) σ [v1, aA 4 k] h = cbind (C b [aA 4 k, v1] h) (fun v h2 => ex E C L σ (psh v []) h2) (onTh E σ none) := by have hw := (by simp [wd] : wd ([] : List AV) ≤ 8); simp [ex, ctl, tk, hw, ccall, rcv, aA]
theorem x_79_2_4_d1 {v1 u1 : AV} {k : Nat} : ex E C ((79, 4, b, 2) :: L) σ [v1, aA 4 k, u1] h = cbind (C b [aA 4 k, v1] h) (fun v h2 => ex E C L σ (psh v [u1]) h2) (onTh E σ none) := by have hw := (wd_1 u1); simp [ex, ctl, tk, hw, ccall, rcv, aA]
theorem x_79_2_4_d2 {v1 u1 u2 : AV} {k : Nat} : ex E C ((79, 4, b, 2) :: L) σ [v1, aA 4 k, u1, u2] h = cbind (C b [aA 4 k, v1] h) (fun v h2 => ex E C L σ (psh v [u1, u2]) h2) (onTh E σ none) := by have hw := (wd_2 u1 u2); simp [ex, ctl, tk, hw, ccall, rcv, aA]
theorem x_79_2_4_d3 {v1 u1 u2 u3 : AV} {k : Nat} : ex E C ((79, 4, b, 2) :: L) σ [v1, aA 4 k, u1, u2, u3] h = cbind (C b [aA 4 k, v1] h) (fun v h2 => ex E C L σ (psh v [u1, u2, u3]) h2) (onTh E σ none) := by have hw := (wd_3 u1 u2 u3); simp [ex, ctl, tk, hw, ccall, rcv, aA]
theorem x_79_2_4_d4 {v1 u1 u2 u3 u4 : AV} {k : Nat} : ex E C ((79, 4, b, 2) :: L) σ [v1, aA 4 k, u1, u2, u3, u4] h = cbind (C b [aA 4 k, v1] h) (fun v h2 => ex E C L σ (psh v [u1, u2, u3, u4]) h2) (onTh E σ none) := by have hw := (wd_4 u1 u2 u3 u4); simp [ex, ctl, tk, hw, ccall, rcv, aA]
theorem x_79_5_4_d0 {v1 v2 v3 v4 : AV} {k : Nat} : ex E C ((79, 4, b, 5) :: L) σ [v4, v3, v2, v1, aA 4 k] h = cbind (C b [aA 4 k, v1, v2, v3, v4] h) (fun v h2 => ex E C L σ (psh v []) h2) (onTh E σ none) := by have hw := (by simp [wd] : wd ([] : List AV) ≤ 8); simp [ex, ctl, tk, hw, ccall, rcv, aA]
theorem x_79_5_4_d1 {v1 v2 v3 v4 u1 : AV} {k : Nat} : ex E C ((79, 4, b, 5) :: L) σ [v4, v3, v2, v1, aA 4 k, u1] h = cbind (C b [aA 4 k, v1, v2, v3, v4] h) (fun v h2 => ex E C L σ (psh v [u1]) h2) (onTh E σ none) := by have hw := (wd_1 u1); simp [ex, ctl, tk, hw, ccall, rcv, aA]
theorem x_79_5_4_d2 {v1 v2 v3 v4 u1 u2 : AV} {k : Nat} : ex E C ((79, 4, b, 5) :: L) σ [v4, v3, v2, v1, aA 4 k, u1, u2] h = cbind (C b [aA 4 k, v1, v2, v3, v4] h) (fun v h2 => ex E C L σ (psh v [u1, u2]) h2) (onTh E σ none) := by have hw := (wd_2 u1 u2); simp [ex, ctl, tk, hw, ccall, rcv, aA]
theorem x_79_5_4_d3 {v1 v2 v3 v4 u1 u2 u3 : AV} {k : Nat} : ex E C ((79, 4, b, 5) :: L) σ [v4, v3, v2, v1, aA 4 k, u1, u2, u3] h = cbind (C b [aA 4 k, v1, v2, v3, v4] h) (fun v h2 => ex E C L σ (psh v [u1, u2, u3]) h2) (onTh E σ none) := by have hw := (wd_3 u1 u2 u3); simp [ex, ctl, tk, hw, ccall, rcv, aA]
theorem x_79_5_4_d4 {v1 v2 v3 v4 u1 u2 u3 u4 : AV} {k : Nat} : ex E C ((79, 4, b, 5) :: L) σ [v4, v3, v2, v1, aA 4 k, u1, u2, u3, u4] h = cbind (C b [aA 4 k, v1, v2, v3, v4] h) (fun v h2 => ex E C L σ (psh v [u1, u2, u3, u4]) h2) (onTh E σ none) := by have hw := (wd_4 u1 u2 u3 u4); simp [ex, ctl, tk, hw, ccall, rcv, aA]
theorem x_79_1_5_d0  {k : Nat} : ex E C ((79, 5, b, 1) :: L) σ [aA 5 k] h = cbind (C b [aA 5 k] h) (fun v h2 => ex E C L σ (psh v []) h2) (onTh E σ none) := by have hw := (by simp [wd] : wd ([] : List AV) ≤ 8); simp [ex, ctl, tk, hw, ccall, rcv, aA]
theorem x_79_1_5_d1 {u1 : AV} {k : Nat} : ex E C ((79, 5, b, 1) :: L) σ [aA 5 k, u1] h = cbind (C b [aA 5 k] h) (fun v h2 => ex E C L σ (psh v [u1]) h2) (onTh E σ none) := by have hw := (wd_1 u1); simp [ex, ctl, tk, hw, ccall, rcv, aA]
theorem x_79_1_5_d2 {u1 u2 : AV} {k : Nat} : ex E C ((79, 5, b, 1) :: L) σ [aA 5 k, u1, u2] h = cbind (C b [aA 5 k] h) (fun v h2 => ex E C L σ (psh v [u1, u2]) h2) (onTh E σ none) := by have hw := (wd_2 u1 u2); simp [ex, ctl, tk, hw, ccall, rcv, aA]
theorem x_79_1_5_d3 {u1 u2 u3 : AV} {k : Nat} : ex E C ((79, 5, b, 1) :: L) σ [aA 5 k, u1, u2, u3] h = cbind (C b [aA 5 k] h) (fun v h2 => ex E C L σ (psh v [u1, u2, u3]) h2) (onTh E σ none) := by have hw := (wd_3 u1 u2 u3); simp [ex, ctl, tk, hw, ccall, rcv, aA]
theorem x_79_1_5_d4 {u1 u2 u3 u4 : AV} {k : Nat} : ex E C ((79, 5, b, 1) :: L) σ [aA 5 k, u1, u2, u3, u4] h = cbind (C b [aA 5 k] h) (fun v h2 => ex E C L σ (psh v [u1, u2, u3, u4]) h2) (onTh E σ none) := by have hw := (wd_4 u1 u2 u3 u4); simp [ex, ctl, tk, hw, ccall, rcv, aA]
theorem x_79_2_5_d0 {v1 : AV} {k : Nat} : ex E C ((79, 5, b, 2) :: L) σ [v1, aA 5 k] h = cbind (C b [aA 5 k, v1] h) (fun v h2 => ex E C L σ (psh v []) h2) (onTh E σ none) := by have hw := (by simp [wd] : wd ([] : List AV) ≤ 8); simp [ex, ctl, tk, hw, ccall, rcv, aA]
theorem x_79_2_5_d1 {v1 u1 : AV} {k : Nat} : ex E C ((79, 5, b, 2) :: L) σ [v1, aA 5 k, u1] h = cbind (C b [aA 5 k, v1] h) (fun v h2 => ex E C L σ (psh v [u1]) h2) (onTh E σ none) := by have hw := (wd_1 u1); simp [ex, ctl, tk, hw, ccall, rcv, aA]
theorem x_79_2_5_d2 {v1 u1 u2 : AV} {k : Nat} : ex E C ((79, 5, b, 2) :: L) σ [v1, aA 5 k, u1, u2] h = cbind (C b [aA 5 k, v1] h) (fun v h2 => ex E C L σ (psh v [u1, u2]) h2) (onTh E σ none) := by have hw := (wd_2 u1 u2); simp [ex, ctl, tk, hw, ccall, rcv, aA]
theorem x_79_2_5_d3 {v1 u1 u2 u3 : AV} {k : Nat} : ex E C ((79, 5, b, 2) :: L) σ [v1, aA 5 k, u1, u2, u3] h = cbind (C b [aA 5 k, v1] h) (fun v h2 => ex E C L σ (psh v [u1, u2, u3]) h2) (onTh E σ none) := by have hw := (wd_3 u1 u2 u3); simp [ex, ctl, tk, hw, ccall, rcv, aA]
theorem x_79_2_5_d4 {v1 u1 u2 u3 u4 : AV} {k : Nat} : ex E C ((79, 5, b, 2) :: L) σ [v1, aA 5 k, u1, u2, u3, u4] h = cbind (C b [aA 5 k, v1] h) (fun v h2 => ex E C L σ (psh v [u1, u2, u3, u4]) h2) (onTh E σ none) := by have hw := (wd_4 u1 u2 u3 u4); simp [ex, ctl, tk, hw, ccall, rcv, aA]
theorem x_79_1_6_d0  {k : Nat} : ex E C ((79, 6, b, 1) :: L) σ [aA 6 k] h = cbind (C b [aA 6 k] h) (fun v h2 => ex E C L σ (psh v []) h2) (onTh E σ none) := by have hw := (by simp [wd] : wd ([] : List AV) ≤ 8); simp [ex, ctl, tk, hw, ccall, rcv, aA]
theorem x_79_1_6_d1 {u1 : AV} {k : Nat} : ex E C ((79, 6, b, 1) :: L) σ [aA 6 k, u1] h = cbind (C b [aA 6 k] h) (fun v h2 => ex E C L σ (psh v [u1]) h2) (onTh E σ none) := by have hw := (wd_1 u1); simp [ex, ctl, tk, hw, ccall, rcv, aA]
theorem x_79_1_6_d2 {u1 u2 : AV} {k : Nat} : ex E C ((79, 6, b, 1) :: L) σ [aA 6 k, u1, u2] h = cbind (C b [aA 6 k] h) (fun v h2 => ex E C L σ (psh v [u1, u2]) h2) (onTh E σ none) := by have hw := (wd_2 u1 u2); simp [ex, ctl, tk, hw, ccall, rcv, aA]
theorem x_79_1_6_d3 {u1 u2 u3 : AV} {k : Nat} : ex E C ((79, 6, b, 1) :: L) σ [aA 6 k, u1, u2, u3] h = cbind (C b [aA 6 k] h) (fun v h2 => ex E C L σ (psh v [u1, u2, u3]) h2) (onTh E σ none) := by have hw := (wd_3 u1 u2 u3); simp [ex, ctl, tk, hw, ccall, rcv, aA]
theorem x_79_1_6_d4 {u1 u2 u3 u4 : AV} {k : Nat} : ex E C ((79, 6, b, 1) :: L) σ [aA 6 k, u1, u2, u3, u4] h = cbind (C b [aA 6 k] h) (fun v h2 => ex E C L σ (psh v [u1, u2, u3, u4]) h2) (onTh E σ none) := by have hw := (wd_4 u1 u2 u3 u4); simp [ex, ctl, tk, hw, ccall, rcv, aA]
theorem x_79_2_6_d0 {v1 : AV} {k : Nat} : ex E C ((79, 6, b, 2) :: L) σ [v1, aA 6 k] h = cbind (C b [aA 6 k, v1] h) (fun v h2 => ex E C L σ (psh v []) h2) (onTh E σ none) := by have hw := (by simp [wd] : wd ([] : List AV) ≤ 8); simp [ex, ctl, tk, hw, ccall, rcv, aA]
theorem x_79_2_6_d1 {v1 u1 : AV} {k : Nat} : ex E C ((79, 6, b, 2) :: L) σ [v1, aA 6 k, u1] h = cbind (C b [aA 6 k, v1] h) (fun v h2 => ex E C L σ (psh v [u1]) h2) (onTh E σ none) := by have hw := (wd_1 u1); simp [ex, ctl, tk, hw, ccall, rcv, aA]
theorem x_79_2_6_d2 {v1 u1 u2 : AV} {k : Nat} : ex E C ((79, 6, b, 2) :: L) σ [v1, aA 6 k, u1, u2] h = cbind (C b [aA 6 k, v1] h) (fun v h2 => ex E C L σ (psh v [u1, u2]) h2) (onTh E σ none) := by have hw := (wd_2 u1 u2); simp [ex, ctl, tk, hw, ccall, rcv, aA]
theorem x_79_2_6_d3 {v1 u1 u2 u3 : AV} {k : Nat} : ex E C ((79, 6, b, 2) :: L) σ [v1, aA 6 k, u1, u2, u3] h = cbind (C b [aA 6 k, v1] h) (fun v h2 => ex E C L σ (psh v [u1, u2, u3]) h2) (onTh E σ none) := by have hw := (wd_3 u1 u2 u3); simp [ex, ctl, tk, hw, ccall, rcv, aA]
theorem x_79_2_6_d4 {v1 u1 u2 u3 u4 : AV} {k : Nat} : ex E C ((79, 6, b, 2) :: L) σ [v1, aA 6 k, u1, u2, u3, u4] h = cbind (C b [aA 6 k, v1] h) (fun v h2 => ex E C L σ (psh v [u1, u2, u3, u4]) h2) (onTh E σ none) := by have hw := (wd_4 u1 u2 u3 u4); simp [ex, ctl, tk, hw, ccall, rcv, aA]
theorem x_79_3_6_d0 {v1 v2 : AV} {k : Nat} : ex E C ((79, 6, b, 3) :: L) σ [v2, v1, aA 6 k] h = cbind (C b [aA 6 k, v1, v2] h) (fun v h2 => ex E C L σ (psh v []) h2) (onTh E σ none) := by have hw := (by simp [wd] : wd ([] : List AV) ≤ 8); simp [ex, ctl, tk, hw, ccall, rcv, aA]
theorem x_79_3_6_d1 {v1 v2 u1 : AV} {k : Nat} : ex E C ((79, 6, b, 3) :: L) σ [v2, v1, aA 6 k, u1] h = cbind (C b [aA 6 k, v1, v2] h) (fun v h2 => ex E C L σ (psh v [u1]) h2) (onTh E σ none) := by have hw := (wd_1 u1); simp [ex, ctl, tk, hw, ccall, rcv, aA]
theorem x_79_3_6_d2 {v1 v2 u1 u2 : AV} {k : Nat} : ex E C ((79, 6, b, 3) :: L) σ [v2, v1, aA 6 k, u1, u2] h = cbind (C b [aA 6 k, v1, v2] h) (fun v h2 => ex E C L σ (psh v [u1, u2]) h2) (onTh E σ none) := by have hw := (wd_2 u1 u2); simp [ex, ctl, tk, hw, ccall, rcv, aA]
theorem x_79_3_6_d3 {v1 v2 u1 u2 u3 : AV} {k : Nat} : ex E C ((79, 6, b, 3) :: L) σ [v2, v1, aA 6 k, u1, u2, u3] h = cbind (C b [aA 6 k, v1, v2] h) (fun v h2 => ex E C L σ (psh v [u1, u2, u3]) h2) (onTh E σ none) := by have hw := (wd_3 u1 u2 u3); simp [ex, ctl, tk, hw, ccall, rcv, aA]
theorem x_79_3_6_d4 {v1 v2 u1 u2 u3 u4 : AV} {k : Nat} : ex E C ((79, 6, b, 3) :: L) σ [v2, v1, aA 6 k, u1, u2, u3, u4] h = cbind (C b [aA 6 k, v1, v2] h) (fun v h2 => ex E C L σ (psh v [u1, u2, u3, u4]) h2) (onTh E σ none) := by have hw := (wd_4 u1 u2 u3 u4); simp [ex, ctl, tk, hw, ccall, rcv, aA]
theorem x_79_1_7_d0  {k : Nat} : ex E C ((79, 7, b, 1) :: L) σ [aA 7 k] h = cbind (C b [aA 7 k] h) (fun v h2 => ex E C L σ (psh v []) h2) (onTh E σ none) := by have hw := (by simp [wd] : wd ([] : List AV) ≤ 8); simp [ex, ctl, tk, hw, ccall, rcv, aA]
theorem x_79_1_7_d1 {u1 : AV} {k : Nat} : ex E C ((79, 7, b, 1) :: L) σ [aA 7 k, u1] h = cbind (C b [aA 7 k] h) (fun v h2 => ex E C L σ (psh v [u1]) h2) (onTh E σ none) := by have hw := (wd_1 u1); simp [ex, ctl, tk, hw, ccall, rcv, aA]
theorem x_79_1_7_d2 {u1 u2 : AV} {k : Nat} : ex E C ((79, 7, b, 1) :: L) σ [aA 7 k, u1, u2] h = cbind (C b [aA 7 k] h) (fun v h2 => ex E C L σ (psh v [u1, u2]) h2) (onTh E σ none) := by have hw := (wd_2 u1 u2); simp [ex, ctl, tk, hw, ccall, rcv, aA]
theorem x_79_1_7_d3 {u1 u2 u3 : AV} {k : Nat} : ex E C ((79, 7, b, 1) :: L) σ [aA 7 k, u1, u2, u3] h = cbind (C b [aA 7 k] h) (fun v h2 => ex E C L σ (psh v [u1, u2, u3]) h2) (onTh E σ none) := by have hw := (wd_3 u1 u2 u3); simp [ex, ctl, tk, hw, ccall, rcv, aA]
theorem x_79_1_7_d4 {u1 u2 u3 u4 : AV} {k : Nat} : ex E C ((79, 7, b, 1) :: L) σ [aA 7 k, u1, u2, u3, u4] h = cbind (C b [aA 7 k] h) (fun v h2 => ex E C L σ (psh v [u1, u2, u3, u4]) h2) (onTh E σ none) := by have hw := (wd_4 u1 u2 u3 u4); simp [ex, ctl, tk, hw, ccall, rcv, aA]
theorem x_79_2_7_d0 {v1 : AV} {k : Nat} : ex E C ((79, 7, b, 2) :: L) σ [v1, aA 7 k] h = cbind (C b [aA 7 k, v1] h) (fun v h2 => ex E C L σ (psh v []) h2) (onTh E σ none) := by have hw := (by simp [wd] : wd ([] : List AV) ≤ 8); simp [ex, ctl, tk, hw, ccall, rcv, aA]
theorem x_79_2_7_d1 {v1 u1 : AV} {k : Nat} : ex E C ((79, 7, b, 2) :: L) σ [v1, aA 7 k, u1] h = cbind (C b [aA 7 k, v1] h) (fun v h2 => ex E C L σ (psh v [u1]) h2) (onTh E σ none) := by have hw := (wd_1 u1); simp [ex, ctl, tk, hw, ccall, rcv, aA]
theorem x_79_2_7_d2 {v1 u1 u2 : AV} {k : Nat} : ex E C ((79, 7, b, 2) :: L) σ [v1, aA 7 k, u1, u2] h = cbind (C b [aA 7 k, v1] h) (fun v h2 => ex E C L σ (psh v [u1, u2]) h2) (onTh E σ none) := by have hw := (wd_2 u1 u2); simp [ex, ctl, tk, hw, ccall, rcv, aA]
theorem x_79_2_7_d3 {v1 u1 u2 u3 : AV} {k : Nat} : ex E C ((79, 7, b, 2) :: L) σ [v1, aA 7 k, u1, u2, u3] h = cbind (C b [aA 7 k, v1] h) (fun v h2 => ex E C L σ (psh v [u1, u2, u3]) h2) (onTh E σ none) := by have hw := (wd_3 u1 u2 u3); simp [ex, ctl, tk, hw, ccall, rcv, aA]
theorem x_79_2_7_d4 {v1 u1 u2 u3 u4 : AV} {k : Nat} : ex E C ((79, 7, b, 2) :: L) σ [v1, aA 7 k, u1, u2, u3, u4] h = cbind (C b [aA 7 k, v1] h) (fun v h2 => ex E C L σ (psh v [u1, u2, u3, u4]) h2) (onTh E σ none) := by have hw := (wd_4 u1 u2 u3 u4); simp [ex, ctl, tk, hw, ccall, rcv, aA]
theorem x_79_3_7_d0 {v1 v2 : AV} {k : Nat} : ex E C ((79, 7, b, 3) :: L) σ [v2, v1, aA 7 k] h = cbind (C b [aA 7 k, v1, v2] h) (fun v h2 => ex E C L σ (psh v []) h2) (onTh E σ none) := by have hw := (by simp [wd] : wd ([] : List AV) ≤ 8); simp [ex, ctl, tk, hw, ccall, rcv, aA]
theorem x_79_3_7_d1 {v1 v2 u1 : AV} {k : Nat} : ex E C ((79, 7, b, 3) :: L) σ [v2, v1, aA 7 k, u1] h = cbind (C b [aA 7 k, v1, v2] h) (fun v h2 => ex E C L σ (psh v [u1]) h2) (onTh E σ none) := by have hw := (wd_1 u1); simp [ex, ctl, tk, hw, ccall, rcv, aA]
theorem x_79_3_7_d2 {v1 v2 u1 u2 : AV} {k : Nat} : ex E C ((79, 7, b, 3) :: L) σ [v2, v1, aA 7 k, u1, u2] h = cbind (C b [aA 7 k, v1, v2] h) (fun v h2 => ex E C L σ (psh v [u1, u2]) h2) (onTh E σ none) := by have hw := (wd_2 u1 u2); simp [ex, ctl, tk, hw, ccall, rcv, aA]
theorem x_79_3_7_d3 {v1 v2 u1 u2 u3 : AV} {k : Nat} : ex E C ((79, 7, b, 3) :: L) σ [v2, v1, aA 7 k, u1, u2, u3] h = cbind (C b [aA 7 k, v1, v2] h) (fun v h2 => ex E C L σ (psh v [u1, u2, u3]) h2) (onTh E σ none) := by have hw := (wd_3 u1 u2 u3); simp [ex, ctl, tk, hw, ccall, rcv, aA]
theorem x_79_3_7_d4 {v1 v2 u1 u2 u3 u4 : AV} {k : Nat} : ex E C ((79, 7, b, 3) :: L) σ [v2, v1, aA 7 k, u1, u2, u3, u4] h = cbind (C b [aA 7 k, v1, v2] h) (fun v h2 => ex E C L σ (psh v [u1, u2, u3, u4]) h2) (onTh E σ none) := by have hw := (wd_4 u1 u2 u3 u4); simp [ex, ctl, tk, hw, ccall, rcv, aA]
theorem x_79_4_7_d0 {v1 v2 v3 : AV} {k : Nat} : ex E C ((79, 7, b, 4) :: L) σ [v3, v2, v1, aA 7 k] h = cbind (C b [aA 7 k, v1, v2, v3] h) (fun v h2 => ex E C L σ (psh v []) h2) (onTh E σ none) := by have hw := (by simp [wd] : wd ([] : List AV) ≤ 8); simp [ex, ctl, tk, hw, ccall, rcv, aA]
theorem x_79_4_7_d1 {v1 v2 v3 u1 : AV} {k : Nat} : ex E C ((79, 7, b, 4) :: L) σ [v3, v2, v1, aA 7 k, u1] h = cbind (C b [aA 7 k, v1, v2, v3] h) (fun v h2 => ex E C L σ (psh v [u1]) h2) (onTh E σ none) := by have hw := (wd_1 u1); simp [ex, ctl, tk, hw, ccall, rcv, aA]
theorem x_79_4_7_d2 {v1 v2 v3 u1 u2 : AV} {k : Nat} : ex E C ((79, 7, b, 4) :: L) σ [v3, v2, v1, aA 7 k, u1, u2] h = cbind (C b [aA 7 k, v1, v2, v3] h) (fun v h2 => ex E C L σ (psh v [u1, u2]) h2) (onTh E σ none) := by have hw := (wd_2 u1 u2); simp [ex, ctl, tk, hw, ccall, rcv, aA]
theorem x_79_4_7_d3 {v1 v2 v3 u1 u2 u3 : AV} {k : Nat} : ex E C ((79, 7, b, 4) :: L) σ [v3, v2, v1, aA 7 k, u1, u2, u3] h = cbind (C b [aA 7 k, v1, v2, v3] h) (fun v h2 => ex E C L σ (psh v [u1, u2, u3]) h2) (onTh E σ none) := by have hw := (wd_3 u1 u2 u3); simp [ex, ctl, tk, hw, ccall, rcv, aA]
theorem x_79_4_7_d4 {v1 v2 v3 u1 u2 u3 u4 : AV} {k : Nat} : ex E C ((79, 7, b, 4) :: L) σ [v3, v2, v1, aA 7 k, u1, u2, u3, u4] h = cbind (C b [aA 7 k, v1, v2, v3] h) (fun v h2 => ex E C L σ (psh v [u1, u2, u3, u4]) h2) (onTh E σ none) := by have hw := (wd_4 u1 u2 u3 u4); simp [ex, ctl, tk, hw, ccall, rcv, aA]
theorem x_79_5_7_d0 {v1 v2 v3 v4 : AV} {k : Nat} : ex E C ((79, 7, b, 5) :: L) σ [v4, v3, v2, v1, aA 7 k] h = cbind (C b [aA 7 k, v1, v2, v3, v4] h) (fun v h2 => ex E C L σ (psh v []) h2) (onTh E σ none) := by have hw := (by simp [wd] : wd ([] : List AV) ≤ 8); simp [ex, ctl, tk, hw, ccall, rcv, aA]
theorem x_79_5_7_d1 {v1 v2 v3 v4 u1 : AV} {k : Nat} : ex E C ((79, 7, b, 5) :: L) σ [v4, v3, v2, v1, aA 7 k, u1] h = cbind (C b [aA 7 k, v1, v2, v3, v4] h) (fun v h2 => ex E C L σ (psh v [u1]) h2) (onTh E σ none) := by have hw := (wd_1 u1); simp [ex, ctl, tk, hw, ccall, rcv, aA]
theorem x_79_5_7_d2 {v1 v2 v3 v4 u1 u2 : AV} {k : Nat} : ex E C ((79, 7, b, 5) :: L) σ [v4, v3, v2, v1, aA 7 k, u1, u2] h = cbind (C b [aA 7 k, v1, v2, v3, v4] h) (fun v h2 => ex E C L σ (psh v [u1, u2]) h2) (onTh E σ none) := by have hw := (wd_2 u1 u2); simp [ex, ctl, tk, hw, ccall, rcv, aA]
theorem x_79_5_7_d3 {v1 v2 v3 v4 u1 u2 u3 : AV} {k : Nat} : ex E C ((79, 7, b, 5) :: L) σ [v4, v3, v2, v1, aA 7 k, u1, u2, u3] h = cbind (C b [aA 7 k, v1, v2, v3, v4] h) (fun v h2 => ex E C L σ (psh v [u1, u2, u3]) h2) (onTh E σ none) := by have hw := (wd_3 u1 u2 u3); simp [ex, ctl, tk, hw, ccall, rcv, aA]
theorem x_79_5_7_d4 {v1 v2 v3 v4 u1 u2 u3 u4 : AV} {k : Nat} : ex E C ((79, 7, b, 5) :: L) σ [v4, v3, v2, v1, aA 7 k, u1, u2, u3, u4] h = cbind (C b [aA 7 k, v1, v2, v3, v4] h) (fun v h2 => ex E C L σ (psh v [u1, u2, u3, u4]) h2) (onTh E σ none) := by have hw := (wd_4 u1 u2 u3 u4); simp [ex, ctl, tk, hw, ccall, rcv, aA]
theorem x_79_1_8_d0  {k : Nat} : ex E C ((79, 8, b, 1) :: L) σ [aA 8 k] h = cbind (C b [aA 8 k] h) (fun v h2 => ex E C L σ (psh v []) h2) (onTh E σ none) := by have hw := (by simp [wd] : wd ([] : List AV) ≤ 8); simp [ex, ctl, tk, hw, ccall, rcv, aA]
theorem x_79_1_8_d1 {u1 : AV} {k : Nat} : ex E C ((79, 8, b, 1) :: L) σ [aA 8 k, u1] h = cbind (C b [aA 8 k] h) (fun v h2 => ex E C L σ (psh v [u1]) h2) (onTh E σ none) := by have hw := (wd_1 u1); simp [ex, ctl, tk, hw, ccall, rcv, aA]
theorem x_79_1_8_d2 {u1 u2 : AV} {k : Nat} : ex E C ((79, 8, b, 1) :: L) σ [aA 8 k, u1, u2] h = cbind (C b [aA 8 k] h) (fun v h2 => ex E C L σ (psh v [u1, u2]) h2) (onTh E σ none) := by have hw := (wd_2 u1 u2); simp [ex, ctl, tk, hw, ccall, rcv, aA]
theorem x_79_1_8_d3 {u1 u2 u3 : AV} {k : Nat} : ex E C ((79, 8, b, 1) :: L) σ [aA 8 k, u1, u2, u3] h = cbind (C b [aA 8 k] h) (fun v h2 => ex E C L σ (psh v [u1, u2, u3]) h2) (onTh E σ none) := by have hw := (wd_3 u1 u2 u3); simp [ex, ctl, tk, hw, ccall, rcv, aA]
theorem x_79_1_8_d4 {u1 u2 u3 u4 : AV} {k : Nat} : ex E C ((79, 8, b, 1) :: L) σ [aA 8 k, u1, u2, u3, u4] h = cbind (C b [aA 8 k] h) (fun v h2 => ex E C L σ (psh v [u1, u2, u3, u4]) h2) (onTh E σ none) := by have hw := (wd_4 u1 u2 u3 u4); simp [ex, ctl, tk, hw, ccall, rcv, aA]
theorem x_79_2_8_d0 {v1 : AV} {k : Nat} : ex E C ((79, 8, b, 2) :: L) σ [v1, aA 8 k] h = cbind (C b [aA 8 k, v1] h) (fun v h2 => ex E C L σ (psh v []) h2) (onTh E σ none) := by have hw := (by simp [wd] : wd ([] : List AV) ≤ 8); simp [ex, ctl, tk, hw, ccall, rcv, aA]
theorem x_79_2_8_d1 {v1 u1 : AV} {k : Nat} : ex E C ((79, 8, b, 2) :: L) σ [v1, aA 8 k, u1] h = cbind (C b [aA 8 k, v1] h) (fun v h2 => ex E C L σ (psh v [u1]) h2) (onTh E σ none) := by have hw := (wd_1 u1); simp [ex, ctl, tk, hw, ccall, rcv, aA]
theorem x_79_2_8_d2 {v1 u1 u2 : AV} {k : Nat} : ex E C ((79, 8, b, 2) :: L) σ [v1, aA 8 k, u1, u2] h = cbind (C b [aA 8 k, v1] h) (fun v h2 => ex E C L σ (psh v [u1, u2]) h2) (onTh E σ none) := by have hw := (wd_2 u1 u2); simp [ex, ctl, tk, hw, ccall, rcv, aA]
theorem x_79_2_8_d3 {v1 u1 u2 u3 : AV} {k : Nat} : ex E C ((79, 8, b, 2) :: L) σ [v1, aA 8 k, u1, u2, u3] h = cbind (C b [aA 8 k, v1] h) (fun v h2 => ex E C L σ (psh v [u1, u2, u3]) h2) (onTh E σ none) := by have hw := (wd_3 u1 u2 u3); simp [ex, ctl, tk, hw, ccall, rcv, aA]
theorem x_79_2_8_d4 {v1 u1 u2 u3 u4 : AV} {k : Nat} : ex E C ((79, 8, b, 2) :: L) σ [v1, aA 8 k, u1, u2, u3, u4] h = cbind (C b [aA 8 k, v1] h) (fun v h2 => ex E C L σ (psh v [u1, u2, u3, u4]) h2) (onTh E σ none) := by have hw := (wd_4 u1 u2 u3 u4); simp [ex, ctl, tk, hw, ccall, rcv, aA]
theorem x_79_3_8_d0 {v1 v2 : AV} {k : Nat} : ex E C ((79, 8, b, 3) :: L) σ [v2, v1, aA 8 k] h = cbind (C b [aA 8 k, v1, v2] h) (fun v h2 => ex E C L σ (psh v []) h2) (onTh E σ none) := by have hw := (by simp [wd] : wd ([] : List AV) ≤ 8); simp [ex, ctl, tk, hw, ccall, rcv, aA]
theorem x_79_3_8_d1 {v1 v2 u1 : AV} {k : Nat} : ex E C ((79, 8, b, 3) :: L) σ [v2, v1, aA 8 k, u1] h = cbind (C b [aA 8 k, v1, v2] h) (fun v h2 => ex E C L σ (psh v [u1]) h2) (onTh E σ none) := by have hw := (wd_1 u1); simp [ex, ctl, tk, hw, ccall, rcv, aA]
theorem x_79_3_8_d2 {v1 v2 u1 u2 : AV} {k : Nat} : ex E C ((79, 8, b, 3) :: L) σ [v2, v1, aA 8 k, u1, u2] h = cbind (C b [aA 8 k, v1, v2] h) (fun v h2 => ex E C L σ (psh v [u1, u2]) h2) (onTh E σ none) := by have hw := (wd_2 u1 u2); simp [ex, ctl, tk, hw, ccall, rcv, aA]
theorem x_79_3_8_d3 {v1 v2 u1 u2 u3 : AV} {k : Nat} : ex E C ((79, 8, b, 3) :: L) σ [v2, v1, aA 8 k, u1, u2, u3] h = cbind (C b [aA 8 k, v1, v2] h) (fun v h2 => ex E C L σ (psh v [u1, u2, u3]) h2) (onTh E σ none) := by have hw := (wd_3 u1 u2 u3); simp [ex, ctl, tk, hw, ccall, rcv, aA]
theorem x_79_3_8_d4 {v1 v2 u1 u2 u3 u4 : AV} {k : Nat} : ex E C ((79, 8, b, 3) :: L) σ [v2, v1, aA 8 k, u1, u2, u3, u4] h = cbind (C b [aA 8 k, v1, v2] h) (fun v h2 => ex E C L σ (psh v [u1, u2, u3, u4]) h2) (onTh E σ none) := by have hw := (wd_4 u1 u2 u3 u4); simp [ex, ctl, tk, hw, ccall, rcv, aA]
theorem x_79_2_9_d0 {v1 : AV} {k : Nat} : ex E C ((79, 9, b, 2) :: L) σ [v1, aA 9 k] h = cbind (C b [aA 9 k, v1] h) (fun v h2 => ex E C L σ (psh v []) h2) (onTh E σ none) := by have hw := (by simp [wd] : wd ([] : List AV) ≤ 8); simp [ex, ctl, tk, hw, ccall, rcv, aA]
theorem x_79_2_9_d1 {v1 u1 : AV} {k : Nat} : ex E C ((79, 9, b, 2) :: L) σ [v1, aA 9 k, u1] h = cbind (C b [aA 9 k, v1] h) (fun v h2 => ex E C L σ (psh v [u1]) h2) (onTh E σ none) := by have hw := (wd_1 u1); simp [ex, ctl, tk, hw, ccall, rcv, aA]
theorem x_79_2_9_d2 {v1 u1 u2 : AV} {k : Nat} : ex E C ((79, 9, b, 2) :: L) σ [v1, aA 9 k, u1, u2] h = cbind (C b [aA 9 k, v1] h) (fun v h2 => ex E C L σ (psh v [u1, u2]) h2) (onTh E σ none) := by have hw := (wd_2 u1 u2); simp [ex, ctl, tk, hw, ccall, rcv, aA]
theorem x_79_2_9_d3 {v1 u1 u2 u3 : AV} {k : Nat} : ex E C ((79, 9, b, 2) :: L) σ [v1, aA 9 k, u1, u2, u3] h = cbind (C b [aA 9 k, v1] h) (fun v h2 => ex E C L σ (psh v [u1, u2, u3]) h2) (onTh E σ none) := by have hw := (wd_3 u1 u2 u3); simp [ex, ctl, tk, hw, ccall, rcv, aA]
theorem x_79_2_9_d4 {v1 u1 u2 u3 u4 : AV} {k : Nat} : ex E C ((79, 9, b, 2) :: L) σ [v1, aA 9 k, u1, u2, u3, u4] h = cbind (C b [aA 9 k, v1] h) (fun v h2 => ex E C L σ (psh v [u1, u2, u3, u4]) h2) (onTh E σ none) := by have hw := (wd_4 u1 u2 u3 u4); simp [ex, ctl, tk, hw, ccall, rcv, aA]
theorem x_79_3_9_d0 {v1 v2 : AV} {k : Nat} : ex E C ((79, 9, b, 3) :: L) σ [v2, v1, aA 9 k] h = cbind (C b [aA 9 k, v1, v2] h) (fun v h2 => ex E C L σ (psh v []) h2) (onTh E σ none) := by have hw := (by simp [wd] : wd ([] : List AV) ≤ 8); simp [ex, ctl, tk, hw, ccall, rcv, aA]
theorem x_79_3_9_d1 {v1 v2 u1 : AV} {k : Nat} : ex E C ((79, 9, b, 3) :: L) σ [v2, v1, aA 9 k, u1] h = cbind (C b [aA 9 k, v1, v2] h) (fun v h2 => ex E C L σ (psh v [u1]) h2) (onTh E σ none) := by have hw := (wd_1 u1); simp [ex, ctl, tk, hw, ccall, rcv, aA]
theorem x_79_3_9_d2 {v1 v2 u1 u2 : AV} {k : Nat} : ex E C ((79, 9, b, 3) :: L) σ [v2, v1, aA 9 k, u1, u2] h = cbind (C b [aA 9 k, v1, v2] h) (fun v h2 => ex E C L σ (psh v [u1, u2]) h2) (onTh E σ none) := by have hw := (wd_2 u1 u2); simp [ex, ctl, tk, hw, ccall, rcv, aA]
theorem x_79_3_9_d3 {v1 v2 u1 u2 u3 : AV} {k : Nat} : ex E C ((79, 9, b, 3) :: L) σ [v2, v1, aA 9 k, u1, u2, u3] h = cbind (C b [aA 9 k, v1, v2] h) (fun v h2 => ex E C L σ (psh v [u1, u2, u3]) h2) (onTh E σ none) := by have hw := (wd_3 u1 u2 u3); simp [ex, ctl, tk, hw, ccall, rcv, aA]
theorem x_79_3_9_d4 {v1 v2 u1 u2 u3 u4 : AV} {k : Nat} : ex E C ((79, 9, b, 3) :: L) σ [v2, v1, aA 9 k, u1, u2, u3, u4] h = cbind (C b [aA 9 k, v1, v2] h) (fun v h2 => ex E C L σ (psh v [u1, u2, u3, u4]) h2) (onTh E σ none) := by have hw := (wd_4 u1 u2 u3 u4); simp [ex, ctl, tk, hw, ccall, rcv, aA]
theorem x_79_1_10_d0  {k : Nat} : ex E C ((79, 10, b, 1) :: L) σ [aA 10 k] h = cbind (C b [aA 10 k] h) (fun v h2 => ex E C L σ (psh v []) h2) (onTh E σ none) := by have hw := (by simp [wd] : wd ([] : List AV) ≤ 8); simp [ex, ctl, tk, hw, ccall, rcv, aA]
theorem x_79_1_10_d1 {u1 : AV} {k : Nat} : ex E C ((79, 10, b, 1) :: L) σ [aA 10 k, u1] h = cbind (C b [aA 10 k] h) (fun v h2 => ex E C L σ (psh v [u1]) h2) (onTh E σ none) := by have hw := (wd_1 u1); simp [ex, ctl, tk, hw, ccall, rcv, aA]
theorem x_79_1_10_d2 {u1 u2 : AV} {k : Nat} : ex E C ((79, 10, b, 1) :: L) σ [aA 10 k, u1, u2] h = cbind (C b [aA 10 k] h) (fun v h2 => ex E C L σ (psh v [u1, u2]) h2) (onTh E σ none) := by have hw := (wd_2 u1 u2); simp [ex, ctl, tk, hw, ccall, rcv, aA]
theorem x_79_1_10_d3 {u1 u2 u3 : AV} {k : Nat} : ex E C ((79, 10, b, 1) :: L) σ [aA 10 k, u1, u2, u3] h = cbind (C b [aA 10 k] h) (fun v h2 => ex E C L σ (psh v [u1, u2, u3]) h2) (onTh E σ none) := by have hw := (wd_3 u1 u2 u3); simp [ex, ctl, tk, hw, ccall, rcv, aA]
theorem x_79_1_10_d4 {u1 u2 u3 u4 : AV} {k : Nat} : ex E C ((79, 10, b, 1) :: L) σ [aA 10 k, u1, u2, u3, u4] h = cbind (C b [aA 10 k] h) (fun v h2 => ex E C L σ (psh v [u1, u2, u3, u4]) h2) (onTh E σ none) := by have hw := (wd_4 u1 u2 u3 u4); simp [ex, ctl, tk, hw, ccall, rcv, aA]
theorem x_79_3_10_d0 {v1 v2 : AV} {k : Nat} : ex E C ((79, 10, b, 3) :: L) σ [v2, v1, aA 10 k] h = cbind (C b [aA 10 k, v1, v2] h) (fun v h2 => ex E C L σ (psh v []) h2) (onTh E σ none) := by have hw := (by simp [wd] : wd ([] : List AV) ≤ 8); simp [ex, ctl, tk, hw, ccall, rcv, aA]
theorem x_79_3_10_d1 {v1 v2 u1 : AV} {k : Nat} : ex E C ((79, 10, b, 3) :: L) σ [v2, v1, aA 10 k, u1] h = cbind (C b [aA 10 k, v1, v2] h) (fun v h2 => ex E C L σ (psh v [u1]) h2) (onTh E σ none) := by have hw := (wd_1 u1); simp [ex, ctl, tk, hw, ccall, rcv, aA]
theorem x_79_3_10_d2 {v1 v2 u1 u2 : AV} {k : Nat} : ex E C ((79, 10, b, 3) :: L) σ [v2, v1, aA 10 k, u1, u2] h = cbind (C b [aA 10 k, v1, v2] h) (fun v h2 => ex E C L σ (psh v [u1, u2]) h2) (onTh E σ none) := by have hw := (wd_2 u1 u2); simp [ex, ctl, tk, hw, ccall, rcv, aA]
theorem x_79_3_10_d3 {v1 v2 u1 u2 u3 : AV} {k : Nat} : ex E C ((79, 10, b, 3) :: L) σ [v2, v1, aA 10 k, u1, u2, u3] h = cbind (C b [aA 10 k, v1, v2] h) (fun v h2 => ex E C L σ (psh v [u1, u2, u3]) h2) (onTh E σ none) := by have hw := (wd_3 u1 u2 u3); simp [ex, ctl, tk, hw, ccall, rcv, aA]
theorem x_79_3_10_d4 {v1 v2 u1 u2 u3 u4 : AV} {k : Nat} : ex E C ((79, 10, b, 3) :: L) σ [v2, v1, aA 10 k, u1, u2, u3, u4] h = cbind (C b [aA 10 k, v1, v2] h) (fun v h2 => ex E C L σ (psh v [u1, u2, u3, u4]) h2) (onTh E σ none) := by have hw := (wd_4 u1 u2 u3 u4); simp [ex, ctl, tk, hw, ccall, rcv, aA]
theorem x_79_4_10_d0 {v1 v2 v3 : AV} {k : Nat} : ex E C ((79, 10, b, 4) :: L) σ [v3, v2, v1, aA 10 k] h = cbind (C b [aA 10 k, v1, v2, v3] h) (fun v h2 => ex E C L σ (psh v []) h2) (onTh E σ none) := by have hw := (by simp [wd] : wd ([] : List AV) ≤ 8); simp [ex, ctl, tk, hw, ccall, rcv, aA]
theorem x_79_4_10_d1 {v1 v2 v3 u1 : AV} {k : Nat} : ex E C ((79, 10, b, 4) :: L) σ [v3, v2, v1, aA 10 k, u1] h = cbind (C b [aA 10 k, v1, v2, v3] h) (fun v h2 => ex E C L σ (psh v [u1]) h2) (onTh E σ none) := by have hw := (wd_1 u1); simp [ex, ctl, tk, hw, ccall, rcv, aA]
theorem x_79_4_10_d2 {v1 v2 v3 u1 u2 : AV} {k : Nat} : ex E C ((79, 10, b, 4) :: L) σ [v3, v2, v1, aA 10 k, u1, u2] h = cbind (C b [aA 10 k, v1, v2, v3] h) (fun v h2 => ex E C L σ (psh v [u1, u2]) h2) (onTh E σ none) := by have hw := (wd_2 u1 u2); simp [ex, ctl, tk, hw, ccall, rcv, aA]
theorem x_79_4_10_d3 {v1 v2 v3 u1 u2 u3 : AV} {k : Nat} : ex E C ((79, 10, b, 4) :: L) σ [v3, v2, v1, aA 10 k, u1, u2, u3] h = cbind (C b [aA 10 k, v1, v2, v3] h) (fun v h2 => ex E C L σ (psh v [u1, u2, u3]) h2) (onTh E σ none) := by have hw := (wd_3 u1 u2 u3); simp [ex, ctl, tk, hw, ccall, rcv, aA]
theorem x_79_4_10_d4 {v1 v2 v3 u1 u2 u3 u4 : AV} {k : Nat} : ex E C ((79, 10, b, 4) :: L) σ [v3, v2, v1, aA 10 k, u1, u2, u3, u4] h = cbind (C b [aA 10 k, v1, v2, v3] h) (fun v h2 => ex E C L σ (psh v [u1, u2, u3, u4]) h2) (onTh E σ none) := by have hw := (wd_4 u1 u2 u3 u4); simp [ex, ctl, tk, hw, ccall, rcv, aA]
theorem x_79_1_11_d0  {k : Nat} : ex E C ((79, 11, b, 1) :: L) σ [aA 11 k] h = cbind (C b [aA 11 k] h) (fun v h2 => ex E C L σ (psh v []) h2) (onTh E σ none) := by have hw := (by simp [wd] : wd ([] : List AV) ≤ 8); simp [ex, ctl, tk, hw, ccall, rcv, aA]
theorem x_79_1_11_d1 {u1 : AV} {k : Nat} : ex E C ((79, 11, b, 1) :: L) σ [aA 11 k, u1] h = cbind (C b [aA 11 k] h) (fun v h2 => ex E C L σ (psh v [u1]) h2) (onTh E σ none) := by have hw := (wd_1 u1); simp [ex, ctl, tk, hw, ccall, rcv, aA]
theorem x_79_1_11_d2 {u1 u2 : AV} {k : Nat} : ex E C ((79, 11, b, 1) :: L) σ [aA 11 k, u1, u2] h = cbind (C b [aA 11 k] h) (fun v h2 => ex E C L σ (psh v [u1, u2]) h2) (onTh E σ none) := by have hw := (wd_2 u1 u2); simp [ex, ctl, tk, hw, ccall, rcv, aA]
theorem x_79_1_11_d3 {u1 u2 u3 : AV} {k : Nat} : ex E C ((79, 11, b, 1) :: L) σ [aA 11 k, u1, u2, u3] h = cbind (C b [aA 11 k] h) (fun v h2 => ex E C L σ (psh v [u1, u2, u3]) h2) (onTh E σ none) := by have hw := (wd_3 u1 u2 u3); simp [ex, ctl, tk, hw, ccall, rcv, aA]
theorem x_79_1_11_d4 {u1 u2 u3 u4 : AV} {k : Nat} : ex E C ((79, 11, b, 1) :: L) σ [aA 11 k, u1, u2, u3, u4] h = cbind (C b [aA 11 k] h) (fun v h2 => ex E C L σ (psh v [u1, u2, u3, u4]) h2) (onTh E σ none) := by have hw := (wd_4 u1 u2 u3 u4); simp [ex, ctl, tk, hw, ccall, rcv, aA]
theorem x_79_2_11_d0 {v1 : AV} {k : Nat} : ex E C ((79, 11, b, 2) :: L) σ [v1, aA 11 k] h = cbind (C b [aA 11 k, v1] h) (fun v h2 => ex E C L σ (psh v []) h2) (onTh E σ none) := by have hw := (by simp [wd] : wd ([] : List AV) ≤ 8); simp [ex, ctl, tk, hw, ccall, rcv, aA]
theorem x_79_2_11_d1 {v1 u1 : AV} {k : Nat} : ex E C ((79, 11, b, 2) :: L) σ [v1, aA 11 k, u1] h = cbind (C b [aA 11 k, v1] h) (fun v h2 => ex E C L σ (psh v [u1]) h2) (onTh E σ none) := by have hw := (wd_1 u1); simp [ex, ctl, tk, hw, ccall, rcv, aA]
theorem x_79_2_11_d2 {v1 u1 u2 : AV} {k : Nat} : ex E C ((79, 11, b, 2) :: L) σ [v1, aA 11 k, u1, u2] h = cbind (C b [aA 11 k, v1] h) (fun v h2 => ex E C L σ (psh v [u1, u2]) h2) (onTh E σ none) := by have hw := (wd_2 u1 u2); simp [ex, ctl, tk, hw, ccall, rcv, aA]
theorem x_79_2_11_d3 {v1 u1 u2 u3 : AV} {k : Nat} : ex E C ((79, 11, b, 2) :: L) σ [v1, aA 11 k, u1, u2, u3] h = cbind (C b [aA 11 k, v1] h) (fun v h2 => ex E C L σ (psh v [u1, u2, u3]) h2) (onTh E σ none) := by have hw := (wd_3 u1 u2 u3); simp [ex, ctl, tk, hw, ccall, rcv, aA]
theorem x_79_2_11_d4 {v1 u1 u2 u3 u4 : AV} {k : Nat} : ex E C ((79, 11, b, 2) :: L) σ [v1, aA 11 k, u1, u2, u3, u4] h = cbind (C b [aA 11 k, v1] h) (fun v h2 => ex E C L σ (psh v [u1, u2, u3, u4]) h2) (onTh E σ none) := by have hw := (wd_4 u1 u2 u3 u4); simp [ex, ctl, tk, hw, ccall, rcv, aA]
theorem x_79_3_11_d0 {v1 v2 : AV} {k : Nat} : ex E C ((79, 11, b, 3) :: L) σ [v2, v1, aA 11 k] h = cbind (C b [aA 11 k, v1, v2] h) (fun v h2 => ex E C L σ (psh v []) h2) (onTh E σ none) := by have hw := (by simp [wd] : wd ([] : List AV) ≤ 8); simp [ex, ctl, tk, hw, ccall, rcv, aA]
theorem x_79_3_11_d1 {v1 v2 u1 : AV} {k : Nat} : ex E C ((79, 11, b, 3) :: L) σ [v2, v1, aA 11 k, u1] h = cbind (C b [aA 11 k, v1, v2] h) (fun v h2 => ex E C L σ (psh v [u1]) h2) (onTh E σ none) := by have hw := (wd_1 u1); simp [ex, ctl, tk, hw, ccall, rcv, aA]
theorem x_79_3_11_d2 {v1 v2 u1 u2 : AV} {k : Nat} : ex E C ((79, 11, b, 3) :: L) σ [v2, v1, aA 11 k, u1, u2] h = cbind (C b [aA 11 k, v1, v2] h) (fun v h2 => ex E C L σ (psh v [u1, u2]) h2) (onTh E σ none) := by have hw := (wd_2 u1 u2); simp [ex, ctl, tk, hw, ccall, rcv, aA]
theorem x_79_3_11_d3 {v1 v2 u1 u2 u3 : AV} {k : Nat} : ex E C ((79, 11, b, 3) :: L) σ [v2, v1, aA 11 k, u1, u2, u3] h = cbind (C b [aA 11 k, v1, v2] h) (fun v h2 => ex E C L σ (psh v [u1, u2, u3]) h2) (onTh E σ none) := by have hw := (wd_3 u1 u2 u3); simp [ex, ctl, tk, hw, ccall, rcv, aA]
theorem x_79_3_11_d4 {v1 v2 u1 u2 u3 u4 : AV} {k : Nat} : ex E C ((79, 11, b, 3) :: L) σ [v2, v1, aA 11 k, u1, u2, u3, u4] h = cbind (C b [aA 11 k, v1, v2] h) (fun v h2 => ex E C L σ (psh v [u1, u2, u3, u4]) h2) (onTh E σ none) := by have hw := (wd_4 u1 u2 u3 u4); simp [ex, ctl, tk, hw, ccall, rcv, aA]
theorem x_79_6_11_d0 {v1 v2 v3 v4 v5 : AV} {k : Nat} : ex E C ((79, 11, b, 6) :: L) σ [v5, v4, v3, v2, v1, aA 11 k] h = cbind (C b [aA 11 k, v1, v2, v3, v4, v5] h) (fun v h2 => ex E C L σ (psh v []) h2) (onTh E σ none) := by have hw := (by simp [wd] : wd ([] : List AV) ≤ 8); simp [ex, ctl, tk, hw, ccall, rcv, aA]
theorem x_79_6_11_d1 {v1 v2 v3 v4 v5 u1 : AV} {k : Nat} : ex E C ((79, 11, b, 6) :: L) σ [v5, v4, v3, v2, v1, aA 11 k, u1] h = cbind (C b [aA 11 k, v1, v2, v3, v4, v5] h) (fun v h2 => ex E C L σ (psh v [u1]) h2) (onTh E σ none) := by have hw := (wd_1 u1); simp [ex, ctl, tk, hw, ccall, rcv, aA]
theorem x_79_6_11_d2 {v1 v2 v3 v4 v5 u1 u2 : AV} {k : Nat} : ex E C ((79, 11, b, 6) :: L) σ [v5, v4, v3, v2, v1, aA 11 k, u1, u2] h = cbind (C b [aA 11 k, v1, v2, v3, v4, v5] h) (fun v h2 => ex E C L σ (psh v [u1, u2]) h2) (onTh E σ none) := by have hw := (wd_2 u1 u2); simp [ex, ctl, tk, hw, ccall, rcv, aA]
theorem x_79_6_11_d3 {v1 v2 v3 v4 v5 u1 u2 u3 : AV} {k : Nat} : ex E C ((79, 11, b, 6) :: L) σ [v5, v4, v3, v2, v1, aA 11 k, u1, u2, u3] h = cbind (C b [aA 11 k, v1, v2, v3, v4, v5] h) (fun v h2 => ex E C L σ (psh v [u1, u2, u3]) h2) (onTh E σ none) := by have hw := (wd_3 u1 u2 u3); simp [ex, ctl, tk, hw, ccall, rcv, aA]
theorem x_79_6_11_d4 {v1 v2 v3 v4 v5 u1 u2 u3 u4 : AV} {k : Nat} : ex E C ((79, 11, b, 6) :: L) σ [v5, v4, v3, v2, v1, aA 11 k, u1, u2, u3, u4] h = cbind (C b [aA 11 k, v1, v2, v3, v4, v5] h) (fun v h2 => ex E C L σ (psh v [u1, u2, u3, u4]) h2) (onTh E σ none) := by have hw := (wd_4 u1 u2 u3 u4); simp [ex, ctl, tk, hw, ccall, rcv, aA]
theorem x_79_1_12_d0  {k : Nat} : ex E C ((79, 12, b, 1) :: L) σ [aA 12 k] h = cbind (C b [aA 12 k] h) (fun v h2 => ex E C L σ (psh v []) h2) (onTh E σ none) := by have hw := (by simp [wd] : wd ([] : List AV) ≤ 8); simp [ex, ctl, tk, hw, ccall, rcv, aA]
theorem x_79_1_12_d1 {u1 : AV} {k : Nat} : ex E C ((79, 12, b, 1) :: L) σ [aA 12 k, u1] h = cbind (C b [aA 12 k] h) (fun v h2 => ex E C L σ (psh v [u1]) h2) (onTh E σ none) := by have hw := (wd_1 u1); simp [ex, ctl, tk, hw, ccall, rcv, aA]
theorem x_79_1_12_d2 {u1 u2 : AV} {k : Nat} : ex E C ((79, 12, b, 1) :: L) σ [aA 12 k, u1, u2] h = cbind (C b [aA 12 k] h) (fun v h2 => ex E C L σ (psh v [u1, u2]) h2) (onTh E σ none) := by have hw := (wd_2 u1 u2); simp [ex, ctl, tk, hw, ccall, rcv, aA]
theorem x_79_1_12_d3 {u1 u2 u3 : AV} {k : Nat} : ex E C ((79, 12, b, 1) :: L) σ [aA 12 k, u1, u2, u3] h = cbind (C b [aA 12 k] h) (fun v h2 => ex E C L σ (psh v [u1, u2, u3]) h2) (onTh E σ none) := by have hw := (wd_3 u1 u2 u3); simp [ex, ctl, tk, hw, ccall, rcv, aA]
theorem x_79_1_12_d4 {u1 u2 u3 u4 : AV} {k : Nat} : ex E C ((79, 12, b, 1) :: L) σ [aA 12 k, u1, u2, u3, u4] h = cbind (C b [aA 12 k] h) (fun v h2 => ex E C L σ (psh v [u1, u2, u3, u4]) h2) (onTh E σ none) := by have hw := (wd_4 u1 u2 u3 u4); simp [ex, ctl, tk, hw, ccall, rcv, aA]
theorem x_79_2_12_d0 {v1 : AV} {k : Nat} : ex E C ((79, 12, b, 2) :: L) σ [v1, aA 12 k] h = cbind (C b [aA 12 k, v1] h) (fun v h2 => ex E C L σ (psh v []) h2) (onTh E σ none) := by have hw := (by simp [wd] : wd ([] : List AV) ≤ 8); simp [ex, ctl, tk, hw, ccall, rcv, aA]
theorem x_79_2_12_d1 {v1 u1 : AV} {k : Nat} : ex E C ((79, 12, b, 2) :: L) σ [v1, aA 12 k, u1] h = cbind (C b [aA 12 k, v1] h) (fun v h2 => ex E C L σ (psh v [u1]) h2) (onTh E σ none) := by have hw := (wd_1 u1); simp [ex, ctl, tk, hw, ccall, rcv, aA]
theorem x_79_2_12_d2 {v1 u1 u2 : AV} {k : Nat} : ex E C ((79, 12, b, 2) :: L) σ [v1, aA 12 k, u1, u2] h = cbind (C b [aA 12 k, v1] h) (fun v h2 => ex E C L σ (psh v [u1, u2]) h2) (onTh E σ none) := by have hw := (wd_2 u1 u2); simp [ex, ctl, tk, hw, ccall, rcv, aA]
theorem x_79_2_12_d3 {v1 u1 u2 u3 : AV} {k : Nat} : ex E C ((79, 12, b, 2) :: L) σ [v1, aA 12 k, u1, u2, u3] h = cbind (C b [aA 12 k, v1] h) (fun v h2 => ex E C L σ (psh v [u1, u2, u3]) h2) (onTh E σ none) := by have hw := (wd_3 u1 u2 u3); simp [ex, ctl, tk, hw, ccall, rcv, aA]
theorem x_79_2_12_d4 {v1 u1 u2 u3 u4 : AV} {k : Nat} : ex E C ((79, 12, b, 2) :: L) σ [v1, aA 12 k, u1, u2, u3, u4] h = cbind (C b [aA 12 k, v1] h) (fun v h2 => ex E C L σ (psh v [u1, u2, u3, u4]) h2) (onTh E σ none) := by have hw := (wd_4 u1 u2 u3 u4); simp [ex, ctl, tk, hw, ccall, rcv, aA]
theorem x_79_3_12_d0 {v1 v2 : AV} {k : Nat} : ex E C ((79, 12, b, 3) :: L) σ [v2, v1, aA 12 k] h = cbind (C b [aA 12 k, v1, v2] h) (fun v h2 => ex E C L σ (psh v []) h2) (onTh E σ none) := by have hw := (by simp [wd] : wd ([] : List AV) ≤ 8); simp [ex, ctl, tk, hw, ccall, rcv, aA]
theorem x_79_3_12_d1 {v1 v2 u1 : AV} {k : Nat} : ex E C ((79, 12, b, 3) :: L) σ [v2, v1, aA 12 k, u1] h = cbind (C b [aA 12 k, v1, v2] h) (fun v h2 => ex E C L σ (psh v [u1]) h2) (onTh E σ none) := by have hw := (wd_1 u1); simp [ex, ctl, tk, hw, ccall, rcv, aA]
theorem x_79_3_12_d2 {v1 v2 u1 u2 : AV} {k : Nat} : ex E C ((79, 12, b, 3) :: L) σ [v2, v1, aA 12 k, u1, u2] h = cbind (C b [aA 12 k, v1, v2] h) (fun v h2 => ex E C L σ (psh v [u1, u2]) h2) (onTh E σ none) := by have hw := (wd_2 u1 u2); simp [ex, ctl, tk, hw, ccall, rcv, aA]
theorem x_79_3_12_d3 {v1 v2 u1 u2 u3 : AV} {k : Nat} : ex E C ((79, 12, b, 3) :: L) σ [v2, v1, aA 12 k, u1, u2, u3] h = cbind (C b [aA 12 k, v1, v2] h) (fun v h2 => ex E C L σ (psh v [u1, u2, u3]) h2) (onTh E σ none) := by have hw := (wd_3 u1 u2 u3); simp [ex, ctl, tk, hw, ccall, rcv, aA]
theorem x_79_3_12_d4 {v1 v2 u1 u2 u3 u4 : AV} {k : Nat} : ex E C ((79, 12, b, 3) :: L) σ [v2, v1, aA 12 k, u1, u2, u3, u4] h = cbind (C b [aA 12 k, v1, v2] h) (fun v h2 => ex E C L σ (psh v [u1, u2, u3, u4]) h2) (onTh E σ none) := by have hw := (wd_4 u1 u2 u3 u4); simp [ex, ctl, tk, hw, ccall, rcv, aA]
theorem x_79_4_12_d0 {v1 v2 v3 : AV} {k : Nat} : ex E C ((79, 12, b, 4) :: L) σ [v3, v2, v1, aA 12 k] h = cbind (C b [aA 12 k, v1, v2, v3] h) (fun v h2 => ex E C L σ (psh v []) h2) (onTh E σ none) := by have hw := (by simp [wd] : wd ([] : List AV) ≤ 8); simp [ex, ctl, tk, hw, ccall, rcv, aA]
theorem x_79_4_12_d1 {v1 v2 v3 u1 : AV} {k : Nat} : ex E C ((79, 12, b, 4) :: L) σ [v3, v2, v1, aA 12 k, u1] h = cbind (C b [aA 12 k, v1, v2, v3] h) (fun v h2 => ex E C L σ (psh v [u1]) h2) (onTh E σ none) := by have hw := (wd_1 u1); simp [ex, ctl, tk, hw, ccall, rcv, aA]
theorem x_79_4_12_d2 {v1 v2 v3 u1 u2 : AV} {k : Nat} : ex E C ((79, 12, b, 4) :: L) σ [v3, v2, v1, aA 12 k, u1, u2] h = cbind (C b [aA 12 k, v1, v2, v3] h) (fun v h2 => ex E C L σ (psh v [u1, u2]) h2) (onTh E σ none) := by have hw := (wd_2 u1 u2); simp [ex, ctl, tk, hw, ccall, rcv, aA]
theorem x_79_4_12_d3 {v1 v2 v3 u1 u2 u3 : AV} {k : Nat} : ex E C ((79, 12, b, 4) :: L) σ [v3, v2, v1, aA 12 k, u1, u2, u3] h = cbind (C b [aA 12 k, v1, v2, v3] h) (fun v h2 => ex E C L σ (psh v [u1, u2, u3]) h2) (onTh E σ none) := by have hw := (wd_3 u1 u2 u3); simp [ex, ctl, tk, hw, ccall, rcv, aA]
theorem x_79_4_12_d4 {v1 v2 v3 u1 u2 u3 u4 : AV} {k : Nat} : ex E C ((79, 12, b, 4) :: L) σ [v3, v2, v1, aA 12 k, u1, u2, u3, u4] h = cbind (C b [aA 12 k, v1, v2, v3] h) (fun v h2 => ex E C L σ (psh v [u1, u2, u3, u4]) h2) (onTh E σ none) := by have hw := (wd_4 u1 u2 u3 u4); simp [ex, ctl, tk, hw, ccall, rcv, aA]
theorem x_79_6_12_d0 {v1 v2 v3 v4 v5 : AV} {k : Nat} : ex E C ((79, 12, b, 6) :: L) σ [v5, v4, v3, v2, v1, aA 12 k] h = cbind (C b [aA 12 k, v1, v2, v3, v4, v5] h) (fun v h2 => ex E C L σ (psh v []) h2) (onTh E σ none) := by have hw := (by simp [wd] : wd ([] : List AV) ≤ 8); simp [ex, ctl, tk, hw, ccall, rcv, aA]
theorem x_79_6_12_d1 {v1 v2 v3 v4 v5 u1 : AV} {k : Nat} : ex E C ((79, 12, b, 6) :: L) σ [v5, v4, v3, v2, v1, aA 12 k, u1] h = cbind (C b [aA 12 k, v1, v2, v3, v4, v5] h) (fun v h2 => ex E C L σ (psh v [u1]) h2) (onTh E σ none) := by have hw := (wd_1 u1); simp [ex, ctl, tk, hw, ccall, rcv, aA]
theorem x_79_6_12_d2 {v1 v2 v3 v4 v5 u1 u2 : AV} {k : Nat} : ex E C ((79, 12, b, 6) :: L) σ [v5, v4, v3, v2, v1, aA 12 k, u1, u2] h = cbind (C b [aA 12 k, v1, v2, v3, v4, v5] h) (fun v h2 => ex E C L σ (psh v [u1, u2]) h2) (onTh E σ none) := by have hw := (wd_2 u1 u2); simp [ex, ctl, tk, hw, ccall, rcv, aA]
theorem x_79_6_12_d3 {v1 v2 v3 v4 v5 u1 u2 u3 : AV} {k : Nat} : ex E C ((79, 12, b, 6) :: L) σ [v5, v4, v3, v2, v1, aA 12 k, u1, u2, u3] h = cbind (C b [aA 12 k, v1, v2, v3, v4, v5] h) (fun v h2 => ex E C L σ (psh v [u1, u2, u3]) h2) (onTh E σ none) := by have hw := (wd_3 u1 u2 u3); simp [ex, ctl, tk, hw, ccall, rcv, aA]
theorem x_79_6_12_d4 {v1 v2 v3 v4 v5 u1 u2 u3 u4 : AV} {k : Nat} : ex E C ((79, 12, b, 6) :: L) σ [v5, v4, v3, v2, v1, aA 12 k, u1, u2, u3, u4] h = cbind (C b [aA 12 k, v1, v2, v3, v4, v5] h) (fun v h2 => ex E C L σ (psh v [u1, u2, u3, u4]) h2) (onTh E σ none) := by have hw := (wd_4 u1 u2 u3 u4); simp [ex, ctl, tk, hw, ccall, rcv, aA]
theorem x_79_1_20_d0  {k : Nat} : ex E C ((79, 20, b, 1) :: L) σ [aA 20 k] h = cbind (C b [aA 20 k] h) (fun v h2 => ex E C L σ (psh v []) h2) (onTh E σ none) := by have hw := (by simp [wd] : wd ([] : List AV) ≤ 8); simp [ex, ctl, tk, hw, ccall, rcv, aA]
theorem x_79_1_20_d1 {u1 : AV} {k : Nat} : ex E C ((79, 20, b, 1) :: L) σ [aA 20 k, u1] h = cbind (C b [aA 20 k] h) (fun v h2 => ex E C L σ (psh v [u1]) h2) (onTh E σ none) := by have hw := (wd_1 u1); simp [ex, ctl, tk, hw, ccall, rcv, aA]
theorem x_79_1_20_d2 {u1 u2 : AV} {k : Nat} : ex E C ((79, 20, b, 1) :: L) σ [aA 20 k, u1, u2] h = cbind (C b [aA 20 k] h) (fun v h2 => ex E C L σ (psh v [u1, u2]) h2) (onTh E σ none) := by have hw := (wd_2 u1 u2); simp [ex, ctl, tk, hw, ccall, rcv, aA]
theorem x_79_1_20_d3 {u1 u2 u3 : AV} {k : Nat} : ex E C ((79, 20, b, 1) :: L) σ [aA 20 k, u1, u2, u3] h = cbind (C b [aA 20 k] h) (fun v h2 => ex E C L σ (psh v [u1, u2, u3]) h2) (onTh E σ none) := by have hw := (wd_3 u1 u2 u3); simp [ex, ctl, tk, hw, ccall, rcv, aA]
theorem x_79_1_20_d4 {u1 u2 u3 u4 : AV} {k : Nat} : ex E C ((79, 20, b, 1) :: L) σ [aA 20 k, u1, u2, u3, u4] h = cbind (C b [aA 20 k] h) (fun v h2 => ex E C L σ (psh v [u1, u2, u3, u4]) h2) (onTh E σ none) := by have hw := (wd_4 u1 u2 u3 u4); simp [ex, ctl, tk, hw, ccall, rcv, aA]
theorem x_79_2_20_d0 {v1 : AV} {k : Nat} : ex E C ((79, 20, b, 2) :: L) σ [v1, aA 20 k] h = cbind (C b [aA 20 k, v1] h) (fun v h2 => ex E C L σ (psh v []) h2) (onTh E σ none) := by have hw := (by simp [wd] : wd ([] : List AV) ≤ 8); simp [ex, ctl, tk, hw, ccall, rcv, aA]
theorem x_79_2_20_d1 {v1 u1 : AV} {k : Nat} : ex E C ((79, 20, b, 2) :: L) σ [v1, aA 20 k, u1] h = cbind (C b [aA 20 k, v1] h) (fun v h2 => ex E C L σ (psh v [u1]) h2) (onTh E σ none) := by have hw := (wd_1 u1); simp [ex, ctl, tk, hw, ccall, rcv, aA]
theorem x_79_2_20_d2 {v1 u1 u2 : AV} {k : Nat} : ex E C ((79, 20, b, 2) :: L) σ [v1, aA 20 k, u1, u2] h = cbind (C b [aA 20 k, v1] h) (fun v h2 => ex E C L σ (psh v [u1, u2]) h2) (onTh E σ none) := by have hw := (wd_2 u1 u2); simp [ex, ctl, tk, hw, ccall, rcv, aA]
theorem x_79_2_20_d3 {v1 u1 u2 u3 : AV} {k : Nat} : ex E C ((79, 20, b, 2) :: L) σ [v1, aA 20 k, u1, u2, u3] h = cbind (C b [aA 20 k, v1] h) (fun v h2 => ex E C L σ (psh v [u1, u2, u3]) h2) (onTh E σ none) := by have hw := (wd_3 u1 u2 u3); simp [ex, ctl, tk, hw, ccall, rcv, aA]
theorem x_79_2_20_d4 {v1 u1 u2 u3 u4 : AV} {k : Nat} : ex E C ((79, 20, b, 2) :: L) σ [v1, aA 20 k, u1, u2, u3, u4] h = cbind (C b [aA 20 k, v1] h) (fun v h2 => ex E C L σ (psh v [u1, u2, u3, u4]) h2) (onTh E σ none) := by have hw := (wd_4 u1 u2 u3 u4); simp [ex, ctl, tk, hw, ccall, rcv, aA]
theorem x_80_1_d0 {v0 : AV} : ex E C ((80, a, b, 1) :: L) σ [v0] h = cbind (C b [v0] h) (fun v h2 => ex E C L σ (psh v []) h2) (onTh E σ none) := by have hw := (by simp [wd] : wd ([] : List AV) ≤ 8); simp [ex, ctl, tk, hw, ccall]
theorem x_80_1_d1 {v0 u1 : AV} : ex E C ((80, a, b, 1) :: L) σ [v0, u1] h = cbind (C b [v0] h) (fun v h2 => ex E C L σ (psh v [u1]) h2) (onTh E σ none) := by have hw := (wd_1 u1); simp [ex, ctl, tk, hw, ccall]
theorem x_80_1_d2 {v0 u1 u2 : AV} : ex E C ((80, a, b, 1) :: L) σ [v0, u1, u2] h = cbind (C b [v0] h) (fun v h2 => ex E C L σ (psh v [u1, u2]) h2) (onTh E σ none) := by have hw := (wd_2 u1 u2); simp [ex, ctl, tk, hw, ccall]
theorem x_80_1_d3 {v0 u1 u2 u3 : AV} : ex E C ((80, a, b, 1) :: L) σ [v0, u1, u2, u3] h = cbind (C b [v0] h) (fun v h2 => ex E C L σ (psh v [u1, u2, u3]) h2) (onTh E σ none) := by have hw := (wd_3 u1 u2 u3); simp [ex, ctl, tk, hw, ccall]
theorem x_80_1_d4 {v0 u1 u2 u3 u4 : AV} : ex E C ((80, a, b, 1) :: L) σ [v0, u1, u2, u3, u4] h = cbind (C b [v0] h) (fun v h2 => ex E C L σ (psh v [u1, u2, u3, u4]) h2) (onTh E σ none) := by have hw := (wd_4 u1 u2 u3 u4); simp [ex, ctl, tk, hw, ccall]
theorem x_80_2_d0 {v0 v1 : AV} : ex E C ((80, a, b, 2) :: L) σ [v1, v0] h = cbind (C b [v0, v1] h) (fun v h2 => ex E C L σ (psh v []) h2) (onTh E σ none) := by have hw := (by simp [wd] : wd ([] : List AV) ≤ 8); simp [ex, ctl, tk, hw, ccall]
theorem x_80_2_d1 {v0 v1 u1 : AV} : ex E C ((80, a, b, 2) :: L) σ [v1, v0, u1] h = cbind (C b [v0, v1] h) (fun v h2 => ex E C L σ (psh v [u1]) h2) (onTh E σ none) := by have hw := (wd_1 u1); simp [ex, ctl, tk, hw, ccall]
theorem x_80_2_d2 {v0 v1 u1 u2 : AV} : ex E C ((80, a, b, 2) :: L) σ [v1, v0, u1, u2] h = cbind (C b [v0, v1] h) (fun v h2 => ex E C L σ (psh v [u1, u2]) h2) (onTh E σ none) := by have hw := (wd_2 u1 u2); simp [ex, ctl, tk, hw, ccall]
theorem x_80_2_d3 {v0 v1 u1 u2 u3 : AV} : ex E C ((80, a, b, 2) :: L) σ [v1, v0, u1, u2, u3] h = cbind (C b [v0, v1] h) (fun v h2 => ex E C L σ (psh v [u1, u2, u3]) h2) (onTh E σ none) := by have hw := (wd_3 u1 u2 u3); simp [ex, ctl, tk, hw, ccall]
theorem x_80_2_d4 {v0 v1 u1 u2 u3 u4 : AV} : ex E C ((80, a, b, 2) :: L) σ [v1, v0, u1, u2, u3, u4] h = cbind (C b [v0, v1] h) (fun v h2 => ex E C L σ (psh v [u1, u2, u3, u4]) h2) (onTh E σ none) := by have hw := (wd_4 u1 u2 u3 u4); simp [ex, ctl, tk, hw, ccall]
theorem x_80_3_d0 {v0 v1 v2 : AV} : ex E C ((80, a, b, 3) :: L) σ [v2, v1, v0] h = cbind (C b [v0, v1, v2] h) (fun v h2 => ex E C L σ (psh v []) h2) (onTh E σ none) := by have hw := (by simp [wd] : wd ([] : List AV) ≤ 8); simp [ex, ctl, tk, hw, ccall]
theorem x_80_3_d1 {v0 v1 v2 u1 : AV} : ex E C ((80, a, b, 3) :: L) σ [v2, v1, v0, u1] h = cbind (C b [v0, v1, v2] h) (fun v h2 => ex E C L σ (psh v [u1]) h2) (onTh E σ none) := by have hw := (wd_1 u1); simp [ex, ctl, tk, hw, ccall]
theorem x_80_3_d2 {v0 v1 v2 u1 u2 : AV} : ex E C ((80, a, b, 3) :: L) σ [v2, v1, v0, u1, u2] h = cbind (C b [v0, v1, v2] h) (fun v h2 => ex E C L σ (psh v [u1, u2]) h2) (onTh E σ none) := by have hw := (wd_2 u1 u2); simp [ex, ctl, tk, hw, ccall]
theorem x_80_3_d3 {v0 v1 v2 u1 u2 u3 : AV} : ex E C ((80, a, b, 3) :: L) σ [v2, v1, v0, u1, u2, u3] h = cbind (C b [v0, v1, v2] h) (fun v h2 => ex E C L σ (psh v [u1, u2, u3]) h2) (onTh E σ none) := by have hw := (wd_3 u1 u2 u3); simp [ex, ctl, tk, hw, ccall]
theorem x_80_3_d4 {v0 v1 v2 u1 u2 u3 u4 : AV} : ex E C ((80, a, b, 3) :: L) σ [v2, v1, v0, u1, u2, u3, u4] h = cbind (C b [v0, v1, v2] h) (fun v h2 => ex E C L σ (psh v [u1, u2, u3, u4]) h2) (onTh E σ none) := by have hw := (wd_4 u1 u2 u3 u4); simp [ex, ctl, tk, hw, ccall]
theorem x_80_4_d0 {v0 v1 v2 v3 : AV} : ex E C ((80, a, b, 4) :: L) σ [v3, v2, v1, v0] h = cbind (C b [v0, v1, v2, v3] h) (fun v h2 => ex E C L σ (psh v []) h2) (onTh E σ none) := by have hw := (by simp [wd] : wd ([] : List AV) ≤ 8); simp [ex, ctl, tk, hw, ccall]
theorem x_80_4_d1 {v0 v1 v2 v3 u1 : AV} : ex E C ((80, a, b, 4) :: L) σ [v3, v2, v1, v0, u1] h = cbind (C b [v0, v1, v2, v3] h) (fun v h2 => ex E C L σ (psh v [u1]) h2) (onTh E σ none) := by have hw := (wd_1 u1); simp [ex, ctl, tk, hw, ccall]
theorem x_80_4_d2 {v0 v1 v2 v3 u1 u2 : AV} : ex E C ((80, a, b, 4) :: L) σ [v3, v2, v1, v0, u1, u2] h = cbind (C b [v0, v1, v2, v3] h) (fun v h2 => ex E C L σ (psh v [u1, u2]) h2) (onTh E σ none) := by have hw := (wd_2 u1 u2); simp [ex, ctl, tk, hw, ccall]
theorem x_80_4_d3 {v0 v1 v2 v3 u1 u2 u3 : AV} : ex E C ((80, a, b, 4) :: L) σ [v3, v2, v1, v0, u1, u2, u3] h = cbind (C b [v0, v1, v2, v3] h) (fun v h2 => ex E C L σ (psh v [u1, u2, u3]) h2) (onTh E σ none) := by have hw := (wd_3 u1 u2 u3); simp [ex, ctl, tk, hw, ccall]
theorem x_80_4_d4 {v0 v1 v2 v3 u1 u2 u3 u4 : AV} : ex E C ((80, a, b, 4) :: L) σ [v3, v2, v1, v0, u1, u2, u3, u4] h = cbind (C b [v0, v1, v2, v3] h) (fun v h2 => ex E C L σ (psh v [u1, u2, u3, u4]) h2) (onTh E σ none) := by have hw := (wd_4 u1 u2 u3 u4); simp [ex, ctl, tk, hw, ccall]
theorem x_80_5_d0 {v0 v1 v2 v3 v4 : AV} : ex E C ((80, a, b, 5) :: L) σ [v4, v3, v2, v1, v0] h = cbind (C b [v0, v1, v2, v3, v4] h) (fun v h2 => ex E C L σ (psh v []) h2) (onTh E σ none) := by have hw := (by simp [wd] : wd ([] : List AV) ≤ 8); simp [ex, ctl, tk, hw, ccall]
theorem x_80_5_d1 {v0 v1 v2 v3 v4 u1 : AV} : ex E C ((80, a, b, 5) :: L) σ [v4, v3, v2, v1, v0, u1] h = cbind (C b [v0, v1, v2, v3, v4] h) (fun v h2 => ex E C L σ (psh v [u1]) h2) (onTh E σ none) := by have hw := (wd_1 u1); simp [ex, ctl, tk, hw, ccall]
theorem x_80_5_d2 {v0 v1 v2 v3 v4 u1 u2 : AV} : ex E C ((80, a, b, 5) :: L) σ [v4, v3, v2, v1, v0, u1, u2] h = cbind (C b [v0, v1, v2, v3, v4] h) (fun v h2 => ex E C L σ (psh v [u1, u2]) h2) (onTh E σ none) := by have hw := (wd_2 u1 u2); simp [ex, ctl, tk, hw, ccall]
theorem x_80_5_d3 {v0 v1 v2 v3 v4 u1 u2 u3 : AV} : ex E C ((80, a, b, 5) :: L) σ [v4, v3, v2, v1, v0, u1, u2, u3] h = cbind (C b [v0, v1, v2, v3, v4] h) (fun v h2 => ex E C L σ (psh v [u1, u2, u3]) h2) (onTh E σ none) := by have hw := (wd_3 u1 u2 u3); simp [ex, ctl, tk, hw, ccall]
theorem x_80_5_d4 {v0 v1 v2 v3 v4 u1 u2 u3 u4 : AV} : ex E C ((80, a, b, 5) :: L) σ [v4, v3, v2, v1, v0, u1, u2, u3, u4] h = cbind (C b [v0, v1, v2, v3, v4] h) (fun v h2 => ex E C L σ (psh v [u1, u2, u3, u4]) h2) (onTh E σ none) := by have hw := (wd_4 u1 u2 u3 u4); simp [ex, ctl, tk, hw, ccall]
theorem x_81_1_d0  {k : Nat} : ex E C ((81, a, b, 1) :: L) σ [aA 11 k] h = cbind (C b [aA 11 k] h) (fun v h2 => ex E C L σ (psh v []) h2) (onTh E σ (some (hTab a.toNat))) := by have hw := (by simp [wd] : wd ([] : List AV) ≤ 8); simp [ex, ctl, tk, hw, ccall, rcv, aA]
theorem x_81_1_d1 {u1 : AV} {k : Nat} : ex E C ((81, a, b, 1) :: L) σ [aA 11 k, u1] h = cbind (C b [aA 11 k] h) (fun v h2 => ex E C L σ (psh v [u1]) h2) (onTh E σ (some (hTab a.toNat))) := by have hw := (wd_1 u1); simp [ex, ctl, tk, hw, ccall, rcv, aA]
theorem x_81_1_d2 {u1 u2 : AV} {k : Nat} : ex E C ((81, a, b, 1) :: L) σ [aA 11 k, u1, u2] h = cbind (C b [aA 11 k] h) (fun v h2 => ex E C L σ (psh v [u1, u2]) h2) (onTh E σ (some (hTab a.toNat))) := by have hw := (wd_2 u1 u2); simp [ex, ctl, tk, hw, ccall, rcv, aA]
theorem x_81_1_d3 {u1 u2 u3 : AV} {k : Nat} : ex E C ((81, a, b, 1) :: L) σ [aA 11 k, u1, u2, u3] h = cbind (C b [aA 11 k] h) (fun v h2 => ex E C L σ (psh v [u1, u2, u3]) h2) (onTh E σ (some (hTab a.toNat))) := by have hw := (wd_3 u1 u2 u3); simp [ex, ctl, tk, hw, ccall, rcv, aA]
theorem x_81_1_d4 {u1 u2 u3 u4 : AV} {k : Nat} : ex E C ((81, a, b, 1) :: L) σ [aA 11 k, u1, u2, u3, u4] h = cbind (C b [aA 11 k] h) (fun v h2 => ex E C L σ (psh v [u1, u2, u3, u4]) h2) (onTh E σ (some (hTab a.toNat))) := by have hw := (wd_4 u1 u2 u3 u4); simp [ex, ctl, tk, hw, ccall, rcv, aA]
theorem x_81_2_d0 {v1 : AV} {k : Nat} : ex E C ((81, a, b, 2) :: L) σ [v1, aA 11 k] h = cbind (C b [aA 11 k, v1] h) (fun v h2 => ex E C L σ (psh v []) h2) (onTh E σ (some (hTab a.toNat))) := by have hw := (by simp [wd] : wd ([] : List AV) ≤ 8); simp [ex, ctl, tk, hw, ccall, rcv, aA]
theorem x_81_2_d1 {v1 u1 : AV} {k : Nat} : ex E C ((81, a, b, 2) :: L) σ [v1, aA 11 k, u1] h = cbind (C b [aA 11 k, v1] h) (fun v h2 => ex E C L σ (psh v [u1]) h2) (onTh E σ (some (hTab a.toNat))) := by have hw := (wd_1 u1); simp [ex, ctl, tk, hw, ccall, rcv, aA]
theorem x_81_2_d2 {v1 u1 u2 : AV} {k : Nat} : ex E C ((81, a, b, 2) :: L) σ [v1, aA 11 k, u1, u2] h = cbind (C b [aA 11 k, v1] h) (fun v h2 => ex E C L σ (psh v [u1, u2]) h2) (onTh E σ (some (hTab a.toNat))) := by have hw := (wd_2 u1 u2); simp [ex, ctl, tk, hw, ccall, rcv, aA]
theorem x_81_2_d3 {v1 u1 u2 u3 : AV} {k : Nat} : ex E C ((81, a, b, 2) :: L) σ [v1, aA 11 k, u1, u2, u3] h = cbind (C b [aA 11 k, v1] h) (fun v h2 => ex E C L σ (psh v [u1, u2, u3]) h2) (onTh E σ (some (hTab a.toNat))) := by have hw := (wd_3 u1 u2 u3); simp [ex, ctl, tk, hw, ccall, rcv, aA]
theorem x_81_2_d4 {v1 u1 u2 u3 u4 : AV} {k : Nat} : ex E C ((81, a, b, 2) :: L) σ [v1, aA 11 k, u1, u2, u3, u4] h = cbind (C b [aA 11 k, v1] h) (fun v h2 => ex E C L σ (psh v [u1, u2, u3, u4]) h2) (onTh E σ (some (hTab a.toNat))) := by have hw := (wd_4 u1 u2 u3 u4); simp [ex, ctl, tk, hw, ccall, rcv, aA]
theorem x_81_3_d0 {v1 v2 : AV} {k : Nat} : ex E C ((81, a, b, 3) :: L) σ [v2, v1, aA 11 k] h = cbind (C b [aA 11 k, v1, v2] h) (fun v h2 => ex E C L σ (psh v []) h2) (onTh E σ (some (hTab a.toNat))) := by have hw := (by simp [wd] : wd ([] : List AV) ≤ 8); simp [ex, ctl, tk, hw, ccall, rcv, aA]
theorem x_81_3_d1 {v1 v2 u1 : AV} {k : Nat} : ex E C ((81, a, b, 3) :: L) σ [v2, v1, aA 11 k, u1] h = cbind (C b [aA 11 k, v1, v2] h) (fun v h2 => ex E C L σ (psh v [u1]) h2) (onTh E σ (some (hTab a.toNat))) := by have hw := (wd_1 u1); simp [ex, ctl, tk, hw, ccall, rcv, aA]
theorem x_81_3_d2 {v1 v2 u1 u2 : AV} {k : Nat} : ex E C ((81, a, b, 3) :: L) σ [v2, v1, aA 11 k, u1, u2] h = cbind (C b [aA 11 k, v1, v2] h) (fun v h2 => ex E C L σ (psh v [u1, u2]) h2) (onTh E σ (some (hTab a.toNat))) := by have hw := (wd_2 u1 u2); simp [ex, ctl, tk, hw, ccall, rcv, aA]
theorem x_81_3_d3 {v1 v2 u1 u2 u3 : AV} {k : Nat} : ex E C ((81, a, b, 3) :: L) σ [v2, v1, aA 11 k, u1, u2, u3] h = cbind (C b [aA 11 k, v1, v2] h) (fun v h2 => ex E C L σ (psh v [u1, u2, u3]) h2) (onTh E σ (some (hTab a.toNat))) := by have hw := (wd_3 u1 u2 u3); simp [ex, ctl, tk, hw, ccall, rcv, aA]
theorem x_81_3_d4 {v1 v2 u1 u2 u3 u4 : AV} {k : Nat} : ex E C ((81, a, b, 3) :: L) σ [v2, v1, aA 11 k, u1, u2, u3, u4] h = cbind (C b [aA 11 k, v1, v2] h) (fun v h2 => ex E C L σ (psh v [u1, u2, u3, u4]) h2) (onTh E σ (some (hTab a.toNat))) := by have hw := (wd_4 u1 u2 u3 u4); simp [ex, ctl, tk, hw, ccall, rcv, aA]
theorem x_81_4_d0 {v1 v2 v3 : AV} {k : Nat} : ex E C ((81, a, b, 4) :: L) σ [v3, v2, v1, aA 11 k] h = cbind (C b [aA 11 k, v1, v2, v3] h) (fun v h2 => ex E C L σ (psh v []) h2) (onTh E σ (some (hTab a.toNat))) := by have hw := (by simp [wd] : wd ([] : List AV) ≤ 8); simp [ex, ctl, tk, hw, ccall, rcv, aA]
theorem x_81_4_d1 {v1 v2 v3 u1 : AV} {k : Nat} : ex E C ((81, a, b, 4) :: L) σ [v3, v2, v1, aA 11 k, u1] h = cbind (C b [aA 11 k, v1, v2, v3] h) (fun v h2 => ex E C L σ (psh v [u1]) h2) (onTh E σ (some (hTab a.toNat))) := by have hw := (wd_1 u1); simp [ex, ctl, tk, hw, ccall, rcv, aA]
theorem x_81_4_d2 {v1 v2 v3 u1 u2 : AV} {k : Nat} : ex E C ((81, a, b, 4) :: L) σ [v3, v2, v1, aA 11 k, u1, u2] h = cbind (C b [aA 11 k, v1, v2, v3] h) (fun v h2 => ex E C L σ (psh v [u1, u2]) h2) (onTh E σ (some (hTab a.toNat))) := by have hw := (wd_2 u1 u2); simp [ex, ctl, tk, hw, ccall, rcv, aA]
theorem x_81_4_d3 {v1 v2 v3 u1 u2 u3 : AV} {k : Nat} : ex E C ((81, a, b, 4) :: L) σ [v3, v2, v1, aA 11 k, u1, u2, u3] h = cbind (C b [aA 11 k, v1, v2, v3] h) (fun v h2 => ex E C L σ (psh v [u1, u2, u3]) h2) (onTh E σ (some (hTab a.toNat))) := by have hw := (wd_3 u1 u2 u3); simp [ex, ctl, tk, hw, ccall, rcv, aA]
theorem x_81_4_d4 {v1 v2 v3 u1 u2 u3 u4 : AV} {k : Nat} : ex E C ((81, a, b, 4) :: L) σ [v3, v2, v1, aA 11 k, u1, u2, u3, u4] h = cbind (C b [aA 11 k, v1, v2, v3] h) (fun v h2 => ex E C L σ (psh v [u1, u2, u3, u4]) h2) (onTh E σ (some (hTab a.toNat))) := by have hw := (wd_4 u1 u2 u3 u4); simp [ex, ctl, tk, hw, ccall, rcv, aA]
theorem x_82 {x : Int} : ex E C ((82, a, b, c) :: L) σ [aI x] h = ri x h := id rfl
theorem x_83  : ex E C ((83, a, b, c) :: L) σ [] h = rv h := id rfl
theorem x_84  : ex E C ((84, a, b, c) :: L) σ [] h = th b h := by simp [ex, ctl, wd, cend]
theorem x_85 {x : Int} (hx : x = 0 ∨ x = 1) : ex E C ((85, a, b, c) :: L) σ [aI x] h = ri x h := by simp [ex, ctl, aI, hx, cend]
theorem x_86 {x : Int} (h0 : 0 ≤ x) (h1 : x < 65536) : ex E C ((86, a, b, c) :: L) σ [aI x] h = ri x h := by simp [ex, ctl, aI, h0, h1, cend]
theorem x_87 {x : Int} (h0 : -128 ≤ x) (h1 : x < 128) : ex E C ((87, a, b, c) :: L) σ [aI x] h = ri x h := by simp [ex, ctl, aI, h0, h1, cend]
theorem x_88 {x : Int} : ex E C ((88, a, b, c) :: L) σ [aJ x] h = rl x h := id rfl
end XL
section XC
variable {kr : Option AV → Hp → Option Rs} {ke : Nat → Hp → Option Rs} {h : Hp} {x : Int} {e : Nat}
theorem addc_0 (r : Option Rs) : addc 0 r = r := by
  match r with
  | none => rfl
  | some (o, g, k) => show some (o, g, 0 + k) = _; rw [Nat.zero_add]
theorem cb_ri  : cbind (ri x h) kr ke = kr (some (aI x)) h := addc_0 _
theorem cb_rl  : cbind (rl x h) kr ke = kr (some (aJ x)) h := addc_0 _
theorem cb_rv  : cbind (rv h) kr ke = kr none h := addc_0 _
theorem cb_th {E : Nat → List AV → List AV → Hp → Option Rs} {σ : List AV} : cbind (th e h) kr (onTh E σ none) = th e h := id rfl
theorem cb_thH {E : Nat → List AV → List AV → Hp → Option Rs} {σ : List AV} {l : List (Nat × Nat)} : cbind (th e h) kr (onTh E σ (some l)) = addc 1 (onTh E σ (some l) e h) := id rfl
theorem cb_none  : cbind none kr ke = none := id rfl
theorem cb_ite {p : Prop} [Decidable p] {r1 r2 : Option Rs} : cbind (if p then r1 else r2) kr ke = if p then cbind r1 kr ke else cbind r2 kr ke := by split <;> rfl
theorem ps_s {v : AV} {st : List AV} : psh (some v) st = v :: st := id rfl
theorem ps_n {st : List AV} : psh none st = st := id rfl
theorem sw_n {d : Nat} {k : Nat → Option Rs} : swl x d k [] = k d := id rfl
theorem sw_c {d t : Nat} {v : Int} {k : Nat → Option Rs} {l : List (Int × Nat)} : swl x d k ((v, t) :: l) = if x = v then k t else swl x d k l := id rfl
end XC
/-! The least fixed point: monotone in the number of jumps; its own equation. -/
theorem addc_mono {n : Nat} {r r' : Option Rs} {v : Rs} (hr : ∀ w, r = some w → r' = some w) (h : addc n r = some v) : addc n r' = some v := by
  match r, hr, h with
  | none, _, h => exact absurd h (by simp [addc])
  | some (o, g, k), hr, h => rw [hr _ rfl]; exact h
theorem addc_to {n : Nat} {r : Option Rs} {v : Rs} (h : addc n r = some v) : ∃ o g k, r = some (o, g, k) ∧ v = (o, g, n + k) := by
  match r, h with
  | none, h => exact absurd h (by simp [addc])
  | some (o, g, k), h => cases h; exact ⟨o, g, k, rfl, rfl⟩
theorem cb_mono {r : Option Rs} {kr kr' : Option AV → Hp → Option Rs} {ke ke' : Nat → Hp → Option Rs} {v : Rs} (h1 : ∀ a h w, kr a h = some w → kr' a h = some w) (h2 : ∀ a h w, ke a h = some w → ke' a h = some w) (h : cbind r kr ke = some v) : cbind r kr' ke' = some v := by
  match r, h with
  | none, h => exact absurd h (by simp [cbind])
  | some (.inl a, g, n), h => exact addc_mono (h1 _ _) h
  | some (.inr a, g, n), h => exact addc_mono (h2 _ _) h
theorem onTh_mono {E E' : Nat → List AV → List AV → Hp → Option Rs} (hE : ∀ b σ st h w, E b σ st h = some w → E' b σ st h = some w) {σ : List AV} {hs : Option (List (Nat × Nat))} {e : Nat} {h : Hp} {w : Rs} (hh : onTh E σ hs e h = some w) : onTh E' σ hs e h = some w := by
  unfold onTh at hh ⊢
  match hs, hh with
  | none, hh => exact hh
  | some l, hh =>
    simp only at hh ⊢
    cases hf : hfind e l with
    | none => rw [hf] at hh; exact hh
    | some t => rw [hf] at hh; exact hE _ _ _ _ _ hh
theorem ex_mono {E E' : Nat → List AV → List AV → Hp → Option Rs} {C : Nat → List AV → Hp → Option Rs} (hE : ∀ b σ st h w, E b σ st h = some w → E' b σ st h = some w) : ∀ (L : List AC) (σ st : List AV) (h : Hp) (v : Rs), ex E C L σ st h = some v → ex E' C L σ st h = some v := by
  intro L
  induction L with
  | nil => intro σ st h v hv; exact absurd hv (by simp [ex])
  | cons i L ih =>
    intro σ st h v hv
    unfold ex at hv ⊢
    split <;> rename_i c
    · rw [if_pos c] at hv
      cases hs : step1 i σ st h with
      | none => rw [hs] at hv; exact absurd hv (by simp)
      | some q => rw [hs] at hv; exact ih _ _ _ _ hv
    · rw [if_neg c] at hv
      match hc : ctl i st h, hv with
      | none, hv => exact absurd hv (by simp)
      | some (.inl (b, s)), hv => exact hE _ _ _ _ _ hv
      | some (.inr (.inl s)), hv => exact ih _ _ _ _ hv
      | some (.inr (.inr (.inl (m, args, s, hs)))), hv => exact cb_mono (fun a g w hw => ih _ _ _ _ hw) (fun a g w hw => onTh_mono hE hw) hv
      | some (.inr (.inr (.inr r))), hv => exact hv
theorem ex_cont {En : Nat → Nat → List AV → List AV → Hp → Option Rs} {E : Nat → List AV → List AV → Hp → Option Rs} {C : Nat → List AV → Hp → Option Rs} (hE : ∀ b σ st h w, E b σ st h = some w → ∃ n, En n b σ st h = some w) : ∀ (L : List AC) (σ st : List AV) (h : Hp) (v : Rs), ex E C L σ st h = some v → ∃ n, ex (En n) C L σ st h = some v := by
  intro L
  induction L with
  | nil => intro σ st h v hv; exact absurd hv (by simp [ex])
  | cons i L ih =>
    intro σ st h v hv
    unfold ex at hv ⊢
    by_cases c : i.1 < 60
    · simp only [if_pos c] at hv ⊢
      cases hs : step1 i σ st h with
      | none => rw [hs] at hv; exact absurd hv (by simp)
      | some q => rw [hs] at hv; exact ih _ _ _ _ hv
    · simp only [if_neg c] at hv ⊢
      match hc : ctl i st h, hv with
      | none, hv => exact absurd hv (by simp)
      | some (.inl (b, s)), hv => exact hE _ _ _ _ _ hv
      | some (.inr (.inl s)), hv => exact ih _ _ _ _ hv
      | some (.inr (.inr (.inl (m, args, s, hs)))), hv =>
        simp only at hv ⊢
        match hC : C m args h, hv with
        | none, hv => exact absurd hv (by simp [cbind])
        | some (.inl a, g, n), hv =>
          obtain ⟨o, g', k, e1, e2⟩ := addc_to hv
          obtain ⟨j, hj⟩ := ih _ _ _ _ e1
          exact ⟨j, by show addc n (ex (En j) C L σ (psh a s) g) = some v; rw [hj, e2]; rfl⟩
        | some (.inr a, g, n), hv =>
          obtain ⟨o, g', k, e1, e2⟩ := addc_to hv
          have q : ∃ j, onTh (En j) σ hs a g = some (o, g', k) := by
            match hs, e1 with
            | none, e1 => exact ⟨0, e1⟩
            | some l, e1 =>
              simp only [onTh] at e1 ⊢
              cases hf : hfind a l with
              | none => rw [hf] at e1; exact absurd e1 (by simp)
              | some t => rw [hf] at e1; exact hE _ _ _ _ _ e1
          obtain ⟨j, hj⟩ := q
          exact ⟨j, by show addc n (onTh (En j) σ hs a g) = some v; rw [hj, e2]; rfl⟩
      | some (.inr (.inr (.inr r))), hv => exact ⟨0, hv⟩
theorem rn_succ (C : Nat → List AV → Hp → Option Rs) (m : Nat) : ∀ (n pc : Nat) (σ st : List AV) (h : Hp) (v : Rs), rn C m n pc σ st h = some v → rn C m (n + 1) pc σ st h = some v := by
  intro n
  induction n with
  | zero => intro pc σ st h v hv; exact absurd hv (by simp [rn])
  | succ n ih => intro pc σ st h v hv; exact ex_mono (fun b σ st h w hw => ih _ _ _ _ _ hw) _ _ _ _ _ hv
theorem rn_le {C : Nat → List AV → Hp → Option Rs} {m n n' pc : Nat} {σ st : List AV} {h : Hp} {v : Rs} (hn : n ≤ n') (hv : rn C m n pc σ st h = some v) : rn C m n' pc σ st h = some v := by
  induction hn with
  | refl => exact hv
  | step _ ih => exact rn_succ _ _ _ _ _ _ _ _ ih
theorem rnL_of {C : Nat → List AV → Hp → Option Rs} {m n pc : Nat} {σ st : List AV} {h : Hp} {v : Rs} (hv : rn C m n pc σ st h = some v) : rnL C m pc σ st h = some v := by
  have hx : ∃ r, ∃ n, rn C m n pc σ st h = some r := ⟨v, n, hv⟩
  unfold rnL
  rw [dif_pos hx]
  obtain ⟨n', h'⟩ := hx.choose_spec
  have e1 := rn_le (Nat.le_max_left n n') hv
  have e2 := rn_le (Nat.le_max_right n n') h'
  rw [e1] at e2
  exact e2.symm
theorem rnL_to {C : Nat → List AV → Hp → Option Rs} {m pc : Nat} {σ st : List AV} {h : Hp} {v : Rs} (hv : rnL C m pc σ st h = some v) : ∃ n, rn C m n pc σ st h = some v := by
  unfold rnL at hv
  split at hv <;> rename_i hx
  · obtain ⟨n', h'⟩ := hx.choose_spec
    cases hv
    exact ⟨n', h'⟩
  · exact absurd hv (by simp)
theorem opt_ext {a b : Option Rs} (h1 : ∀ v, a = some v → b = some v) (h2 : ∀ v, b = some v → a = some v) : a = b := by
  cases a with
  | none => cases b with
    | none => rfl
    | some w => exact h2 w rfl
  | some v => exact (h1 v rfl).symm
theorem rnL_eq (C : Nat → List AV → Hp → Option Rs) (m pc : Nat) (σ st : List AV) (h : Hp) : rnL C m pc σ st h = ex (rnL C m) C (codeAt m pc) σ st h := by
  refine opt_ext (fun v hv => ?_) (fun v hv => ?_)
  · obtain ⟨n, hn⟩ := rnL_to hv
    cases n with
    | zero => exact absurd hn (by simp [rn])
    | succ n => exact ex_mono (fun b σ st h w hw => rnL_of hw) _ _ _ _ _ hn
  · obtain ⟨n, hn⟩ := ex_cont (En := fun n => rn C m n) (fun b σ st h w hw => rnL_to hw) _ _ _ _ _ hv
    exact rnL_of (n := n + 1) hn
theorem run_eq (lv m pc : Nat) (σ st : List AV) (h : Hp) : run lv m pc σ st h = ex (run lv m) (cl lv) (codeAt m pc) σ st h := rnL_eq _ _ _ _ _ _
