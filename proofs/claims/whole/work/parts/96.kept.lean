/-! WHAT HOLDS OF EVERY RUN: the script stays. -/
def Kh (x : Nat → Int) (L : Int) (h : Hp) : Prop := (∀ j, h 22 0 j = x j) ∧ h 27 0 0 = L
def okK (i : AC) : Bool := !((i.1 == 36 || i.1 == 37) && (i.2.2.1 == 22 || i.2.2.1 == 27))
theorem Kh_o {x : Nat → Int} {L : Int} {h : Hp} {t k j : Nat} {v : Int} (z : Kh x L h) (ht : ¬ (t = 22 ∨ t = 27)) : Kh x L (hset h t k j v) :=
  ⟨fun i => by rw [hs_t (by omega)]; exact z.1 i, by rw [hs_t (by omega)]; exact z.2⟩
theorem Kh_cpy {x : Nat → Int} {L : Int} {h : Hp} {t k k' n : Nat} (z : Kh x L h) (ht : ¬ (t = 22 ∨ t = 27)) : Kh x L (hcpy h t k t k' 0 0 n) := by
  refine ⟨fun i => ?_, ?_⟩
  · unfold hcpy; rw [if_neg (by omega)]; exact z.1 i
  · unfold hcpy; rw [if_neg (by omega)]; exact z.2
theorem aLen_k {t : Nat} (ht : t = 22 ∨ t = 27) : aLen t = 0 ∧ zLen t = 0 := by
  rcases ht with rfl | rfl <;> exact ⟨by decide, by decide⟩
theorem st_K {x : Nat → Int} {L : Int} {i : AC} {σ st : List AV} {h : Hp} {q : List AV × List AV × Hp} (e : step1 i σ st h = some q) (ok : okK i = true) (z : Kh x L h) : Kh x L q.2.2 := by
  unfold step1 at e
  split at e
  all_goals (repeat' (split at e))
  all_goals first
    | (cases e; done)
    | (cases e; exact z)
    | (simp only [Option.map_eq_some_iff] at e; obtain ⟨_, _, rfl⟩ := e; exact z)
    | skip
  · cases e
    refine Kh_o z (fun y => ?_)
    unfold okK at ok
    rcases y with rfl | rfl <;> simp at ok
  · cases e
    refine Kh_o z (fun y => ?_)
    unfold okK at ok
    rcases y with rfl | rfl <;> simp at ok
  · rename_i hc
    cases e
    refine Kh_o z (fun y => ?_)
    have := (aLen_k y).1
    omega
  · rename_i hc
    cases e
    refine Kh_o z (fun y => ?_)
    have := (aLen_k y).2
    omega
  · rename_i hc
    cases e
    obtain ⟨⟨rfl, -⟩, -, -, h1, h2, -⟩ := hc
    refine Kh_cpy z (fun y => ?_)
    have := (aLen_k y).1
    omega
def RKp (X : Nat → Int) (LL : Int) (r : Option Rs) : Prop := ∀ o h' n, r = some (o, h', n) → Kh X LL h'
theorem RK_some {X : Nat → Int} {LL : Int} {o : Option AV ⊕ Nat} {h : Hp} {n : Nat} (z : Kh X LL h) : RKp X LL (some (o, h, n)) := fun _ _ _ e => by cases e; exact z
theorem RK_none {X : Nat → Int} {LL : Int} : RKp X LL none := fun _ _ _ e => by cases e
theorem RK_add {X : Nat → Int} {LL : Int} {n : Nat} {r : Option Rs} (z : RKp X LL r) : RKp X LL (addc n r) := fun o h' k e => by
  cases r with
  | none => cases e
  | some r =>
    obtain ⟨a, b, c⟩ := r
    have e : some (a, b, n + c) = some (o, h', k) := e
    cases e
    exact z _ _ _ rfl
theorem ctl_K {X : Nat → Int} {LL : Int} {i : AC} {st : List AV} {h : Hp} {r : Option Rs} (e : ctl i st h = some (.inr (.inr (.inr r)))) (z : Kh X LL h) : RKp X LL r := by
  unfold ctl at e
  split at e
  all_goals (repeat' (split at e))
  all_goals first
    | (cases e; done)
    | (simp only [cjmp, cnxt, cend, ccall, Option.some.injEq, Sum.inr.injEq, reduceCtorEq] at e; first | (subst e; exact RK_some z) | (cases e; done))
    | (simp only [Option.bind_eq_some_iff] at e; obtain ⟨_, _, e⟩ := e; split at e <;> cases e)
theorem ex_K {X : Nat → Int} {LL : Int} {E : Nat → List AV → List AV → Hp → Option Rs} {C : Nat → List AV → Hp → Option Rs} (hE : ∀ b σ st h, Kh X LL h → RKp X LL (E b σ st h)) (hC : ∀ m a h, Kh X LL h → RKp X LL (C m a h)) : ∀ (L : List AC) (σ st : List AV) (h : Hp), L.all okK = true → Kh X LL h → RKp X LL (ex E C L σ st h) := by
  intro L
  induction L with
  | nil => intro σ st h _ _; exact RK_none
  | cons i L ih =>
    intro σ st h ok z
    rw [List.all_cons, Bool.and_eq_true] at ok
    unfold ex
    split
    · cases e : step1 i σ st h with
      | none => exact RK_none
      | some q => exact ih _ _ _ ok.2 (st_K e ok.1 z)
    · split
      · exact hE _ _ _ _ z
      · exact ih _ _ _ ok.2 z
      · rename_i m args s hs _
        have c := hC m args h z
        unfold cbind
        cases e : C m args h with
        | none => exact RK_none
        | some r =>
          obtain ⟨o, h2, n⟩ := r
          have z2 := c o h2 n e
          cases o with
          | inl v => exact RK_add (ih _ _ _ ok.2 z2)
          | inr x =>
            refine RK_add ?_
            unfold onTh
            split
            · exact RK_some z2
            · split
              · exact hE _ _ _ _ z2
              · exact RK_none
      · rename_i e
        exact ctl_K e z
      · exact RK_none
def okMK (c : List (Nat × List AC)) : Bool := c.all (fun q => q.2.all okK)
theorem code_okK : cdBs.all (fun b => b.all okMK) = true := by decide +kernel
theorem codeAt_okK (m pc : Nat) : (codeAt m pc).all okK = true := by
  unfold codeAt cdOf
  refine lkp_al (P := fun c : List AC => c.all okK) rfl _ ?_
  have h1 : (cdBs.getD (m / 20) []).all okMK = true := by
    rw [List.getD_eq_getElem?_getD]
    cases e : cdBs[m / 20]? with
    | none => rfl
    | some b => exact List.all_eq_true.mp code_okK b (List.mem_of_getElem? e)
  generalize cdBs.getD (m / 20) [] = B at h1
  rw [List.getD_eq_getElem?_getD]
  cases e : B[m % 20]? with
  | none => rfl
  | some b => exact List.all_eq_true.mp h1 b (List.mem_of_getElem? e)
theorem rnL_K {X : Nat → Int} {LL : Int} {C : Nat → List AV → Hp → Option Rs} (hC : ∀ m a h, Kh X LL h → RKp X LL (C m a h)) (m pc : Nat) (σ st : List AV) (h : Hp) (z : Kh X LL h) : RKp X LL (rnL C m pc σ st h) := by
  have key : ∀ n pc σ st h, Kh X LL h → RKp X LL (rn C m n pc σ st h) := by
    intro n
    induction n with
    | zero => intro pc σ st h _; exact RK_none
    | succ n ih => intro pc σ st h z; exact ex_K ih hC _ _ _ _ (codeAt_okK m pc) z
  unfold rnL
  split
  · rename_i hx
    obtain ⟨n, hn⟩ := hx.choose_spec
    intro o h' k e
    cases e' : hx.choose with
    | mk a b =>
      obtain ⟨b, c⟩ := b
      rw [e'] at e hn
      cases e
      exact key n pc σ st h z _ _ _ hn
  · exact RK_none
theorem cl_K {X : Nat → Int} {LL : Int} : ∀ (lv m : Nat) (args : List AV) (h : Hp), Kh X LL h → RKp X LL (cl lv m args h) := by
  intro lv
  induction lv with
  | zero => intro m args h _; exact RK_none
  | succ lv ih =>
    intro m args h z
    unfold cl
    split
    · exact rnL_K ih _ _ _ _ _ z
    · exact RK_none
theorem K_ri {X : Nat → Int} {LL : Int} {lv m : Nat} {args : List AV} {h h' : Hp} {v : Int} (e : cl lv m args h = ri v h') (z : Kh X LL h) : Kh X LL h' := cl_K lv m args h z _ _ _ e
theorem K_rv {X : Nat → Int} {LL : Int} {lv m : Nat} {args : List AV} {h h' : Hp} (e : cl lv m args h = rv h') (z : Kh X LL h) : Kh X LL h' := cl_K lv m args h z _ _ _ e
theorem K_th {X : Nat → Int} {LL : Int} {lv m : Nat} {args : List AV} {h h' : Hp} {x : Nat} (e : cl lv m args h = th x h') (z : Kh X LL h) : Kh X LL h' := cl_K lv m args h z _ _ _ e
