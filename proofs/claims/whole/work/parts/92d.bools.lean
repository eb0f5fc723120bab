/-! A METHOD THAT ENDS WITH A TRUTH VALUE ONLY. -/
def okZ (i : AC) : Bool := !(i.1 == 82 || i.1 == 86 || i.1 == 87 || i.1 == 88)
def RBp (r : Option Rs) : Prop := ∀ v h' n, r = some (.inl (some (aI v)), h', n) → v = 0 ∨ v = 1
theorem RB_none : RBp none := fun _ _ _ e => by cases e
theorem RB_add {n : Nat} {r : Option Rs} (z : RBp r) : RBp (addc n r) := fun v h' k e => by
  cases r with
  | none => cases e
  | some r =>
    obtain ⟨a, b, c⟩ := r
    have e : some (a, b, n + c) = some (.inl (some (aI v)), h', k) := e
    cases e
    exact z _ _ _ rfl
theorem RB_e {e : Nat} {h : Hp} {n : Nat} : RBp (some (.inr e, h, n)) := fun _ _ _ e => by cases e
theorem ctl_B {i : AC} {st : List AV} {h : Hp} {r : Option Rs} (e : ctl i st h = some (.inr (.inr (.inr r)))) (ok : okZ i = true) : RBp r := by
  unfold ctl at e
  split at e
  all_goals first
    | (exfalso; simp [okZ] at ok; done)
    | skip
  all_goals (repeat' (split at e))
  all_goals first
    | (cases e; done)
    | (simp only [Option.bind_eq_some_iff] at e; obtain ⟨_, _, e⟩ := e; split at e <;> cases e)
    | skip
  · simp only [cend, Option.some.injEq, Sum.inr.injEq] at e
    subst e
    exact fun _ _ _ e => by simp [rv] at e
  · simp only [cend, Option.some.injEq, Sum.inr.injEq] at e
    subst e
    exact RB_e
  · rename_i hc
    simp only [cend, Option.some.injEq, Sum.inr.injEq] at e
    subst e
    intro v h' n e
    unfold ri aI at e
    simp at e
    rw [← e.1]; exact hc
theorem ex_B {E : Nat → List AV → List AV → Hp → Option Rs} {C : Nat → List AV → Hp → Option Rs} (hE : ∀ b σ st h, RBp (E b σ st h)) : ∀ (L : List AC) (σ st : List AV) (h : Hp), L.all okZ = true → RBp (ex E C L σ st h) := by
  intro L
  induction L with
  | nil => intro σ st h _; exact RB_none
  | cons i L ih =>
    intro σ st h ok
    rw [List.all_cons, Bool.and_eq_true] at ok
    unfold ex
    split
    · cases e : step1 i σ st h with
      | none => exact RB_none
      | some q => exact ih _ _ _ ok.2
    · split
      · exact hE _ _ _ _
      · exact ih _ _ _ ok.2
      · rename_i m args s hs _
        unfold cbind
        cases e : C m args h with
        | none => exact RB_none
        | some r =>
          obtain ⟨o, h2, n⟩ := r
          cases o with
          | inl v => exact RB_add (ih _ _ _ ok.2)
          | inr x =>
            refine RB_add ?_
            unfold onTh
            split
            · exact RB_e
            · split
              · exact hE _ _ _ _
              · exact RB_none
      · rename_i e
        exact ctl_B e ok.1
      · exact RB_none
theorem m_bool {lv m : Nat} {args : List AV} {h : Hp} (hm : (cdOf m).all (fun q => q.2.all okZ) = true) : isB (fun h => cl lv m args h) h := by
  intro v h' e
  have e : cl lv m args h = ri v h' := e
  cases lv with
  | zero => cases e
  | succ lv =>
    unfold cl at e
    split at e
    · have key : ∀ n pc σ st h, RBp (rn (cl lv) m n pc σ st h) := by
        intro n
        induction n with
        | zero => intro pc σ st h; exact RB_none
        | succ n ih => intro pc σ st h; exact ex_B ih _ _ _ _ (lkp_al (P := fun c : List AC => c.all okZ) rfl _ hm)
      unfold rnL at e
      split at e
      · rename_i hx
        obtain ⟨n, hn⟩ := hx.choose_spec
        have e : some hx.choose = some (Sum.inl (some (aI v)), h', 0) := e
        rw [e] at hn
        exact key n _ _ _ _ _ _ _ hn
      · cases e
    · cases e
theorem b_can (lv : Nat) (args : List AV) (h : Hp) : isB (fun h => cl lv 91 args h) h := m_bool (by decide +kernel)
theorem b_sure (lv : Nat) (args : List AV) (h : Hp) : isB (fun h => cl lv 126 args h) h := m_bool (by decide +kernel)
theorem b_bind (lv : Nat) (args : List AV) (h : Hp) : isB (fun h => cl lv 96 args h) h := m_bool (by decide +kernel)
theorem b_strike (lv : Nat) (args : List AV) (h : Hp) : isB (fun h => cl lv 97 args h) h := m_bool (by decide +kernel)
