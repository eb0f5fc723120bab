/-! WHAT HOLDS OF EVERY RUN: truth values stay truth values. -/
def Zh (h : Hp) : Prop := ∀ t, (t = 201 ∨ t = 203 ∨ t = 204) → h t 0 0 = 0 ∨ h t 0 0 = 1
def okI (i : AC) : Bool := !(i.1 == 36 && (i.2.2.1 == 201 || i.2.2.1 == 203 || i.2.2.1 == 204))
theorem Zh_set {h : Hp} {t k j : Nat} {x : Int} (z : Zh h) (hx : (t = 201 ∨ t = 203 ∨ t = 204) → x = 0 ∨ x = 1) : Zh (hset h t k j x) := fun t' ht' => by
  by_cases e : t' = t ∧ 0 = k ∧ 0 = j
  · obtain ⟨e1, e2, e3⟩ := e
    subst e1; subst e2; subst e3
    rw [hs_eq]; exact hx ht'
  · rw [hs_o e]; exact z t' ht'
theorem Zh_o {h : Hp} {t k j : Nat} {x : Int} (z : Zh h) (ht : ¬ (t = 201 ∨ t = 203 ∨ t = 204)) : Zh (hset h t k j x) := Zh_set z (fun y => absurd y ht)
theorem Zh_cpy {h : Hp} {t k k' n : Nat} (z : Zh h) (ht : ¬ (t = 201 ∨ t = 203 ∨ t = 204)) : Zh (hcpy h t k t k' 0 0 n) := fun t' ht' => by
  unfold hcpy
  rw [if_neg (fun y => ht (by rw [← y.1]; exact ht'))]
  exact z t' ht'
theorem aLen_z {t : Nat} (ht : t = 201 ∨ t = 203 ∨ t = 204) : aLen t = 0 ∧ zLen t = 0 := by
  rcases ht with rfl | rfl | rfl <;> exact ⟨by decide, by decide⟩
theorem st_Z {i : AC} {σ st : List AV} {h : Hp} {q : List AV × List AV × Hp} (e : step1 i σ st h = some q) (ok : okI i = true) (z : Zh h) : Zh q.2.2 := by
  unfold step1 at e
  split at e
  all_goals (repeat' (split at e))
  all_goals first
    | (cases e; done)
    | (cases e; exact z)
    | (simp only [Option.map_eq_some_iff] at e; obtain ⟨_, _, rfl⟩ := e; exact z)
    | skip
  · cases e
    refine Zh_o z (fun y => ?_)
    unfold okI at ok
    rcases y with rfl | rfl | rfl <;> simp at ok
  · rename_i hc
    cases e
    exact Zh_set z (fun _ => hc.2)
  · rename_i hc
    cases e
    refine Zh_o z (fun y => ?_)
    have := (aLen_z y).1
    omega
  · rename_i hc
    cases e
    exact Zh_set z (fun _ => hc.2)
  · cases e
    exact Zh_o z (by omega)
  · rename_i hc
    cases e
    obtain ⟨⟨rfl, -⟩, -, -, h1, h2, -⟩ := hc
    refine Zh_cpy z (fun y => ?_)
    have := (aLen_z y).1
    omega
def RZp (r : Option Rs) : Prop := ∀ o h' n, r = some (o, h', n) → Zh h'
theorem RZ_some {o : Option AV ⊕ Nat} {h : Hp} {n : Nat} (z : Zh h) : RZp (some (o, h, n)) := fun _ _ _ e => by cases e; exact z
theorem RZ_none : RZp none := fun _ _ _ e => by cases e
theorem RZ_add {n : Nat} {r : Option Rs} (z : RZp r) : RZp (addc n r) := fun o h' k e => by
  cases r with
  | none => cases e
  | some r =>
    obtain ⟨a, b, c⟩ := r
    have e : some (a, b, n + c) = some (o, h', k) := e
    cases e
    exact z _ _ _ rfl
theorem ctl_Z {i : AC} {st : List AV} {h : Hp} {r : Option Rs} (e : ctl i st h = some (.inr (.inr (.inr r)))) (z : Zh h) : RZp r := by
  unfold ctl at e
  split at e
  all_goals (repeat' (split at e))
  all_goals first
    | (cases e; done)
    | (simp only [cjmp, cnxt, cend, ccall, Option.some.injEq, Sum.inr.injEq, reduceCtorEq] at e; first | (subst e; exact RZ_some z) | (cases e; done))
    | (simp only [Option.bind_eq_some_iff] at e; obtain ⟨_, _, e⟩ := e; split at e <;> cases e)
theorem ex_Z {E : Nat → List AV → List AV → Hp → Option Rs} {C : Nat → List AV → Hp → Option Rs} (hE : ∀ b σ st h, Zh h → RZp (E b σ st h)) (hC : ∀ m a h, Zh h → RZp (C m a h)) : ∀ (L : List AC) (σ st : List AV) (h : Hp), L.all okI = true → Zh h → RZp (ex E C L σ st h) := by
  intro L
  induction L with
  | nil => intro σ st h _ _; exact RZ_none
  | cons i L ih =>
    intro σ st h ok z
    rw [List.all_cons, Bool.and_eq_true] at ok
    unfold ex
    split
    · cases e : step1 i σ st h with
      | none => exact RZ_none
      | some q => exact ih _ _ _ ok.2 (st_Z e ok.1 z)
    · split
      · exact hE _ _ _ _ z
      · exact ih _ _ _ ok.2 z
      · rename_i m args s hs _
        have c := hC m args h z
        unfold cbind
        cases e : C m args h with
        | none => exact RZ_none
        | some r =>
          obtain ⟨o, h2, n⟩ := r
          have z2 := c o h2 n e
          cases o with
          | inl v => exact RZ_add (ih _ _ _ ok.2 z2)
          | inr x =>
            refine RZ_add ?_
            unfold onTh
            split
            · exact RZ_some z2
            · split
              · exact hE _ _ _ _ z2
              · exact RZ_none
      · rename_i e
        exact ctl_Z e z
      · exact RZ_none
theorem lkp_al {α : Type} {P : List α → Bool} (h0 : P [] = true) {k : Nat} : ∀ (l : List (Nat × List α)), l.all (fun q => P q.2) = true → P (lkp [] k l) = true := by
  intro l
  induction l with
  | nil => intro _; exact h0
  | cons q l ih =>
    intro h
    obtain ⟨p, c⟩ := q
    rw [List.all_cons, Bool.and_eq_true] at h
    show P (if p == k then c else lkp [] k l) = true
    split
    · exact h.1
    · exact ih h.2
def okM (c : List (Nat × List AC)) : Bool := c.all (fun q => q.2.all okI)
theorem code_ok : cdBs.all (fun b => b.all okM) = true := by decide +kernel
theorem codeAt_ok (m pc : Nat) : (codeAt m pc).all okI = true := by
  unfold codeAt cdOf
  refine lkp_al (P := fun c : List AC => c.all okI) rfl _ ?_
  have h1 : (cdBs.getD (m / 20) []).all okM = true := by
    rw [List.getD_eq_getElem?_getD]
    cases e : cdBs[m / 20]? with
    | none => rfl
    | some b => exact List.all_eq_true.mp code_ok b (List.mem_of_getElem? e)
  generalize cdBs.getD (m / 20) [] = B at h1
  rw [List.getD_eq_getElem?_getD]
  cases e : B[m % 20]? with
  | none => rfl
  | some b => exact List.all_eq_true.mp h1 b (List.mem_of_getElem? e)
theorem rnL_Z {C : Nat → List AV → Hp → Option Rs} (hC : ∀ m a h, Zh h → RZp (C m a h)) (m pc : Nat) (σ st : List AV) (h : Hp) (z : Zh h) : RZp (rnL C m pc σ st h) := by
  have key : ∀ n pc σ st h, Zh h → RZp (rn C m n pc σ st h) := by
    intro n
    induction n with
    | zero => intro pc σ st h _; exact RZ_none
    | succ n ih => intro pc σ st h z; exact ex_Z ih hC _ _ _ _ (codeAt_ok m pc) z
  unfold rnL
  split
  · rename_i hx
    obtain ⟨n, hn⟩ := hx.choose_spec
    intro o h' k e
    cases e' : hx.choose with
    | mk a b =>
      obtain ⟨b, c⟩ := b
      rw [e'] at e hn
      cases e
      exact key n pc σ st h z _ _ _ hn
  · exact RZ_none
theorem cl_Z : ∀ (lv m : Nat) (args : List AV) (h : Hp), Zh h → RZp (cl lv m args h) := by
  intro lv
  induction lv with
  | zero => intro m args h _; exact RZ_none
  | succ lv ih =>
    intro m args h z
    unfold cl
    split
    · exact rnL_Z ih _ _ _ _ _ z
    · exact RZ_none
theorem Z_ri {lv m : Nat} {args : List AV} {h h' : Hp} {v : Int} (e : cl lv m args h = ri v h') (z : Zh h) : Zh h' := cl_Z lv m args h z _ _ _ e
theorem Z_rv {lv m : Nat} {args : List AV} {h h' : Hp} (e : cl lv m args h = rv h') (z : Zh h) : Zh h' := cl_Z lv m args h z _ _ _ e
theorem Z_th {lv m : Nat} {args : List AV} {h h' : Hp} {x : Nat} (e : cl lv m args h = th x h') (z : Zh h) : Zh h' := cl_Z lv m args h z _ _ _ e
