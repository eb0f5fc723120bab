/-! Each segment of each method is what its bytes say. By program. -/
theorem lkp_all {α : Type} {P : Nat → α → Prop} {d : α} {k : Nat} (hd : P k d) : ∀ {T : List (Nat × α)}, (∀ q ∈ T, P q.1 q.2) → P k (lkp d k T) := by
  intro T
  induction T with
  | nil => intro _; exact hd
  | cons q T ih =>
    intro h
    obtain ⟨a, c⟩ := q
    show P k (if a == k then c else lkp d k T)
    by_cases e : (a == k) = true
    · rw [if_pos e]
      have := h (a, c) List.mem_cons_self
      simp only [beq_iff_eq] at e
      rw [← e]
      exact this
    · rw [if_neg e]
      exact ih (fun q hq => h q (List.mem_cons_of_mem _ hq))
def ckM (m : Nat) : Bool := (cdOf m).all (fun q => ckL m (mOwn m) (mCode m) q.2 q.1)
theorem ckm_0 : ckM 0 = true := by decide +kernel
theorem ckm_1 : ckM 1 = true := by decide +kernel
theorem ckm_2 : ckM 2 = true := by decide +kernel
theorem ckm_3 : ckM 3 = true := by decide +kernel
theorem ckm_4 : ckM 4 = true := by decide +kernel
theorem ckm_5 : ckM 5 = true := by decide +kernel
theorem ckm_6 : ckM 6 = true := by decide +kernel
theorem ckm_7 : ckM 7 = true := by decide +kernel
theorem ckm_8 : ckM 8 = true := by decide +kernel
theorem ckm_9 : ckM 9 = true := by decide +kernel
theorem ckm_10 : ckM 10 = true := by decide +kernel
theorem ckm_11 : ckM 11 = true := by decide +kernel
theorem ckm_12 : ckM 12 = true := by decide +kernel
theorem ckm_13 : ckM 13 = true := by decide +kernel
theorem ckm_14 : ckM 14 = true := by decide +kernel
theorem ckm_15 : ckM 15 = true := by decide +kernel
theorem ckm_16 : ckM 16 = true := by decide +kernel
theorem ckm_17 : ckM 17 = true := by decide +kernel
theorem ckm_18 : ckM 18 = true := by decide +kernel
theorem ckm_19 : ckM 19 = true := by decide +kernel
theorem ckm_20 : ckM 20 = true := by decide +kernel
theorem ckm_21 : ckM 21 = true := by decide +kernel
theorem ckm_22 : ckM 22 = true := by decide +kernel
theorem ckm_23 : ckM 23 = true := by decide +kernel
theorem ckm_24 : ckM 24 = true := by decide +kernel
theorem ckm_25 : ckM 25 = true := by decide +kernel
theorem ckm_26 : ckM 26 = true := by decide +kernel
theorem ckm_27 : ckM 27 = true := by decide +kernel
theorem ckm_28 : ckM 28 = true := by decide +kernel
theorem ckm_29 : ckM 29 = true := by decide +kernel
theorem ckm_30 : ckM 30 = true := by decide +kernel
theorem ckm_31 : ckM 31 = true := by decide +kernel
theorem ckm_32 : ckM 32 = true := by decide +kernel
theorem ckm_33 : ckM 33 = true := by decide +kernel
theorem ckm_34 : ckM 34 = true := by decide +kernel
theorem ckm_35 : ckM 35 = true := by decide +kernel
theorem ckm_36 : ckM 36 = true := by decide +kernel
theorem ckm_37 : ckM 37 = true := by decide +kernel
theorem ckm_38 : ckM 38 = true := by decide +kernel
theorem ckm_39 : ckM 39 = true := by decide +kernel
theorem ckm_40 : ckM 40 = true := by decide +kernel
theorem ckm_41 : ckM 41 = true := by decide +kernel
theorem ckm_42 : ckM 42 = true := by decide +kernel
theorem ckm_43 : ckM 43 = true := by decide +kernel
theorem ckm_44 : ckM 44 = true := by decide +kernel
theorem ckm_45 : ckM 45 = true := by decide +kernel
theorem ckm_46 : ckM 46 = true := by decide +kernel
theorem ckm_47 : ckM 47 = true := by decide +kernel
theorem ckm_48 : ckM 48 = true := by decide +kernel
theorem ckm_49 : ckM 49 = true := by decide +kernel
theorem ckm_50 : ckM 50 = true := by decide +kernel
theorem ckm_51 : ckM 51 = true := by decide +kernel
theorem ckm_52 : ckM 52 = true := by decide +kernel
theorem ckm_53 : ckM 53 = true := by decide +kernel
theorem ckm_54 : ckM 54 = true := by decide +kernel
theorem ckm_55 : ckM 55 = true := by decide +kernel
theorem ckm_56 : ckM 56 = true := by decide +kernel
theorem ckm_57 : ckM 57 = true := by decide +kernel
theorem ckm_58 : ckM 58 = true := by decide +kernel
theorem ckm_59 : ckM 59 = true := by decide +kernel
theorem ckm_60 : ckM 60 = true := by decide +kernel
theorem ckm_61 : ckM 61 = true := by decide +kernel
theorem ckm_62 : ckM 62 = true := by decide +kernel
theorem ckm_63 : ckM 63 = true := by decide +kernel
theorem ckm_64 : ckM 64 = true := by decide +kernel
theorem ckm_65 : ckM 65 = true := by decide +kernel
theorem ckm_66 : ckM 66 = true := by decide +kernel
theorem ckm_67 : ckM 67 = true := by decide +kernel
theorem ckm_68 : ckM 68 = true := by decide +kernel
theorem ckm_69 : ckM 69 = true := by decide +kernel
theorem ckm_70 : ckM 70 = true := by decide +kernel
theorem ckm_71 : ckM 71 = true := by decide +kernel
theorem ckm_72 : ckM 72 = true := by decide +kernel
theorem ckm_73 : ckM 73 = true := by decide +kernel
theorem ckm_74 : ckM 74 = true := by decide +kernel
theorem ckm_75 : ckM 75 = true := by decide +kernel
theorem ckm_76 : ckM 76 = true := by decide +kernel
theorem ckm_77 : ckM 77 = true := by decide +kernel
theorem ckm_78 : ckM 78 = true := by decide +kernel
theorem ckm_79 : ckM 79 = true := by decide +kernel
theorem ckm_80 : ckM 80 = true := by decide +kernel
theorem ckm_81 : ckM 81 = true := by decide +kernel
theorem ckm_82 : ckM 82 = true := by decide +kernel
theorem ckm_83 : ckM 83 = true := by decide +kernel
theorem ckm_84 : ckM 84 = true := by decide +kernel
theorem ckm_85 : ckM 85 = true := by decide +kernel
theorem ckm_86 : ckM 86 = true := by decide +kernel
theorem ckm_87 : ckM 87 = true := by decide +kernel
theorem ckm_88 : ckM 88 = true := by decide +kernel
theorem ckm_89 : ckM 89 = true := by decide +kernel
theorem ckm_90 : ckM 90 = true := by decide +kernel
theorem ckm_91 : ckM 91 = true := by decide +kernel
theorem ckm_92 : ckM 92 = true := by decide +kernel
theorem ckm_93 : ckM 93 = true := by decide +kernel
theorem ckm_94 : ckM 94 = true := by decide +kernel
theorem ckm_95 : ckM 95 = true := by decide +kernel
theorem ckm_96 : ckM 96 = true := by decide +kernel
theorem ckm_97 : ckM 97 = true := by decide +kernel
theorem ckm_98 : ckM 98 = true := by decide +kernel
theorem ckm_99 : ckM 99 = true := by decide +kernel
theorem ckm_100 : ckM 100 = true := by decide +kernel
theorem ckm_101 : ckM 101 = true := by decide +kernel
theorem ckm_102 : ckM 102 = true := by decide +kernel
theorem ckm_103 : ckM 103 = true := by decide +kernel
theorem ckm_104 : ckM 104 = true := by decide +kernel
theorem ckm_105 : ckM 105 = true := by decide +kernel
theorem ckm_106 : ckM 106 = true := by decide +kernel
theorem ckm_107 : ckM 107 = true := by decide +kernel
theorem ckm_108 : ckM 108 = true := by decide +kernel
theorem ckm_109 : ckM 109 = true := by decide +kernel
theorem ckm_110 : ckM 110 = true := by decide +kernel
theorem ckm_111 : ckM 111 = true := by decide +kernel
theorem ckm_112 : ckM 112 = true := by decide +kernel
theorem ckm_113 : ckM 113 = true := by decide +kernel
theorem ckm_114 : ckM 114 = true := by decide +kernel
theorem ckm_115 : ckM 115 = true := by decide +kernel
theorem ckm_116 : ckM 116 = true := by decide +kernel
theorem ckm_117 : ckM 117 = true := by decide +kernel
theorem ckm_118 : ckM 118 = true := by decide +kernel
theorem ckm_119 : ckM 119 = true := by decide +kernel
theorem ckm_120 : ckM 120 = true := by decide +kernel
theorem ckm_121 : ckM 121 = true := by decide +kernel
theorem ckm_122 : ckM 122 = true := by decide +kernel
