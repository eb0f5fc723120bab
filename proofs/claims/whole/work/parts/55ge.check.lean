theorem ckp_86 : ckP 86 89 = true := by decide +kernel
theorem ckp_89 : ckP 89 94 = true := by decide +kernel
theorem ckp_94 : ckP 94 98 = true := by decide +kernel
theorem ckp_98 : ckP 98 105 = true := by decide +kernel
theorem ckp_105 : ckP 105 110 = true := by decide +kernel
theorem ckp_110 : ckP 110 113 = true := by decide +kernel
theorem ckp_113 : ckP 113 116 = true := by decide +kernel
theorem ckp_116 : ckP 116 119 = true := by decide +kernel
theorem ckp_119 : ckP 119 120 = true := by decide +kernel
theorem ckp_120 : ckP 120 125 = true := by decide +kernel
theorem ckp_125 : ckP 125 130 = true := by decide +kernel
theorem ckp_130 : ckP 130 135 = true := by decide +kernel
theorem ckp_135 : ckP 135 138 = true := by decide +kernel
theorem ckp_138 : ckP 138 142 = true := by decide +kernel
theorem ckp_142 : ckP 142 146 = true := by decide +kernel
theorem ckp_146 : ckP 146 149 = true := by decide +kernel
theorem ckp_149 : ckP 149 150 = true := by decide +kernel
theorem ckp_150 : ckP 150 155 = true := by decide +kernel
theorem ckp_155 : ckP 155 161 = true := by decide +kernel
theorem ckp_161 : ckP 161 166 = true := by decide +kernel
theorem ckp_166 : ckP 166 171 = true := by decide +kernel
theorem ckp_171 : ckP 171 174 = true := by decide +kernel
theorem ckp_174 : ckP 174 179 = true := by decide +kernel
theorem ckp_179 : ckP 179 183 = true := by decide +kernel
theorem all_cut {α : Type} {f : α → Bool} {L : List α} {a b : Nat} (h1 : ((L.drop a).take (b - a)).all f = true) (h2 : (L.drop b).all f = true) (hab : a ≤ b) : (L.drop a).all f = true := by
  rw [← List.take_append_drop (b - a) (L.drop a), List.all_append, h1, List.drop_drop, show a + (b - a) = b by omega, h2]; rfl
theorem ckq_183 : ((cdOf 368).drop 183).all (fun q => ckL 368 (mOwn 368) (mCode 368) q.2 q.1) = true := by decide +kernel
theorem ckq_179 : ((cdOf 368).drop 179).all (fun q => ckL 368 (mOwn 368) (mCode 368) q.2 q.1) = true := all_cut (b := 183) ckp_179 ckq_183 (by omega)
theorem ckq_174 : ((cdOf 368).drop 174).all (fun q => ckL 368 (mOwn 368) (mCode 368) q.2 q.1) = true := all_cut (b := 179) ckp_174 ckq_179 (by omega)
theorem ckq_171 : ((cdOf 368).drop 171).all (fun q => ckL 368 (mOwn 368) (mCode 368) q.2 q.1) = true := all_cut (b := 174) ckp_171 ckq_174 (by omega)
theorem ckq_166 : ((cdOf 368).drop 166).all (fun q => ckL 368 (mOwn 368) (mCode 368) q.2 q.1) = true := all_cut (b := 171) ckp_166 ckq_171 (by omega)
theorem ckq_161 : ((cdOf 368).drop 161).all (fun q => ckL 368 (mOwn 368) (mCode 368) q.2 q.1) = true := all_cut (b := 166) ckp_161 ckq_166 (by omega)
theorem ckq_155 : ((cdOf 368).drop 155).all (fun q => ckL 368 (mOwn 368) (mCode 368) q.2 q.1) = true := all_cut (b := 161) ckp_155 ckq_161 (by omega)
theorem ckq_150 : ((cdOf 368).drop 150).all (fun q => ckL 368 (mOwn 368) (mCode 368) q.2 q.1) = true := all_cut (b := 155) ckp_150 ckq_155 (by omega)
theorem ckq_149 : ((cdOf 368).drop 149).all (fun q => ckL 368 (mOwn 368) (mCode 368) q.2 q.1) = true := all_cut (b := 150) ckp_149 ckq_150 (by omega)
theorem ckq_146 : ((cdOf 368).drop 146).all (fun q => ckL 368 (mOwn 368) (mCode 368) q.2 q.1) = true := all_cut (b := 149) ckp_146 ckq_149 (by omega)
theorem ckq_142 : ((cdOf 368).drop 142).all (fun q => ckL 368 (mOwn 368) (mCode 368) q.2 q.1) = true := all_cut (b := 146) ckp_142 ckq_146 (by omega)
theorem ckq_138 : ((cdOf 368).drop 138).all (fun q => ckL 368 (mOwn 368) (mCode 368) q.2 q.1) = true := all_cut (b := 142) ckp_138 ckq_142 (by omega)
theorem ckq_135 : ((cdOf 368).drop 135).all (fun q => ckL 368 (mOwn 368) (mCode 368) q.2 q.1) = true := all_cut (b := 138) ckp_135 ckq_138 (by omega)
theorem ckq_130 : ((cdOf 368).drop 130).all (fun q => ckL 368 (mOwn 368) (mCode 368) q.2 q.1) = true := all_cut (b := 135) ckp_130 ckq_135 (by omega)
theorem ckq_125 : ((cdOf 368).drop 125).all (fun q => ckL 368 (mOwn 368) (mCode 368) q.2 q.1) = true := all_cut (b := 130) ckp_125 ckq_130 (by omega)
theorem ckq_120 : ((cdOf 368).drop 120).all (fun q => ckL 368 (mOwn 368) (mCode 368) q.2 q.1) = true := all_cut (b := 125) ckp_120 ckq_125 (by omega)
theorem ckq_119 : ((cdOf 368).drop 119).all (fun q => ckL 368 (mOwn 368) (mCode 368) q.2 q.1) = true := all_cut (b := 120) ckp_119 ckq_120 (by omega)
theorem ckq_116 : ((cdOf 368).drop 116).all (fun q => ckL 368 (mOwn 368) (mCode 368) q.2 q.1) = true := all_cut (b := 119) ckp_116 ckq_119 (by omega)
theorem ckq_113 : ((cdOf 368).drop 113).all (fun q => ckL 368 (mOwn 368) (mCode 368) q.2 q.1) = true := all_cut (b := 116) ckp_113 ckq_116 (by omega)
theorem ckq_110 : ((cdOf 368).drop 110).all (fun q => ckL 368 (mOwn 368) (mCode 368) q.2 q.1) = true := all_cut (b := 113) ckp_110 ckq_113 (by omega)
theorem ckq_105 : ((cdOf 368).drop 105).all (fun q => ckL 368 (mOwn 368) (mCode 368) q.2 q.1) = true := all_cut (b := 110) ckp_105 ckq_110 (by omega)
theorem ckq_98 : ((cdOf 368).drop 98).all (fun q => ckL 368 (mOwn 368) (mCode 368) q.2 q.1) = true := all_cut (b := 105) ckp_98 ckq_105 (by omega)
theorem ckq_94 : ((cdOf 368).drop 94).all (fun q => ckL 368 (mOwn 368) (mCode 368) q.2 q.1) = true := all_cut (b := 98) ckp_94 ckq_98 (by omega)
theorem ckq_89 : ((cdOf 368).drop 89).all (fun q => ckL 368 (mOwn 368) (mCode 368) q.2 q.1) = true := all_cut (b := 94) ckp_89 ckq_94 (by omega)
theorem ckq_86 : ((cdOf 368).drop 86).all (fun q => ckL 368 (mOwn 368) (mCode 368) q.2 q.1) = true := all_cut (b := 89) ckp_86 ckq_89 (by omega)
theorem ckq_81 : ((cdOf 368).drop 81).all (fun q => ckL 368 (mOwn 368) (mCode 368) q.2 q.1) = true := all_cut (b := 86) ckp_81 ckq_86 (by omega)
theorem ckq_78 : ((cdOf 368).drop 78).all (fun q => ckL 368 (mOwn 368) (mCode 368) q.2 q.1) = true := all_cut (b := 81) ckp_78 ckq_81 (by omega)
theorem ckq_76 : ((cdOf 368).drop 76).all (fun q => ckL 368 (mOwn 368) (mCode 368) q.2 q.1) = true := all_cut (b := 78) ckp_76 ckq_78 (by omega)
theorem ckq_72 : ((cdOf 368).drop 72).all (fun q => ckL 368 (mOwn 368) (mCode 368) q.2 q.1) = true := all_cut (b := 76) ckp_72 ckq_76 (by omega)
theorem ckq_69 : ((cdOf 368).drop 69).all (fun q => ckL 368 (mOwn 368) (mCode 368) q.2 q.1) = true := all_cut (b := 72) ckp_69 ckq_72 (by omega)
theorem ckq_66 : ((cdOf 368).drop 66).all (fun q => ckL 368 (mOwn 368) (mCode 368) q.2 q.1) = true := all_cut (b := 69) ckp_66 ckq_69 (by omega)
theorem ckq_63 : ((cdOf 368).drop 63).all (fun q => ckL 368 (mOwn 368) (mCode 368) q.2 q.1) = true := all_cut (b := 66) ckp_63 ckq_66 (by omega)
theorem ckq_60 : ((cdOf 368).drop 60).all (fun q => ckL 368 (mOwn 368) (mCode 368) q.2 q.1) = true := all_cut (b := 63) ckp_60 ckq_63 (by omega)
theorem ckq_58 : ((cdOf 368).drop 58).all (fun q => ckL 368 (mOwn 368) (mCode 368) q.2 q.1) = true := all_cut (b := 60) ckp_58 ckq_60 (by omega)
theorem ckq_55 : ((cdOf 368).drop 55).all (fun q => ckL 368 (mOwn 368) (mCode 368) q.2 q.1) = true := all_cut (b := 58) ckp_55 ckq_58 (by omega)
theorem ckq_52 : ((cdOf 368).drop 52).all (fun q => ckL 368 (mOwn 368) (mCode 368) q.2 q.1) = true := all_cut (b := 55) ckp_52 ckq_55 (by omega)
theorem ckq_45 : ((cdOf 368).drop 45).all (fun q => ckL 368 (mOwn 368) (mCode 368) q.2 q.1) = true := all_cut (b := 52) ckp_45 ckq_52 (by omega)
theorem ckq_37 : ((cdOf 368).drop 37).all (fun q => ckL 368 (mOwn 368) (mCode 368) q.2 q.1) = true := all_cut (b := 45) ckp_37 ckq_45 (by omega)
theorem ckq_32 : ((cdOf 368).drop 32).all (fun q => ckL 368 (mOwn 368) (mCode 368) q.2 q.1) = true := all_cut (b := 37) ckp_32 ckq_37 (by omega)
theorem ckq_29 : ((cdOf 368).drop 29).all (fun q => ckL 368 (mOwn 368) (mCode 368) q.2 q.1) = true := all_cut (b := 32) ckp_29 ckq_32 (by omega)
theorem ckq_26 : ((cdOf 368).drop 26).all (fun q => ckL 368 (mOwn 368) (mCode 368) q.2 q.1) = true := all_cut (b := 29) ckp_26 ckq_29 (by omega)
theorem ckq_23 : ((cdOf 368).drop 23).all (fun q => ckL 368 (mOwn 368) (mCode 368) q.2 q.1) = true := all_cut (b := 26) ckp_23 ckq_26 (by omega)
theorem ckq_20 : ((cdOf 368).drop 20).all (fun q => ckL 368 (mOwn 368) (mCode 368) q.2 q.1) = true := all_cut (b := 23) ckp_20 ckq_23 (by omega)
theorem ckq_17 : ((cdOf 368).drop 17).all (fun q => ckL 368 (mOwn 368) (mCode 368) q.2 q.1) = true := all_cut (b := 20) ckp_17 ckq_20 (by omega)
theorem ckq_14 : ((cdOf 368).drop 14).all (fun q => ckL 368 (mOwn 368) (mCode 368) q.2 q.1) = true := all_cut (b := 17) ckp_14 ckq_17 (by omega)
theorem ckq_11 : ((cdOf 368).drop 11).all (fun q => ckL 368 (mOwn 368) (mCode 368) q.2 q.1) = true := all_cut (b := 14) ckp_11 ckq_14 (by omega)
theorem ckq_7 : ((cdOf 368).drop 7).all (fun q => ckL 368 (mOwn 368) (mCode 368) q.2 q.1) = true := all_cut (b := 11) ckp_7 ckq_11 (by omega)
theorem ckq_3 : ((cdOf 368).drop 3).all (fun q => ckL 368 (mOwn 368) (mCode 368) q.2 q.1) = true := all_cut (b := 7) ckp_3 ckq_7 (by omega)
theorem ckq_2 : ((cdOf 368).drop 2).all (fun q => ckL 368 (mOwn 368) (mCode 368) q.2 q.1) = true := all_cut (b := 3) ckp_2 ckq_3 (by omega)
theorem ckq_0 : ((cdOf 368).drop 0).all (fun q => ckL 368 (mOwn 368) (mCode 368) q.2 q.1) = true := all_cut (b := 2) ckp_0 ckq_2 (by omega)
theorem ckm_368 : ckM 368 = true := ckq_0
theorem ckm_all (m : Nat) (h : m < 369) : ckM m = true := by
  · rcases Nat.lt_or_ge m 184 with h0_369 | h0_369
    · rcases Nat.lt_or_ge m 92 with h0_184 | h0_184
      · rcases Nat.lt_or_ge m 46 with h0_92 | h0_92
        · rcases Nat.lt_or_ge m 23 with h0_46 | h0_46
          · rcases Nat.lt_or_ge m 11 with h0_23 | h0_23
            · rcases Nat.lt_or_ge m 5 with h0_11 | h0_11
              · rcases Nat.lt_or_ge m 2 with h0_5 | h0_5
                · rcases Nat.lt_or_ge m 1 with h0_2 | h0_2
                  · have e : m = 0 := by omega
                    subst e; exact ckm_0
                  · have e : m = 1 := by omega
                    subst e; exact ckm_1
                · rcases Nat.lt_or_ge m 3 with h2_5 | h2_5
                  · have e : m = 2 := by omega
                    subst e; exact ckm_2
                  · rcases Nat.lt_or_ge m 4 with h3_5 | h3_5
                    · have e : m = 3 := by omega
                      subst e; exact ckm_3
                    · have e : m = 4 := by omega
                      subst e; exact ckm_4
              · rcases Nat.lt_or_ge m 8 with h5_11 | h5_11
                · rcases Nat.lt_or_ge m 6 with h5_8 | h5_8
                  · have e : m = 5 := by omega
                    subst e; exact ckm_5
                  · rcases Nat.lt_or_ge m 7 with h6_8 | h6_8
                    · have e : m = 6 := by omega
                      subst e; exact ckm_6
                    · have e : m = 7 := by omega
                      subst e; exact ckm_7
                · rcases Nat.lt_or_ge m 9 with h8_11 | h8_11
                  · have e : m = 8 := by omega
                    subst e; exact ckm_8
                  · rcases Nat.lt_or_ge m 10 with h9_11 | h9_11
                    · have e : m = 9 := by omega
                      subst e; exact ckm_9
                    · have e : m = 10 := by omega
                      subst e; exact ckm_10
            · rcases Nat.lt_or_ge m 17 with h11_23 | h11_23
              · rcases Nat.lt_or_ge m 14 with h11_17 | h11_17
                · rcases Nat.lt_or_ge m 12 with h11_14 | h11_14
                  · have e : m = 11 := by omega
                    subst e; exact ckm_11
                  · rcases Nat.lt_or_ge m 13 with h12_14 | h12_14
                    · have e : m = 12 := by omega
                      subst e; exact ckm_12
                    · have e : m = 13 := by omega
                      subst e; exact ckm_13
                · rcases Nat.lt_or_ge m 15 with h14_17 | h14_17
                  · have e : m = 14 := by omega
                    subst e; exact ckm_14
                  · rcases Nat.lt_or_ge m 16 with h15_17 | h15_17
                    · have e : m = 15 := by omega
                      subst e; exact ckm_15
                    · have e : m = 16 := by omega
                      subst e; exact ckm_16
              · rcases Nat.lt_or_ge m 20 with h17_23 | h17_23
                · rcases Nat.lt_or_ge m 18 with h17_20 | h17_20
                  · have e : m = 17 := by omega
                    subst e; exact ckm_17
                  · rcases Nat.lt_or_ge m 19 with h18_20 | h18_20
                    · have e : m = 18 := by omega
                      subst e; exact ckm_18
                    · have e : m = 19 := by omega
                      subst e; exact ckm_19
                · rcases Nat.lt_or_ge m 21 with h20_23 | h20_23
                  · have e : m = 20 := by omega
                    subst e; exact ckm_20
                  · rcases Nat.lt_or_ge m 22 with h21_23 | h21_23
                    · have e : m = 21 := by omega
                      subst e; exact ckm_21
                    · have e : m = 22 := by omega
                      subst e; exact ckm_22
          · rcases Nat.lt_or_ge m 34 with h23_46 | h23_46
            · rcases Nat.lt_or_ge m 28 with h23_34 | h23_34
              · rcases Nat.lt_or_ge m 25 with h23_28 | h23_28
                · rcases Nat.lt_or_ge m 24 with h23_25 | h23_25
                  · have e : m = 23 := by omega
                    subst e; exact ckm_23
                  · have e : m = 24 := by omega
                    subst e; exact ckm_24
                · rcases Nat.lt_or_ge m 26 with h25_28 | h25_28
                  · have e : m = 25 := by omega
                    subst e; exact ckm_25
                  · rcases Nat.lt_or_ge m 27 with h26_28 | h26_28
                    · have e : m = 26 := by omega
                      subst e; exact ckm_26
                    · have e : m = 27 := by omega
                      subst e; exact ckm_27
              · rcases Nat.lt_or_ge m 31 with h28_34 | h28_34
                · rcases Nat.lt_or_ge m 29 with h28_31 | h28_31
                  · have e : m = 28 := by omega
                    subst e; exact ckm_28
                  · rcases Nat.lt_or_ge m 30 with h29_31 | h29_31
                    · have e : m = 29 := by omega
                      subst e; exact ckm_29
                    · have e : m = 30 := by omega
                      subst e; exact ckm_30
                · rcases Nat.lt_or_ge m 32 with h31_34 | h31_34
                  · have e : m = 31 := by omega
                    subst e; exact ckm_31
                  · rcases Nat.lt_or_ge m 33 with h32_34 | h32_34
                    · have e : m = 32 := by omega
                      subst e; exact ckm_32
                    · have e : m = 33 := by omega
                      subst e; exact ckm_33
            · rcases Nat.lt_or_ge m 40 with h34_46 | h34_46
              · rcases Nat.lt_or_ge m 37 with h34_40 | h34_40
                · rcases Nat.lt_or_ge m 35 with h34_37 | h34_37
                  · have e : m = 34 := by omega
                    subst e; exact ckm_34
                  · rcases Nat.lt_or_ge m 36 with h35_37 | h35_37
                    · have e : m = 35 := by omega
                      subst e; exact ckm_35
                    · have e : m = 36 := by omega
                      subst e; exact ckm_36
                · rcases Nat.lt_or_ge m 38 with h37_40 | h37_40
                  · have e : m = 37 := by omega
                    subst e; exact ckm_37
                  · rcases Nat.lt_or_ge m 39 with h38_40 | h38_40
                    · have e : m = 38 := by omega
                      subst e; exact ckm_38
                    · have e : m = 39 := by omega
                      subst e; exact ckm_39
              · rcases Nat.lt_or_ge m 43 with h40_46 | h40_46
                · rcases Nat.lt_or_ge m 41 with h40_43 | h40_43
                  · have e : m = 40 := by omega
                    subst e; exact ckm_40
                  · rcases Nat.lt_or_ge m 42 with h41_43 | h41_43
                    · have e : m = 41 := by omega
                      subst e; exact ckm_41
                    · have e : m = 42 := by omega
                      subst e; exact ckm_42
                · rcases Nat.lt_or_ge m 44 with h43_46 | h43_46
                  · have e : m = 43 := by omega
                    subst e; exact ckm_43
                  · rcases Nat.lt_or_ge m 45 with h44_46 | h44_46
                    · have e : m = 44 := by omega
                      subst e; exact ckm_44
                    · have e : m = 45 := by omega
                      subst e; exact ckm_45
        · rcases Nat.lt_or_ge m 69 with h46_92 | h46_92
          · rcases Nat.lt_or_ge m 57 with h46_69 | h46_69
            · rcases Nat.lt_or_ge m 51 with h46_57 | h46_57
              · rcases Nat.lt_or_ge m 48 with h46_51 | h46_51
                · rcases Nat.lt_or_ge m 47 with h46_48 | h46_48
                  · have e : m = 46 := by omega
                    subst e; exact ckm_46
                  · have e : m = 47 := by omega
                    subst e; exact ckm_47
                · rcases Nat.lt_or_ge m 49 with h48_51 | h48_51
                  · have e : m = 48 := by omega
                    subst e; exact ckm_48
                  · rcases Nat.lt_or_ge m 50 with h49_51 | h49_51
                    · have e : m = 49 := by omega
                      subst e; exact ckm_49
                    · have e : m = 50 := by omega
                      subst e; exact ckm_50
              · rcases Nat.lt_or_ge m 54 with h51_57 | h51_57
                · rcases Nat.lt_or_ge m 52 with h51_54 | h51_54
                  · have e : m = 51 := by omega
                    subst e; exact ckm_51
                  · rcases Nat.lt_or_ge m 53 with h52_54 | h52_54
                    · have e : m = 52 := by omega
                      subst e; exact ckm_52
                    · have e : m = 53 := by omega
                      subst e; exact ckm_53
                · rcases Nat.lt_or_ge m 55 with h54_57 | h54_57
                  · have e : m = 54 := by omega
                    subst e; exact ckm_54
                  · rcases Nat.lt_or_ge m 56 with h55_57 | h55_57
                    · have e : m = 55 := by omega
                      subst e; exact ckm_55
                    · have e : m = 56 := by omega
                      subst e; exact ckm_56
            · rcases Nat.lt_or_ge m 63 with h57_69 | h57_69
              · rcases Nat.lt_or_ge m 60 with h57_63 | h57_63
                · rcases Nat.lt_or_ge m 58 with h57_60 | h57_60
                  · have e : m = 57 := by omega
                    subst e; exact ckm_57
                  · rcases Nat.lt_or_ge m 59 with h58_60 | h58_60
                    · have e : m = 58 := by omega
                      subst e; exact ckm_58
                    · have e : m = 59 := by omega
                      subst e; exact ckm_59
                · rcases Nat.lt_or_ge m 61 with h60_63 | h60_63
                  · have e : m = 60 := by omega
                    subst e; exact ckm_60
                  · rcases Nat.lt_or_ge m 62 with h61_63 | h61_63
                    · have e : m = 61 := by omega
                      subst e; exact ckm_61
                    · have e : m = 62 := by omega
                      subst e; exact ckm_62
              · rcases Nat.lt_or_ge m 66 with h63_69 | h63_69
                · rcases Nat.lt_or_ge m 64 with h63_66 | h63_66
                  · have e : m = 63 := by omega
                    subst e; exact ckm_63
                  · rcases Nat.lt_or_ge m 65 with h64_66 | h64_66
                    · have e : m = 64 := by omega
                      subst e; exact ckm_64
                    · have e : m = 65 := by omega
                      subst e; exact ckm_65
                · rcases Nat.lt_or_ge m 67 with h66_69 | h66_69
                  · have e : m = 66 := by omega
                    subst e; exact ckm_66
                  · rcases Nat.lt_or_ge m 68 with h67_69 | h67_69
                    · have e : m = 67 := by omega
                      subst e; exact ckm_67
                    · have e : m = 68 := by omega
                      subst e; exact ckm_68
          · rcases Nat.lt_or_ge m 80 with h69_92 | h69_92
            · rcases Nat.lt_or_ge m 74 with h69_80 | h69_80
              · rcases Nat.lt_or_ge m 71 with h69_74 | h69_74
                · rcases Nat.lt_or_ge m 70 with h69_71 | h69_71
                  · have e : m = 69 := by omega
                    subst e; exact ckm_69
                  · have e : m = 70 := by omega
                    subst e; exact ckm_70
                · rcases Nat.lt_or_ge m 72 with h71_74 | h71_74
                  · have e : m = 71 := by omega
                    subst e; exact ckm_71
                  · rcases Nat.lt_or_ge m 73 with h72_74 | h72_74
                    · have e : m = 72 := by omega
                      subst e; exact ckm_72
                    · have e : m = 73 := by omega
                      subst e; exact ckm_73
              · rcases Nat.lt_or_ge m 77 with h74_80 | h74_80
                · rcases Nat.lt_or_ge m 75 with h74_77 | h74_77
                  · have e : m = 74 := by omega
                    subst e; exact ckm_74
                  · rcases Nat.lt_or_ge m 76 with h75_77 | h75_77
                    · have e : m = 75 := by omega
                      subst e; exact ckm_75
                    · have e : m = 76 := by omega
                      subst e; exact ckm_76
                · rcases Nat.lt_or_ge m 78 with h77_80 | h77_80
                  · have e : m = 77 := by omega
                    subst e; exact ckm_77
                  · rcases Nat.lt_or_ge m 79 with h78_80 | h78_80
                    · have e : m = 78 := by omega
                      subst e; exact ckm_78
                    · have e : m = 79 := by omega
                      subst e; exact ckm_79
            · rcases Nat.lt_or_ge m 86 with h80_92 | h80_92
              · rcases Nat.lt_or_ge m 83 with h80_86 | h80_86
                · rcases Nat.lt_or_ge m 81 with h80_83 | h80_83
                  · have e : m = 80 := by omega
                    subst e; exact ckm_80
                  · rcases Nat.lt_or_ge m 82 with h81_83 | h81_83
                    · have e : m = 81 := by omega
                      subst e; exact ckm_81
                    · have e : m = 82 := by omega
                      subst e; exact ckm_82
                · rcases Nat.lt_or_ge m 84 with h83_86 | h83_86
                  · have e : m = 83 := by omega
                    subst e; exact ckm_83
                  · rcases Nat.lt_or_ge m 85 with h84_86 | h84_86
                    · have e : m = 84 := by omega
                      subst e; exact ckm_84
                    · have e : m = 85 := by omega
                      subst e; exact ckm_85
              · rcases Nat.lt_or_ge m 89 with h86_92 | h86_92
                · rcases Nat.lt_or_ge m 87 with h86_89 | h86_89
                  · have e : m = 86 := by omega
                    subst e; exact ckm_86
                  · rcases Nat.lt_or_ge m 88 with h87_89 | h87_89
                    · have e : m = 87 := by omega
                      subst e; exact ckm_87
                    · have e : m = 88 := by omega
                      subst e; exact ckm_88
                · rcases Nat.lt_or_ge m 90 with h89_92 | h89_92
                  · have e : m = 89 := by omega
                    subst e; exact ckm_89
                  · rcases Nat.lt_or_ge m 91 with h90_92 | h90_92
                    · have e : m = 90 := by omega
                      subst e; exact ckm_90
                    · have e : m = 91 := by omega
                      subst e; exact ckm_91
      · rcases Nat.lt_or_ge m 138 with h92_184 | h92_184
        · rcases Nat.lt_or_ge m 115 with h92_138 | h92_138
          · rcases Nat.lt_or_ge m 103 with h92_115 | h92_115
            · rcases Nat.lt_or_ge m 97 with h92_103 | h92_103
              · rcases Nat.lt_or_ge m 94 with h92_97 | h92_97
                · rcases Nat.lt_or_ge m 93 with h92_94 | h92_94
                  · have e : m = 92 := by omega
                    subst e; exact ckm_92
                  · have e : m = 93 := by omega
                    subst e; exact ckm_93
                · rcases Nat.lt_or_ge m 95 with h94_97 | h94_97
                  · have e : m = 94 := by omega
                    subst e; exact ckm_94
                  · rcases Nat.lt_or_ge m 96 with h95_97 | h95_97
                    · have e : m = 95 := by omega
                      subst e; exact ckm_95
                    · have e : m = 96 := by omega
                      subst e; exact ckm_96
              · rcases Nat.lt_or_ge m 100 with h97_103 | h97_103
                · rcases Nat.lt_or_ge m 98 with h97_100 | h97_100
                  · have e : m = 97 := by omega
                    subst e; exact ckm_97
                  · rcases Nat.lt_or_ge m 99 with h98_100 | h98_100
                    · have e : m = 98 := by omega
                      subst e; exact ckm_98
                    · have e : m = 99 := by omega
                      subst e; exact ckm_99
                · rcases Nat.lt_or_ge m 101 with h100_103 | h100_103
                  · have e : m = 100 := by omega
                    subst e; exact ckm_100
                  · rcases Nat.lt_or_ge m 102 with h101_103 | h101_103
                    · have e : m = 101 := by omega
                      subst e; exact ckm_101
                    · have e : m = 102 := by omega
                      subst e; exact ckm_102
            · rcases Nat.lt_or_ge m 109 with h103_115 | h103_115
              · rcases Nat.lt_or_ge m 106 with h103_109 | h103_109
                · rcases Nat.lt_or_ge m 104 with h103_106 | h103_106
                  · have e : m = 103 := by omega
                    subst e; exact ckm_103
                  · rcases Nat.lt_or_ge m 105 with h104_106 | h104_106
                    · have e : m = 104 := by omega
                      subst e; exact ckm_104
                    · have e : m = 105 := by omega
                      subst e; exact ckm_105
                · rcases Nat.lt_or_ge m 107 with h106_109 | h106_109
                  · have e : m = 106 := by omega
                    subst e; exact ckm_106
                  · rcases Nat.lt_or_ge m 108 with h107_109 | h107_109
                    · have e : m = 107 := by omega
                      subst e; exact ckm_107
                    · have e : m = 108 := by omega
                      subst e; exact ckm_108
              · rcases Nat.lt_or_ge m 112 with h109_115 | h109_115
                · rcases Nat.lt_or_ge m 110 with h109_112 | h109_112
                  · have e : m = 109 := by omega
                    subst e; exact ckm_109
                  · rcases Nat.lt_or_ge m 111 with h110_112 | h110_112
                    · have e : m = 110 := by omega
                      subst e; exact ckm_110
                    · have e : m = 111 := by omega
                      subst e; exact ckm_111
                · rcases Nat.lt_or_ge m 113 with h112_115 | h112_115
                  · have e : m = 112 := by omega
                    subst e; exact ckm_112
                  · rcases Nat.lt_or_ge m 114 with h113_115 | h113_115
                    · have e : m = 113 := by omega
                      subst e; exact ckm_113
                    · have e : m = 114 := by omega
                      subst e; exact ckm_114
          · rcases Nat.lt_or_ge m 126 with h115_138 | h115_138
            · rcases Nat.lt_or_ge m 120 with h115_126 | h115_126
              · rcases Nat.lt_or_ge m 117 with h115_120 | h115_120
                · rcases Nat.lt_or_ge m 116 with h115_117 | h115_117
                  · have e : m = 115 := by omega
                    subst e; exact ckm_115
                  · have e : m = 116 := by omega
                    subst e; exact ckm_116
                · rcases Nat.lt_or_ge m 118 with h117_120 | h117_120
                  · have e : m = 117 := by omega
                    subst e; exact ckm_117
                  · rcases Nat.lt_or_ge m 119 with h118_120 | h118_120
                    · have e : m = 118 := by omega
                      subst e; exact ckm_118
                    · have e : m = 119 := by omega
                      subst e; exact ckm_119
              · rcases Nat.lt_or_ge m 123 with h120_126 | h120_126
                · rcases Nat.lt_or_ge m 121 with h120_123 | h120_123
                  · have e : m = 120 := by omega
                    subst e; exact ckm_120
                  · rcases Nat.lt_or_ge m 122 with h121_123 | h121_123
                    · have e : m = 121 := by omega
                      subst e; exact ckm_121
                    · have e : m = 122 := by omega
                      subst e; exact ckm_122
                · rcases Nat.lt_or_ge m 124 with h123_126 | h123_126
                  · have e : m = 123 := by omega
                    subst e; exact ckm_123
                  · rcases Nat.lt_or_ge m 125 with h124_126 | h124_126
                    · have e : m = 124 := by omega
                      subst e; exact ckm_124
                    · have e : m = 125 := by omega
                      subst e; exact ckm_125
            · rcases Nat.lt_or_ge m 132 with h126_138 | h126_138
              · rcases Nat.lt_or_ge m 129 with h126_132 | h126_132
                · rcases Nat.lt_or_ge m 127 with h126_129 | h126_129
                  · have e : m = 126 := by omega
                    subst e; exact ckm_126
                  · rcases Nat.lt_or_ge m 128 with h127_129 | h127_129
                    · have e : m = 127 := by omega
                      subst e; exact ckm_127
                    · have e : m = 128 := by omega
                      subst e; exact ckm_128
                · rcases Nat.lt_or_ge m 130 with h129_132 | h129_132
                  · have e : m = 129 := by omega
                    subst e; exact ckm_129
                  · rcases Nat.lt_or_ge m 131 with h130_132 | h130_132
                    · have e : m = 130 := by omega
                      subst e; exact ckm_130
                    · have e : m = 131 := by omega
                      subst e; exact ckm_131
              · rcases Nat.lt_or_ge m 135 with h132_138 | h132_138
                · rcases Nat.lt_or_ge m 133 with h132_135 | h132_135
                  · have e : m = 132 := by omega
                    subst e; exact ckm_132
                  · rcases Nat.lt_or_ge m 134 with h133_135 | h133_135
                    · have e : m = 133 := by omega
                      subst e; exact ckm_133
                    · have e : m = 134 := by omega
                      subst e; exact ckm_134
                · rcases Nat.lt_or_ge m 136 with h135_138 | h135_138
                  · have e : m = 135 := by omega
                    subst e; exact ckm_135
                  · rcases Nat.lt_or_ge m 137 with h136_138 | h136_138
                    · have e : m = 136 := by omega
                      subst e; exact ckm_136
                    · have e : m = 137 := by omega
                      subst e; exact ckm_137
        · rcases Nat.lt_or_ge m 161 with h138_184 | h138_184
          · rcases Nat.lt_or_ge m 149 with h138_161 | h138_161
            · rcases Nat.lt_or_ge m 143 with h138_149 | h138_149
              · rcases Nat.lt_or_ge m 140 with h138_143 | h138_143
                · rcases Nat.lt_or_ge m 139 with h138_140 | h138_140
                  · have e : m = 138 := by omega
                    subst e; exact ckm_138
                  · have e : m = 139 := by omega
                    subst e; exact ckm_139
                · rcases Nat.lt_or_ge m 141 with h140_143 | h140_143
                  · have e : m = 140 := by omega
                    subst e; exact ckm_140
                  · rcases Nat.lt_or_ge m 142 with h141_143 | h141_143
                    · have e : m = 141 := by omega
                      subst e; exact ckm_141
                    · have e : m = 142 := by omega
                      subst e; exact ckm_142
              · rcases Nat.lt_or_ge m 146 with h143_149 | h143_149
                · rcases Nat.lt_or_ge m 144 with h143_146 | h143_146
                  · have e : m = 143 := by omega
                    subst e; exact ckm_143
                  · rcases Nat.lt_or_ge m 145 with h144_146 | h144_146
                    · have e : m = 144 := by omega
                      subst e; exact ckm_144
                    · have e : m = 145 := by omega
                      subst e; exact ckm_145
                · rcases Nat.lt_or_ge m 147 with h146_149 | h146_149
                  · have e : m = 146 := by omega
                    subst e; exact ckm_146
                  · rcases Nat.lt_or_ge m 148 with h147_149 | h147_149
                    · have e : m = 147 := by omega
                      subst e; exact ckm_147
                    · have e : m = 148 := by omega
                      subst e; exact ckm_148
            · rcases Nat.lt_or_ge m 155 with h149_161 | h149_161
              · rcases Nat.lt_or_ge m 152 with h149_155 | h149_155
                · rcases Nat.lt_or_ge m 150 with h149_152 | h149_152
                  · have e : m = 149 := by omega
                    subst e; exact ckm_149
                  · rcases Nat.lt_or_ge m 151 with h150_152 | h150_152
                    · have e : m = 150 := by omega
                      subst e; exact ckm_150
                    · have e : m = 151 := by omega
                      subst e; exact ckm_151
                · rcases Nat.lt_or_ge m 153 with h152_155 | h152_155
                  · have e : m = 152 := by omega
                    subst e; exact ckm_152
                  · rcases Nat.lt_or_ge m 154 with h153_155 | h153_155
                    · have e : m = 153 := by omega
                      subst e; exact ckm_153
                    · have e : m = 154 := by omega
                      subst e; exact ckm_154
              · rcases Nat.lt_or_ge m 158 with h155_161 | h155_161
                · rcases Nat.lt_or_ge m 156 with h155_158 | h155_158
                  · have e : m = 155 := by omega
                    subst e; exact ckm_155
                  · rcases Nat.lt_or_ge m 157 with h156_158 | h156_158
                    · have e : m = 156 := by omega
                      subst e; exact ckm_156
                    · have e : m = 157 := by omega
                      subst e; exact ckm_157
                · rcases Nat.lt_or_ge m 159 with h158_161 | h158_161
                  · have e : m = 158 := by omega
                    subst e; exact ckm_158
                  · rcases Nat.lt_or_ge m 160 with h159_161 | h159_161
                    · have e : m = 159 := by omega
                      subst e; exact ckm_159
                    · have e : m = 160 := by omega
                      subst e; exact ckm_160
          · rcases Nat.lt_or_ge m 172 with h161_184 | h161_184
            · rcases Nat.lt_or_ge m 166 with h161_172 | h161_172
              · rcases Nat.lt_or_ge m 163 with h161_166 | h161_166
                · rcases Nat.lt_or_ge m 162 with h161_163 | h161_163
                  · have e : m = 161 := by omega
                    subst e; exact ckm_161
                  · have e : m = 162 := by omega
                    subst e; exact ckm_162
                · rcases Nat.lt_or_ge m 164 with h163_166 | h163_166
                  · have e : m = 163 := by omega
                    subst e; exact ckm_163
                  · rcases Nat.lt_or_ge m 165 with h164_166 | h164_166
                    · have e : m = 164 := by omega
                      subst e; exact ckm_164
                    · have e : m = 165 := by omega
                      subst e; exact ckm_165
              · rcases Nat.lt_or_ge m 169 with h166_172 | h166_172
                · rcases Nat.lt_or_ge m 167 with h166_169 | h166_169
                  · have e : m = 166 := by omega
                    subst e; exact ckm_166
                  · rcases Nat.lt_or_ge m 168 with h167_169 | h167_169
                    · have e : m = 167 := by omega
                      subst e; exact ckm_167
                    · have e : m = 168 := by omega
                      subst e; exact ckm_168
                · rcases Nat.lt_or_ge m 170 with h169_172 | h169_172
                  · have e : m = 169 := by omega
                    subst e; exact ckm_169
                  · rcases Nat.lt_or_ge m 171 with h170_172 | h170_172
                    · have e : m = 170 := by omega
                      subst e; exact ckm_170
                    · have e : m = 171 := by omega
                      subst e; exact ckm_171
            · rcases Nat.lt_or_ge m 178 with h172_184 | h172_184
              · rcases Nat.lt_or_ge m 175 with h172_178 | h172_178
                · rcases Nat.lt_or_ge m 173 with h172_175 | h172_175
                  · have e : m = 172 := by omega
                    subst e; exact ckm_172
                  · rcases Nat.lt_or_ge m 174 with h173_175 | h173_175
                    · have e : m = 173 := by omega
                      subst e; exact ckm_173
                    · have e : m = 174 := by omega
                      subst e; exact ckm_174
                · rcases Nat.lt_or_ge m 176 with h175_178 | h175_178
                  · have e : m = 175 := by omega
                    subst e; exact ckm_175
                  · rcases Nat.lt_or_ge m 177 with h176_178 | h176_178
                    · have e : m = 176 := by omega
                      subst e; exact ckm_176
                    · have e : m = 177 := by omega
                      subst e; exact ckm_177
              · rcases Nat.lt_or_ge m 181 with h178_184 | h178_184
                · rcases Nat.lt_or_ge m 179 with h178_181 | h178_181
                  · have e : m = 178 := by omega
                    subst e; exact ckm_178
                  · rcases Nat.lt_or_ge m 180 with h179_181 | h179_181
                    · have e : m = 179 := by omega
                      subst e; exact ckm_179
                    · have e : m = 180 := by omega
                      subst e; exact ckm_180
                · rcases Nat.lt_or_ge m 182 with h181_184 | h181_184
                  · have e : m = 181 := by omega
                    subst e; exact ckm_181
                  · rcases Nat.lt_or_ge m 183 with h182_184 | h182_184
                    · have e : m = 182 := by omega
                      subst e; exact ckm_182
                    · have e : m = 183 := by omega
                      subst e; exact ckm_183
    · rcases Nat.lt_or_ge m 276 with h184_369 | h184_369
      · rcases Nat.lt_or_ge m 230 with h184_276 | h184_276
        · rcases Nat.lt_or_ge m 207 with h184_230 | h184_230
          · rcases Nat.lt_or_ge m 195 with h184_207 | h184_207
            · rcases Nat.lt_or_ge m 189 with h184_195 | h184_195
              · rcases Nat.lt_or_ge m 186 with h184_189 | h184_189
                · rcases Nat.lt_or_ge m 185 with h184_186 | h184_186
                  · have e : m = 184 := by omega
                    subst e; exact ckm_184
                  · have e : m = 185 := by omega
                    subst e; exact ckm_185
                · rcases Nat.lt_or_ge m 187 with h186_189 | h186_189
                  · have e : m = 186 := by omega
                    subst e; exact ckm_186
                  · rcases Nat.lt_or_ge m 188 with h187_189 | h187_189
                    · have e : m = 187 := by omega
                      subst e; exact ckm_187
                    · have e : m = 188 := by omega
                      subst e; exact ckm_188
              · rcases Nat.lt_or_ge m 192 with h189_195 | h189_195
                · rcases Nat.lt_or_ge m 190 with h189_192 | h189_192
                  · have e : m = 189 := by omega
                    subst e; exact ckm_189
                  · rcases Nat.lt_or_ge m 191 with h190_192 | h190_192
                    · have e : m = 190 := by omega
                      subst e; exact ckm_190
                    · have e : m = 191 := by omega
                      subst e; exact ckm_191
                · rcases Nat.lt_or_ge m 193 with h192_195 | h192_195
                  · have e : m = 192 := by omega
                    subst e; exact ckm_192
                  · rcases Nat.lt_or_ge m 194 with h193_195 | h193_195
                    · have e : m = 193 := by omega
                      subst e; exact ckm_193
                    · have e : m = 194 := by omega
                      subst e; exact ckm_194
            · rcases Nat.lt_or_ge m 201 with h195_207 | h195_207
              · rcases Nat.lt_or_ge m 198 with h195_201 | h195_201
                · rcases Nat.lt_or_ge m 196 with h195_198 | h195_198
                  · have e : m = 195 := by omega
                    subst e; exact ckm_195
                  · rcases Nat.lt_or_ge m 197 with h196_198 | h196_198
                    · have e : m = 196 := by omega
                      subst e; exact ckm_196
                    · have e : m = 197 := by omega
                      subst e; exact ckm_197
                · rcases Nat.lt_or_ge m 199 with h198_201 | h198_201
                  · have e : m = 198 := by omega
                    subst e; exact ckm_198
                  · rcases Nat.lt_or_ge m 200 with h199_201 | h199_201
                    · have e : m = 199 := by omega
                      subst e; exact ckm_199
                    · have e : m = 200 := by omega
                      subst e; exact ckm_200
              · rcases Nat.lt_or_ge m 204 with h201_207 | h201_207
                · rcases Nat.lt_or_ge m 202 with h201_204 | h201_204
                  · have e : m = 201 := by omega
                    subst e; exact ckm_201
                  · rcases Nat.lt_or_ge m 203 with h202_204 | h202_204
                    · have e : m = 202 := by omega
                      subst e; exact ckm_202
                    · have e : m = 203 := by omega
                      subst e; exact ckm_203
                · rcases Nat.lt_or_ge m 205 with h204_207 | h204_207
                  · have e : m = 204 := by omega
                    subst e; exact ckm_204
                  · rcases Nat.lt_or_ge m 206 with h205_207 | h205_207
                    · have e : m = 205 := by omega
                      subst e; exact ckm_205
                    · have e : m = 206 := by omega
                      subst e; exact ckm_206
          · rcases Nat.lt_or_ge m 218 with h207_230 | h207_230
            · rcases Nat.lt_or_ge m 212 with h207_218 | h207_218
              · rcases Nat.lt_or_ge m 209 with h207_212 | h207_212
                · rcases Nat.lt_or_ge m 208 with h207_209 | h207_209
                  · have e : m = 207 := by omega
                    subst e; exact ckm_207
                  · have e : m = 208 := by omega
                    subst e; exact ckm_208
                · rcases Nat.lt_or_ge m 210 with h209_212 | h209_212
                  · have e : m = 209 := by omega
                    subst e; exact ckm_209
                  · rcases Nat.lt_or_ge m 211 with h210_212 | h210_212
                    · have e : m = 210 := by omega
                      subst e; exact ckm_210
                    · have e : m = 211 := by omega
                      subst e; exact ckm_211
              · rcases Nat.lt_or_ge m 215 with h212_218 | h212_218
                · rcases Nat.lt_or_ge m 213 with h212_215 | h212_215
                  · have e : m = 212 := by omega
                    subst e; exact ckm_212
                  · rcases Nat.lt_or_ge m 214 with h213_215 | h213_215
                    · have e : m = 213 := by omega
                      subst e; exact ckm_213
                    · have e : m = 214 := by omega
                      subst e; exact ckm_214
                · rcases Nat.lt_or_ge m 216 with h215_218 | h215_218
                  · have e : m = 215 := by omega
                    subst e; exact ckm_215
                  · rcases Nat.lt_or_ge m 217 with h216_218 | h216_218
                    · have e : m = 216 := by omega
                      subst e; exact ckm_216
                    · have e : m = 217 := by omega
                      subst e; exact ckm_217
            · rcases Nat.lt_or_ge m 224 with h218_230 | h218_230
              · rcases Nat.lt_or_ge m 221 with h218_224 | h218_224
                · rcases Nat.lt_or_ge m 219 with h218_221 | h218_221
                  · have e : m = 218 := by omega
                    subst e; exact ckm_218
                  · rcases Nat.lt_or_ge m 220 with h219_221 | h219_221
                    · have e : m = 219 := by omega
                      subst e; exact ckm_219
                    · have e : m = 220 := by omega
                      subst e; exact ckm_220
                · rcases Nat.lt_or_ge m 222 with h221_224 | h221_224
                  · have e : m = 221 := by omega
                    subst e; exact ckm_221
                  · rcases Nat.lt_or_ge m 223 with h222_224 | h222_224
                    · have e : m = 222 := by omega
                      subst e; exact ckm_222
                    · have e : m = 223 := by omega
                      subst e; exact ckm_223
              · rcases Nat.lt_or_ge m 227 with h224_230 | h224_230
                · rcases Nat.lt_or_ge m 225 with h224_227 | h224_227
                  · have e : m = 224 := by omega
                    subst e; exact ckm_224
                  · rcases Nat.lt_or_ge m 226 with h225_227 | h225_227
                    · have e : m = 225 := by omega
                      subst e; exact ckm_225
                    · have e : m = 226 := by omega
                      subst e; exact ckm_226
                · rcases Nat.lt_or_ge m 228 with h227_230 | h227_230
                  · have e : m = 227 := by omega
                    subst e; exact ckm_227
                  · rcases Nat.lt_or_ge m 229 with h228_230 | h228_230
                    · have e : m = 228 := by omega
                      subst e; exact ckm_228
                    · have e : m = 229 := by omega
                      subst e; exact ckm_229
        · rcases Nat.lt_or_ge m 253 with h230_276 | h230_276
          · rcases Nat.lt_or_ge m 241 with h230_253 | h230_253
            · rcases Nat.lt_or_ge m 235 with h230_241 | h230_241
              · rcases Nat.lt_or_ge m 232 with h230_235 | h230_235
                · rcases Nat.lt_or_ge m 231 with h230_232 | h230_232
                  · have e : m = 230 := by omega
                    subst e; exact ckm_230
                  · have e : m = 231 := by omega
                    subst e; exact ckm_231
                · rcases Nat.lt_or_ge m 233 with h232_235 | h232_235
                  · have e : m = 232 := by omega
                    subst e; exact ckm_232
                  · rcases Nat.lt_or_ge m 234 with h233_235 | h233_235
                    · have e : m = 233 := by omega
                      subst e; exact ckm_233
                    · have e : m = 234 := by omega
                      subst e; exact ckm_234
              · rcases Nat.lt_or_ge m 238 with h235_241 | h235_241
                · rcases Nat.lt_or_ge m 236 with h235_238 | h235_238
                  · have e : m = 235 := by omega
                    subst e; exact ckm_235
                  · rcases Nat.lt_or_ge m 237 with h236_238 | h236_238
                    · have e : m = 236 := by omega
                      subst e; exact ckm_236
                    · have e : m = 237 := by omega
                      subst e; exact ckm_237
                · rcases Nat.lt_or_ge m 239 with h238_241 | h238_241
                  · have e : m = 238 := by omega
                    subst e; exact ckm_238
                  · rcases Nat.lt_or_ge m 240 with h239_241 | h239_241
                    · have e : m = 239 := by omega
                      subst e; exact ckm_239
                    · have e : m = 240 := by omega
                      subst e; exact ckm_240
            · rcases Nat.lt_or_ge m 247 with h241_253 | h241_253
              · rcases Nat.lt_or_ge m 244 with h241_247 | h241_247
                · rcases Nat.lt_or_ge m 242 with h241_244 | h241_244
                  · have e : m = 241 := by omega
                    subst e; exact ckm_241
                  · rcases Nat.lt_or_ge m 243 with h242_244 | h242_244
                    · have e : m = 242 := by omega
                      subst e; exact ckm_242
                    · have e : m = 243 := by omega
                      subst e; exact ckm_243
                · rcases Nat.lt_or_ge m 245 with h244_247 | h244_247
                  · have e : m = 244 := by omega
                    subst e; exact ckm_244
                  · rcases Nat.lt_or_ge m 246 with h245_247 | h245_247
                    · have e : m = 245 := by omega
                      subst e; exact ckm_245
                    · have e : m = 246 := by omega
                      subst e; exact ckm_246
              · rcases Nat.lt_or_ge m 250 with h247_253 | h247_253
                · rcases Nat.lt_or_ge m 248 with h247_250 | h247_250
                  · have e : m = 247 := by omega
                    subst e; exact ckm_247
                  · rcases Nat.lt_or_ge m 249 with h248_250 | h248_250
                    · have e : m = 248 := by omega
                      subst e; exact ckm_248
                    · have e : m = 249 := by omega
                      subst e; exact ckm_249
                · rcases Nat.lt_or_ge m 251 with h250_253 | h250_253
                  · have e : m = 250 := by omega
                    subst e; exact ckm_250
                  · rcases Nat.lt_or_ge m 252 with h251_253 | h251_253
                    · have e : m = 251 := by omega
                      subst e; exact ckm_251
                    · have e : m = 252 := by omega
                      subst e; exact ckm_252
          · rcases Nat.lt_or_ge m 264 with h253_276 | h253_276
            · rcases Nat.lt_or_ge m 258 with h253_264 | h253_264
              · rcases Nat.lt_or_ge m 255 with h253_258 | h253_258
                · rcases Nat.lt_or_ge m 254 with h253_255 | h253_255
                  · have e : m = 253 := by omega
                    subst e; exact ckm_253
                  · have e : m = 254 := by omega
                    subst e; exact ckm_254
                · rcases Nat.lt_or_ge m 256 with h255_258 | h255_258
                  · have e : m = 255 := by omega
                    subst e; exact ckm_255
                  · rcases Nat.lt_or_ge m 257 with h256_258 | h256_258
                    · have e : m = 256 := by omega
                      subst e; exact ckm_256
                    · have e : m = 257 := by omega
                      subst e; exact ckm_257
              · rcases Nat.lt_or_ge m 261 with h258_264 | h258_264
                · rcases Nat.lt_or_ge m 259 with h258_261 | h258_261
                  · have e : m = 258 := by omega
                    subst e; exact ckm_258
                  · rcases Nat.lt_or_ge m 260 with h259_261 | h259_261
                    · have e : m = 259 := by omega
                      subst e; exact ckm_259
                    · have e : m = 260 := by omega
                      subst e; exact ckm_260
                · rcases Nat.lt_or_ge m 262 with h261_264 | h261_264
                  · have e : m = 261 := by omega
                    subst e; exact ckm_261
                  · rcases Nat.lt_or_ge m 263 with h262_264 | h262_264
                    · have e : m = 262 := by omega
                      subst e; exact ckm_262
                    · have e : m = 263 := by omega
                      subst e; exact ckm_263
            · rcases Nat.lt_or_ge m 270 with h264_276 | h264_276
              · rcases Nat.lt_or_ge m 267 with h264_270 | h264_270
                · rcases Nat.lt_or_ge m 265 with h264_267 | h264_267
                  · have e : m = 264 := by omega
                    subst e; exact ckm_264
                  · rcases Nat.lt_or_ge m 266 with h265_267 | h265_267
                    · have e : m = 265 := by omega
                      subst e; exact ckm_265
                    · have e : m = 266 := by omega
                      subst e; exact ckm_266
                · rcases Nat.lt_or_ge m 268 with h267_270 | h267_270
                  · have e : m = 267 := by omega
                    subst e; exact ckm_267
                  · rcases Nat.lt_or_ge m 269 with h268_270 | h268_270
                    · have e : m = 268 := by omega
                      subst e; exact ckm_268
                    · have e : m = 269 := by omega
                      subst e; exact ckm_269
              · rcases Nat.lt_or_ge m 273 with h270_276 | h270_276
                · rcases Nat.lt_or_ge m 271 with h270_273 | h270_273
                  · have e : m = 270 := by omega
                    subst e; exact ckm_270
                  · rcases Nat.lt_or_ge m 272 with h271_273 | h271_273
                    · have e : m = 271 := by omega
                      subst e; exact ckm_271
                    · have e : m = 272 := by omega
                      subst e; exact ckm_272
                · rcases Nat.lt_or_ge m 274 with h273_276 | h273_276
                  · have e : m = 273 := by omega
                    subst e; exact ckm_273
                  · rcases Nat.lt_or_ge m 275 with h274_276 | h274_276
                    · have e : m = 274 := by omega
                      subst e; exact ckm_274
                    · have e : m = 275 := by omega
                      subst e; exact ckm_275
      · rcases Nat.lt_or_ge m 322 with h276_369 | h276_369
        · rcases Nat.lt_or_ge m 299 with h276_322 | h276_322
          · rcases Nat.lt_or_ge m 287 with h276_299 | h276_299
            · rcases Nat.lt_or_ge m 281 with h276_287 | h276_287
              · rcases Nat.lt_or_ge m 278 with h276_281 | h276_281
                · rcases Nat.lt_or_ge m 277 with h276_278 | h276_278
                  · have e : m = 276 := by omega
                    subst e; exact ckm_276
                  · have e : m = 277 := by omega
                    subst e; exact ckm_277
                · rcases Nat.lt_or_ge m 279 with h278_281 | h278_281
                  · have e : m = 278 := by omega
                    subst e; exact ckm_278
                  · rcases Nat.lt_or_ge m 280 with h279_281 | h279_281
                    · have e : m = 279 := by omega
                      subst e; exact ckm_279
                    · have e : m = 280 := by omega
                      subst e; exact ckm_280
              · rcases Nat.lt_or_ge m 284 with h281_287 | h281_287
                · rcases Nat.lt_or_ge m 282 with h281_284 | h281_284
                  · have e : m = 281 := by omega
                    subst e; exact ckm_281
                  · rcases Nat.lt_or_ge m 283 with h282_284 | h282_284
                    · have e : m = 282 := by omega
                      subst e; exact ckm_282
                    · have e : m = 283 := by omega
                      subst e; exact ckm_283
                · rcases Nat.lt_or_ge m 285 with h284_287 | h284_287
                  · have e : m = 284 := by omega
                    subst e; exact ckm_284
                  · rcases Nat.lt_or_ge m 286 with h285_287 | h285_287
                    · have e : m = 285 := by omega
                      subst e; exact ckm_285
                    · have e : m = 286 := by omega
                      subst e; exact ckm_286
            · rcases Nat.lt_or_ge m 293 with h287_299 | h287_299
              · rcases Nat.lt_or_ge m 290 with h287_293 | h287_293
                · rcases Nat.lt_or_ge m 288 with h287_290 | h287_290
                  · have e : m = 287 := by omega
                    subst e; exact ckm_287
                  · rcases Nat.lt_or_ge m 289 with h288_290 | h288_290
                    · have e : m = 288 := by omega
                      subst e; exact ckm_288
                    · have e : m = 289 := by omega
                      subst e; exact ckm_289
                · rcases Nat.lt_or_ge m 291 with h290_293 | h290_293
                  · have e : m = 290 := by omega
                    subst e; exact ckm_290
                  · rcases Nat.lt_or_ge m 292 with h291_293 | h291_293
                    · have e : m = 291 := by omega
                      subst e; exact ckm_291
                    · have e : m = 292 := by omega
                      subst e; exact ckm_292
              · rcases Nat.lt_or_ge m 296 with h293_299 | h293_299
                · rcases Nat.lt_or_ge m 294 with h293_296 | h293_296
                  · have e : m = 293 := by omega
                    subst e; exact ckm_293
                  · rcases Nat.lt_or_ge m 295 with h294_296 | h294_296
                    · have e : m = 294 := by omega
                      subst e; exact ckm_294
                    · have e : m = 295 := by omega
                      subst e; exact ckm_295
                · rcases Nat.lt_or_ge m 297 with h296_299 | h296_299
                  · have e : m = 296 := by omega
                    subst e; exact ckm_296
                  · rcases Nat.lt_or_ge m 298 with h297_299 | h297_299
                    · have e : m = 297 := by omega
                      subst e; exact ckm_297
                    · have e : m = 298 := by omega
                      subst e; exact ckm_298
          · rcases Nat.lt_or_ge m 310 with h299_322 | h299_322
            · rcases Nat.lt_or_ge m 304 with h299_310 | h299_310
              · rcases Nat.lt_or_ge m 301 with h299_304 | h299_304
                · rcases Nat.lt_or_ge m 300 with h299_301 | h299_301
                  · have e : m = 299 := by omega
                    subst e; exact ckm_299
                  · have e : m = 300 := by omega
                    subst e; exact ckm_300
                · rcases Nat.lt_or_ge m 302 with h301_304 | h301_304
                  · have e : m = 301 := by omega
                    subst e; exact ckm_301
                  · rcases Nat.lt_or_ge m 303 with h302_304 | h302_304
                    · have e : m = 302 := by omega
                      subst e; exact ckm_302
                    · have e : m = 303 := by omega
                      subst e; exact ckm_303
              · rcases Nat.lt_or_ge m 307 with h304_310 | h304_310
                · rcases Nat.lt_or_ge m 305 with h304_307 | h304_307
                  · have e : m = 304 := by omega
                    subst e; exact ckm_304
                  · rcases Nat.lt_or_ge m 306 with h305_307 | h305_307
                    · have e : m = 305 := by omega
                      subst e; exact ckm_305
                    · have e : m = 306 := by omega
                      subst e; exact ckm_306
                · rcases Nat.lt_or_ge m 308 with h307_310 | h307_310
                  · have e : m = 307 := by omega
                    subst e; exact ckm_307
                  · rcases Nat.lt_or_ge m 309 with h308_310 | h308_310
                    · have e : m = 308 := by omega
                      subst e; exact ckm_308
                    · have e : m = 309 := by omega
                      subst e; exact ckm_309
            · rcases Nat.lt_or_ge m 316 with h310_322 | h310_322
              · rcases Nat.lt_or_ge m 313 with h310_316 | h310_316
                · rcases Nat.lt_or_ge m 311 with h310_313 | h310_313
                  · have e : m = 310 := by omega
                    subst e; exact ckm_310
                  · rcases Nat.lt_or_ge m 312 with h311_313 | h311_313
                    · have e : m = 311 := by omega
                      subst e; exact ckm_311
                    · have e : m = 312 := by omega
                      subst e; exact ckm_312
                · rcases Nat.lt_or_ge m 314 with h313_316 | h313_316
                  · have e : m = 313 := by omega
                    subst e; exact ckm_313
                  · rcases Nat.lt_or_ge m 315 with h314_316 | h314_316
                    · have e : m = 314 := by omega
                      subst e; exact ckm_314
                    · have e : m = 315 := by omega
                      subst e; exact ckm_315
              · rcases Nat.lt_or_ge m 319 with h316_322 | h316_322
                · rcases Nat.lt_or_ge m 317 with h316_319 | h316_319
                  · have e : m = 316 := by omega
                    subst e; exact ckm_316
                  · rcases Nat.lt_or_ge m 318 with h317_319 | h317_319
                    · have e : m = 317 := by omega
                      subst e; exact ckm_317
                    · have e : m = 318 := by omega
                      subst e; exact ckm_318
                · rcases Nat.lt_or_ge m 320 with h319_322 | h319_322
                  · have e : m = 319 := by omega
                    subst e; exact ckm_319
                  · rcases Nat.lt_or_ge m 321 with h320_322 | h320_322
                    · have e : m = 320 := by omega
                      subst e; exact ckm_320
                    · have e : m = 321 := by omega
                      subst e; exact ckm_321
        · rcases Nat.lt_or_ge m 345 with h322_369 | h322_369
          · rcases Nat.lt_or_ge m 333 with h322_345 | h322_345
            · rcases Nat.lt_or_ge m 327 with h322_333 | h322_333
              · rcases Nat.lt_or_ge m 324 with h322_327 | h322_327
                · rcases Nat.lt_or_ge m 323 with h322_324 | h322_324
                  · have e : m = 322 := by omega
                    subst e; exact ckm_322
                  · have e : m = 323 := by omega
                    subst e; exact ckm_323
                · rcases Nat.lt_or_ge m 325 with h324_327 | h324_327
                  · have e : m = 324 := by omega
                    subst e; exact ckm_324
                  · rcases Nat.lt_or_ge m 326 with h325_327 | h325_327
                    · have e : m = 325 := by omega
                      subst e; exact ckm_325
                    · have e : m = 326 := by omega
                      subst e; exact ckm_326
              · rcases Nat.lt_or_ge m 330 with h327_333 | h327_333
                · rcases Nat.lt_or_ge m 328 with h327_330 | h327_330
                  · have e : m = 327 := by omega
                    subst e; exact ckm_327
                  · rcases Nat.lt_or_ge m 329 with h328_330 | h328_330
                    · have e : m = 328 := by omega
                      subst e; exact ckm_328
                    · have e : m = 329 := by omega
                      subst e; exact ckm_329
                · rcases Nat.lt_or_ge m 331 with h330_333 | h330_333
                  · have e : m = 330 := by omega
                    subst e; exact ckm_330
                  · rcases Nat.lt_or_ge m 332 with h331_333 | h331_333
                    · have e : m = 331 := by omega
                      subst e; exact ckm_331
                    · have e : m = 332 := by omega
                      subst e; exact ckm_332
            · rcases Nat.lt_or_ge m 339 with h333_345 | h333_345
              · rcases Nat.lt_or_ge m 336 with h333_339 | h333_339
                · rcases Nat.lt_or_ge m 334 with h333_336 | h333_336
                  · have e : m = 333 := by omega
                    subst e; exact ckm_333
                  · rcases Nat.lt_or_ge m 335 with h334_336 | h334_336
                    · have e : m = 334 := by omega
                      subst e; exact ckm_334
                    · have e : m = 335 := by omega
                      subst e; exact ckm_335
                · rcases Nat.lt_or_ge m 337 with h336_339 | h336_339
                  · have e : m = 336 := by omega
                    subst e; exact ckm_336
                  · rcases Nat.lt_or_ge m 338 with h337_339 | h337_339
                    · have e : m = 337 := by omega
                      subst e; exact ckm_337
                    · have e : m = 338 := by omega
                      subst e; exact ckm_338
              · rcases Nat.lt_or_ge m 342 with h339_345 | h339_345
                · rcases Nat.lt_or_ge m 340 with h339_342 | h339_342
                  · have e : m = 339 := by omega
                    subst e; exact ckm_339
                  · rcases Nat.lt_or_ge m 341 with h340_342 | h340_342
                    · have e : m = 340 := by omega
                      subst e; exact ckm_340
                    · have e : m = 341 := by omega
                      subst e; exact ckm_341
                · rcases Nat.lt_or_ge m 343 with h342_345 | h342_345
                  · have e : m = 342 := by omega
                    subst e; exact ckm_342
                  · rcases Nat.lt_or_ge m 344 with h343_345 | h343_345
                    · have e : m = 343 := by omega
                      subst e; exact ckm_343
                    · have e : m = 344 := by omega
                      subst e; exact ckm_344
          · rcases Nat.lt_or_ge m 357 with h345_369 | h345_369
            · rcases Nat.lt_or_ge m 351 with h345_357 | h345_357
              · rcases Nat.lt_or_ge m 348 with h345_351 | h345_351
                · rcases Nat.lt_or_ge m 346 with h345_348 | h345_348
                  · have e : m = 345 := by omega
                    subst e; exact ckm_345
                  · rcases Nat.lt_or_ge m 347 with h346_348 | h346_348
                    · have e : m = 346 := by omega
                      subst e; exact ckm_346
                    · have e : m = 347 := by omega
                      subst e; exact ckm_347
                · rcases Nat.lt_or_ge m 349 with h348_351 | h348_351
                  · have e : m = 348 := by omega
                    subst e; exact ckm_348
                  · rcases Nat.lt_or_ge m 350 with h349_351 | h349_351
                    · have e : m = 349 := by omega
                      subst e; exact ckm_349
                    · have e : m = 350 := by omega
                      subst e; exact ckm_350
              · rcases Nat.lt_or_ge m 354 with h351_357 | h351_357
                · rcases Nat.lt_or_ge m 352 with h351_354 | h351_354
                  · have e : m = 351 := by omega
                    subst e; exact ckm_351
                  · rcases Nat.lt_or_ge m 353 with h352_354 | h352_354
                    · have e : m = 352 := by omega
                      subst e; exact ckm_352
                    · have e : m = 353 := by omega
                      subst e; exact ckm_353
                · rcases Nat.lt_or_ge m 355 with h354_357 | h354_357
                  · have e : m = 354 := by omega
                    subst e; exact ckm_354
                  · rcases Nat.lt_or_ge m 356 with h355_357 | h355_357
                    · have e : m = 355 := by omega
                      subst e; exact ckm_355
                    · have e : m = 356 := by omega
                      subst e; exact ckm_356
            · rcases Nat.lt_or_ge m 363 with h357_369 | h357_369
              · rcases Nat.lt_or_ge m 360 with h357_363 | h357_363
                · rcases Nat.lt_or_ge m 358 with h357_360 | h357_360
                  · have e : m = 357 := by omega
                    subst e; exact ckm_357
                  · rcases Nat.lt_or_ge m 359 with h358_360 | h358_360
                    · have e : m = 358 := by omega
                      subst e; exact ckm_358
                    · have e : m = 359 := by omega
                      subst e; exact ckm_359
                · rcases Nat.lt_or_ge m 361 with h360_363 | h360_363
                  · have e : m = 360 := by omega
                    subst e; exact ckm_360
                  · rcases Nat.lt_or_ge m 362 with h361_363 | h361_363
                    · have e : m = 361 := by omega
                      subst e; exact ckm_361
                    · have e : m = 362 := by omega
                      subst e; exact ckm_362
              · rcases Nat.lt_or_ge m 366 with h363_369 | h363_369
                · rcases Nat.lt_or_ge m 364 with h363_366 | h363_366
                  · have e : m = 363 := by omega
                    subst e; exact ckm_363
                  · rcases Nat.lt_or_ge m 365 with h364_366 | h364_366
                    · have e : m = 364 := by omega
                      subst e; exact ckm_364
                    · have e : m = 365 := by omega
                      subst e; exact ckm_365
                · rcases Nat.lt_or_ge m 367 with h366_369 | h366_369
                  · have e : m = 366 := by omega
                    subst e; exact ckm_366
                  · rcases Nat.lt_or_ge m 368 with h367_369 | h367_369
                    · have e : m = 367 := by omega
                      subst e; exact ckm_367
                    · have e : m = 368 := by omega
                      subst e; exact ckm_368
theorem ck_at {mm : Nat} (h : mm < 369) (pc : Nat) : ckL mm (mOwn mm) (mCode mm) (codeAt mm pc) pc = true :=
  lkp_all (P := fun k L => ckL mm (mOwn mm) (mCode mm) L k = true) rfl (fun q hq => List.all_eq_true.mp (ckm_all mm h) q hq)
