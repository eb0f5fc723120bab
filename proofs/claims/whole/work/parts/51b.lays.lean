/-! the words that every activation keeps; the words of the fields, class by class; by program -/
/-- a word that stays true while the program runs -/
def gw : Cond → Bool
  | .declares _ => true
  | .castable _ _ => true
  | .methodLinkNest _ _ _ _ => true
  | w => goodWord w
theorem gw_warm {w : Cond} {s U : State} {args : Array Value} (hg : gw w = true) (hW : s.WarmedH U.vm) (h : w.before args s = true) (a2 : Array Value) : w.before a2 U = true := by
  by_cases hd : ∃ x, w = .declares x
  · obtain ⟨x, rfl⟩ := hd
    exact va_Nw.use rfl (va_Nw.warmD hW (va_Nw.of rfl h))
  · by_cases hc : ∃ C T, w = .castable C T
    · obtain ⟨C, T, rfl⟩ := hc
      exact va_Nw.use rfl (va_Nw.warmC hW (va_Nw.of rfl h))
    · by_cases hn : ∃ a i x y, w = .methodLinkNest a i x y
      · obtain ⟨a, i, x, y, rfl⟩ := hn
        exact va_Nw.use rfl (va_Nw.warmM hW (va_Nw.of rfl h))
      · have hg2 : goodWord w = true := by
          unfold gw at hg
          split at hg
          · exact absurd ⟨_, rfl⟩ hd
          · exact absurd ⟨_, _, rfl⟩ hc
          · exact absurd ⟨_, _, _, _, rfl⟩ hn
          · exact hg
        exact word_at hW (good_of_word hg2) h
set_option maxRecDepth 20000 in
theorem ly_0 : ∀ k, k < 4 → u_lay RX0 TX0 k ∈ lw_tbl := fun k hk => match k, hk with
  | 0, _ => inT2 _ (List.mem_of_getElem? (i := 154) rfl)
  | 1, _ => inT2 _ (List.mem_of_getElem? (i := 156) rfl)
  | 2, _ => inT2 _ (List.mem_of_getElem? (i := 158) rfl)
  | 3, _ => inT2 _ (List.mem_of_getElem? (i := 160) rfl)
  | n + 4, h => absurd h (by omega)
set_option maxRecDepth 20000 in
theorem ly_1 : ∀ k, k < 10 → u_lay RX1 TX1 k ∈ lw_tbl := fun k hk => match k, hk with
  | 0, _ => inT2 _ (List.mem_of_getElem? (i := 11) rfl)
  | 1, _ => inT2 _ (List.mem_of_getElem? (i := 13) rfl)
  | 2, _ => inT2 _ (List.mem_of_getElem? (i := 15) rfl)
  | 3, _ => inT2 _ (List.mem_of_getElem? (i := 17) rfl)
  | 4, _ => inT2 _ (List.mem_of_getElem? (i := 19) rfl)
  | 5, _ => inT2 _ (List.mem_of_getElem? (i := 21) rfl)
  | 6, _ => inT2 _ (List.mem_of_getElem? (i := 23) rfl)
  | 7, _ => inT2 _ (List.mem_of_getElem? (i := 25) rfl)
  | 8, _ => inT2 _ (List.mem_of_getElem? (i := 27) rfl)
  | 9, _ => inT2 _ (List.mem_of_getElem? (i := 29) rfl)
  | n + 10, h => absurd h (by omega)
set_option maxRecDepth 20000 in
theorem ly_2 : ∀ k, k < 2 → u_lay RX2 TX2 k ∈ lw_tbl := fun k hk => match k, hk with
  | 0, _ => inT2 _ (List.mem_of_getElem? (i := 56) rfl)
  | 1, _ => inT2 _ (List.mem_of_getElem? (i := 58) rfl)
  | n + 2, h => absurd h (by omega)
set_option maxRecDepth 20000 in
theorem ly_3 : ∀ k, k < 5 → u_lay RX3 TX3 k ∈ lw_tbl := fun k hk => match k, hk with
  | 0, _ => inT2 _ (List.mem_of_getElem? (i := 131) rfl)
  | 1, _ => inT2 _ (List.mem_of_getElem? (i := 133) rfl)
  | 2, _ => inT2 _ (List.mem_of_getElem? (i := 135) rfl)
  | 3, _ => inT2 _ (List.mem_of_getElem? (i := 137) rfl)
  | 4, _ => inT2 _ (List.mem_of_getElem? (i := 139) rfl)
  | n + 5, h => absurd h (by omega)
set_option maxRecDepth 20000 in
theorem ly_4 : ∀ k, k < 3 → u_lay RX4 TX4 k ∈ lw_tbl := fun k hk => match k, hk with
  | 0, _ => inT1 _ (List.mem_of_getElem? (i := 93) rfl)
  | 1, _ => inT1 _ (List.mem_of_getElem? (i := 95) rfl)
  | 2, _ => inT1 _ (List.mem_of_getElem? (i := 97) rfl)
  | n + 3, h => absurd h (by omega)
set_option maxRecDepth 20000 in
theorem ly_5 : ∀ k, k < 3 → u_lay RX5 TX5 k ∈ lw_tbl := fun k hk => match k, hk with
  | 0, _ => inT1 _ (List.mem_of_getElem? (i := 227) rfl)
  | 1, _ => inT1 _ (List.mem_of_getElem? (i := 229) rfl)
  | 2, _ => inT1 _ (List.mem_of_getElem? (i := 231) rfl)
  | n + 3, h => absurd h (by omega)
set_option maxRecDepth 20000 in
theorem ly_6 : ∀ k, k < 2 → u_lay RX6 TX6 k ∈ lw_tbl := fun k hk => match k, hk with
  | 0, _ => inT2 _ (List.mem_of_getElem? (i := 40) rfl)
  | 1, _ => inT2 _ (List.mem_of_getElem? (i := 42) rfl)
  | n + 2, h => absurd h (by omega)
set_option maxRecDepth 20000 in
theorem ly_7 : ∀ k, k < 19 → u_lay RX7 TX7 k ∈ lw_tbl := fun k hk => match k, hk with
  | 0, _ => inT1 _ (List.mem_of_getElem? (i := 175) rfl)
  | 1, _ => inT1 _ (List.mem_of_getElem? (i := 177) rfl)
  | 2, _ => inT1 _ (List.mem_of_getElem? (i := 179) rfl)
  | 3, _ => inT1 _ (List.mem_of_getElem? (i := 181) rfl)
  | 4, _ => inT1 _ (List.mem_of_getElem? (i := 183) rfl)
  | 5, _ => inT1 _ (List.mem_of_getElem? (i := 185) rfl)
  | 6, _ => inT1 _ (List.mem_of_getElem? (i := 187) rfl)
  | 7, _ => inT1 _ (List.mem_of_getElem? (i := 189) rfl)
  | 8, _ => inT1 _ (List.mem_of_getElem? (i := 191) rfl)
  | 9, _ => inT1 _ (List.mem_of_getElem? (i := 193) rfl)
  | 10, _ => inT1 _ (List.mem_of_getElem? (i := 195) rfl)
  | 11, _ => inT1 _ (List.mem_of_getElem? (i := 197) rfl)
  | 12, _ => inT1 _ (List.mem_of_getElem? (i := 199) rfl)
  | 13, _ => inT1 _ (List.mem_of_getElem? (i := 201) rfl)
  | 14, _ => inT1 _ (List.mem_of_getElem? (i := 203) rfl)
  | 15, _ => inT1 _ (List.mem_of_getElem? (i := 205) rfl)
  | 16, _ => inT1 _ (List.mem_of_getElem? (i := 207) rfl)
  | 17, _ => inT1 _ (List.mem_of_getElem? (i := 209) rfl)
  | 18, _ => inT1 _ (List.mem_of_getElem? (i := 211) rfl)
  | n + 19, h => absurd h (by omega)
set_option maxRecDepth 20000 in
theorem ly_8 : ∀ k, k < 8 → u_lay RX8 TX8 k ∈ lw_tbl := fun k hk => match k, hk with
  | 0, _ => inT1 _ (List.mem_of_getElem? (i := 59) rfl)
  | 1, _ => inT1 _ (List.mem_of_getElem? (i := 61) rfl)
  | 2, _ => inT1 _ (List.mem_of_getElem? (i := 63) rfl)
  | 3, _ => inT1 _ (List.mem_of_getElem? (i := 65) rfl)
  | 4, _ => inT1 _ (List.mem_of_getElem? (i := 67) rfl)
  | 5, _ => inT1 _ (List.mem_of_getElem? (i := 69) rfl)
  | 6, _ => inT1 _ (List.mem_of_getElem? (i := 71) rfl)
  | 7, _ => inT1 _ (List.mem_of_getElem? (i := 73) rfl)
  | n + 8, h => absurd h (by omega)
set_option maxRecDepth 20000 in
theorem ly_9 : ∀ k, k < 2 → u_lay RX9 TX9 k ∈ lw_tbl := fun k hk => match k, hk with
  | 0, _ => inT2 _ (List.mem_of_getElem? (i := 115) rfl)
  | 1, _ => inT2 _ (List.mem_of_getElem? (i := 117) rfl)
  | n + 2, h => absurd h (by omega)
set_option maxRecDepth 20000 in
theorem ly_10 : ∀ k, k < 11 → u_lay RX10 TX10 k ∈ lw_tbl := fun k hk => match k, hk with
  | 0, _ => inT2 _ (List.mem_of_getElem? (i := 84) rfl)
  | 1, _ => inT2 _ (List.mem_of_getElem? (i := 86) rfl)
  | 2, _ => inT2 _ (List.mem_of_getElem? (i := 88) rfl)
  | 3, _ => inT2 _ (List.mem_of_getElem? (i := 90) rfl)
  | 4, _ => inT2 _ (List.mem_of_getElem? (i := 92) rfl)
  | 5, _ => inT2 _ (List.mem_of_getElem? (i := 94) rfl)
  | 6, _ => inT2 _ (List.mem_of_getElem? (i := 96) rfl)
  | 7, _ => inT2 _ (List.mem_of_getElem? (i := 98) rfl)
  | 8, _ => inT2 _ (List.mem_of_getElem? (i := 100) rfl)
  | 9, _ => inT2 _ (List.mem_of_getElem? (i := 102) rfl)
  | 10, _ => inT2 _ (List.mem_of_getElem? (i := 104) rfl)
  | n + 11, h => absurd h (by omega)
set_option maxRecDepth 20000 in
theorem ly_11 : ∀ k, k < 17 → u_lay RX11 TX11 k ∈ lw_tbl := fun k hk => match k, hk with
  | 0, _ => inT2 _ (List.mem_of_getElem? (i := 180) rfl)
  | 1, _ => inT2 _ (List.mem_of_getElem? (i := 182) rfl)
  | 2, _ => inT2 _ (List.mem_of_getElem? (i := 184) rfl)
  | 3, _ => inT2 _ (List.mem_of_getElem? (i := 186) rfl)
  | 4, _ => inT2 _ (List.mem_of_getElem? (i := 188) rfl)
  | 5, _ => inT2 _ (List.mem_of_getElem? (i := 190) rfl)
  | 6, _ => inT2 _ (List.mem_of_getElem? (i := 192) rfl)
  | 7, _ => inT2 _ (List.mem_of_getElem? (i := 194) rfl)
  | 8, _ => inT2 _ (List.mem_of_getElem? (i := 196) rfl)
  | 9, _ => inT2 _ (List.mem_of_getElem? (i := 198) rfl)
  | 10, _ => inT2 _ (List.mem_of_getElem? (i := 200) rfl)
  | 11, _ => inT2 _ (List.mem_of_getElem? (i := 202) rfl)
  | 12, _ => inT2 _ (List.mem_of_getElem? (i := 204) rfl)
  | 13, _ => inT2 _ (List.mem_of_getElem? (i := 206) rfl)
  | 14, _ => inT2 _ (List.mem_of_getElem? (i := 208) rfl)
  | 15, _ => inT2 _ (List.mem_of_getElem? (i := 210) rfl)
  | 16, _ => inT2 _ (List.mem_of_getElem? (i := 212) rfl)
  | n + 17, h => absurd h (by omega)
set_option maxRecDepth 20000 in
theorem ly_12 : ∀ k, k < 28 → u_lay RX12 TX12 k ∈ lw_tbl := fun k hk => match k, hk with
  | 0, _ => inT7 _ (List.mem_of_getElem? (i := 137) rfl)
  | 1, _ => inT7 _ (List.mem_of_getElem? (i := 139) rfl)
  | 2, _ => inT7 _ (List.mem_of_getElem? (i := 141) rfl)
  | 3, _ => inT7 _ (List.mem_of_getElem? (i := 143) rfl)
  | 4, _ => inT7 _ (List.mem_of_getElem? (i := 145) rfl)
  | 5, _ => inT7 _ (List.mem_of_getElem? (i := 147) rfl)
  | 6, _ => inT7 _ (List.mem_of_getElem? (i := 149) rfl)
  | 7, _ => inT7 _ (List.mem_of_getElem? (i := 151) rfl)
  | 8, _ => inT7 _ (List.mem_of_getElem? (i := 153) rfl)
  | 9, _ => inT7 _ (List.mem_of_getElem? (i := 155) rfl)
  | 10, _ => inT7 _ (List.mem_of_getElem? (i := 157) rfl)
  | 11, _ => inT7 _ (List.mem_of_getElem? (i := 159) rfl)
  | 12, _ => inT7 _ (List.mem_of_getElem? (i := 161) rfl)
  | 13, _ => inT7 _ (List.mem_of_getElem? (i := 163) rfl)
  | 14, _ => inT7 _ (List.mem_of_getElem? (i := 165) rfl)
  | 15, _ => inT7 _ (List.mem_of_getElem? (i := 167) rfl)
  | 16, _ => inT7 _ (List.mem_of_getElem? (i := 169) rfl)
  | 17, _ => inT7 _ (List.mem_of_getElem? (i := 171) rfl)
  | 18, _ => inT7 _ (List.mem_of_getElem? (i := 173) rfl)
  | 19, _ => inT7 _ (List.mem_of_getElem? (i := 175) rfl)
  | 20, _ => inT7 _ (List.mem_of_getElem? (i := 177) rfl)
  | 21, _ => inT7 _ (List.mem_of_getElem? (i := 179) rfl)
  | 22, _ => inT7 _ (List.mem_of_getElem? (i := 181) rfl)
  | 23, _ => inT7 _ (List.mem_of_getElem? (i := 183) rfl)
  | 24, _ => inT7 _ (List.mem_of_getElem? (i := 185) rfl)
  | 25, _ => inT7 _ (List.mem_of_getElem? (i := 187) rfl)
  | 26, _ => inT7 _ (List.mem_of_getElem? (i := 189) rfl)
  | 27, _ => inT7 _ (List.mem_of_getElem? (i := 191) rfl)
  | n + 28, h => absurd h (by omega)
theorem lay_good (C : String) (T : u_T) (k : Nat) : gw (u_lay C T k) = true := by
  unfold u_lay
  split <;> rfl
theorem ws_good {C : String} {T : u_T} {N : Nat} (h : ∀ k, k < N → u_lay C T k ∈ lw_tbl) : ∀ w ∈ u_ws C T N, w ∈ lw_tbl ∧ gw w = true := by
  intro w hw
  obtain ⟨k, hk, rfl⟩ := List.mem_map.mp hw
  exact ⟨h k (List.mem_range.mp hk), lay_good C T k⟩
def clOk (c : Nat) : Prop := vwCl[c]? = some (cN c, tF c, nF c) ∧ (∀ w ∈ u_ws (cN c) (tF c) (nF c), w ∈ lw_tbl ∧ gw w = true) ∧ (∃ ty0 : Nat → FieldType, ∀ k, k < nF c → parseFieldDescriptor (tF c k).2.2.1 = some (ty0 k)) ∧ ∀ a, a < nF c → ∀ b, b < nF c → a ≠ b → (tF c a).2.1 ≠ (tF c b).2.1
theorem cl_ok : ∀ c, c < 13 → clOk c := fun c hc => match c, hc with
  | 0, _ => ⟨rfl, ws_good ly_0, ⟨tyX0, tyX0_ok⟩, nmX0⟩
  | 1, _ => ⟨rfl, ws_good ly_1, ⟨tyX1, tyX1_ok⟩, nmX1⟩
  | 2, _ => ⟨rfl, ws_good ly_2, ⟨tyX2, tyX2_ok⟩, nmX2⟩
  | 3, _ => ⟨rfl, ws_good ly_3, ⟨tyX3, tyX3_ok⟩, nmX3⟩
  | 4, _ => ⟨rfl, ws_good ly_4, ⟨tyX4, tyX4_ok⟩, nmX4⟩
  | 5, _ => ⟨rfl, ws_good ly_5, ⟨tyX5, tyX5_ok⟩, nmX5⟩
  | 6, _ => ⟨rfl, ws_good ly_6, ⟨tyX6, tyX6_ok⟩, nmX6⟩
  | 7, _ => ⟨rfl, ws_good ly_7, ⟨tyX7, tyX7_ok⟩, nmX7⟩
  | 8, _ => ⟨rfl, ws_good ly_8, ⟨tyX8, tyX8_ok⟩, nmX8⟩
  | 9, _ => ⟨rfl, ws_good ly_9, ⟨tyX9, tyX9_ok⟩, nmX9⟩
  | 10, _ => ⟨rfl, ws_good ly_10, ⟨tyX10, tyX10_ok⟩, nmX10⟩
  | 11, _ => ⟨rfl, ws_good ly_11, ⟨tyX11, tyX11_ok⟩, nmX11⟩
  | 12, _ => ⟨rfl, ws_good ly_12, ⟨tyX12, tyX12_ok⟩, nmX12⟩
  | n + 13, h => absurd h (by omega)
theorem ac_nat : Cond.native arraycopyName ∈ lw_tbl := inT3 _ (List.mem_of_getElem? (i := 27) rfl)
theorem ac_stat : Cond.static arraycopyName ∈ lw_tbl := inT3 _ (List.mem_of_getElem? (i := 26) rfl)
theorem ac_ini : Cond.initialized "java/lang/System" ∈ lw_tbl := inT1 _ (List.mem_of_getElem? (i := 14) rfl)
