section RM2
variable {σ : St} {h n : Nat} {a : Nat → Nat}
theorem bh_sm {s : Nat} : bh a s ≤ 3 := by
  unfold bh
  repeat' split
  all_goals omega
set_option maxHeartbeats 4000000 in
set_option maxRecDepth 100000 in
theorem m_goesNow (hR : RowN σ h n a) (hn : 43 ≤ n) (hn2 : n < 2147483648) (hs : Sm a) {g : Nat} (hg : g < 8) (hk : a (22 + g) ≤ 5) (hw : ∀ i, i < 6 → a (16 + i) ≤ 4) {Q : Int32 → St → Prop} (hq : Q (nI (gon a g)) σ) : V_X11_goesNow h n (nI g) σ Q := by
  unfold V_X11_goesNow B_X11_goesNow_e
  rw [hR 15 (by omega)]
  have h6 : a 15 % 6 < 6 := Nat.mod_lt _ (by omega)
  have e6 : nI (a 15) - nI (a 15) / 6 * 6 = nI (a 15 % 6) := pk_rem (d := 6) (hs 15) (by omega) (by omega)
  rw [e6]
  simp (disch := first | omega | exact hs _) only [q_m1, q_m1n, q_m1a, q_eq, q_le, q_lt, nI_add, pk_sub, pk_mul, pk_div, pk_rem, nI_clamp, q_in, zl0, zl1, zl2, zl3, zl4, zl5, zl6, zl7, zl8, zl9, zl10, zl11, zl12, zl13, zl14, zl15, zl16, zl17, zl18, zl19, zl20, zl21, zl22, zl23, zl24, zl25, zl26, zl27, zl28, zl29, zl30, zl31, zl32, zl36, zl37, zl38, zl40, zl42, zl43, zl44, zl48, zl53, zl54, zl57, zl59, zl60, zl61, zl63, zl64, zl70, zl71, zl72, zl77, zl78, zl90, zl97, zl98, zl99, zl100, zl101, zl102, zl106, zl111, zl122, zl127, zl128, zl150, zl181, zl256, zl362, zl9999, zl999999, zl1000000, hR]
  refine ⟨by omega, by omega, by omega, by omega, v_goesAs hk (hs 15) (hw _ h6) hq⟩
set_option maxHeartbeats 4000000 in
set_option maxRecDepth 100000 in
theorem m_goesTo (hR : RowN σ h n a) (hn : 43 ≤ n) (hn2 : n < 2147483648) (h1 : a 1 ≤ 3) (hs : Sm a) {g : Nat} (hg : g < 8) (hk : a (22 + g) ≤ 5) (hw : ∀ i, i < 6 → a (16 + i) ≤ 4) {Q : Int32 → St → Prop} (hq : Q (nI (wk a (gon a g) (a (6 + g)))) σ) : V_X11_goesTo h n (nI g) σ Q := by
  unfold V_X11_goesTo B_X11_goesTo_e
  simp (disch := first | omega | exact hs _) only [q_m1, q_m1n, q_m1a, q_eq, q_le, q_lt, nI_add, pk_sub, pk_mul, pk_div, pk_rem, nI_clamp, q_in, zl0, zl1, zl2, zl3, zl4, zl5, zl6, zl7, zl8, zl9, zl10, zl11, zl12, zl13, zl14, zl15, zl16, zl17, zl18, zl19, zl20, zl21, zl22, zl23, zl24, zl25, zl26, zl27, zl28, zl29, zl30, zl31, zl32, zl36, zl37, zl38, zl40, zl42, zl43, zl44, zl48, zl53, zl54, zl57, zl59, zl60, zl61, zl63, zl64, zl70, zl71, zl72, zl77, zl78, zl90, zl97, zl98, zl99, zl100, zl101, zl102, zl106, zl111, zl122, zl127, zl128, zl150, zl181, zl256, zl362, zl9999, zl999999, zl1000000, hR]
  refine ⟨by omega, fun v ev => ?_⟩
  subst ev
  refine m_goesNow hR hn hn2 hs hg hk hw ?_
  have loop : ∀ d s, s < 1000000000 → d ≤ 4 → Q (nI (wk a d s)) σ → R_X11_goesTo h n (nI g) Q 13 [nI s, nI d] [] σ := by
    intro d
    induction d with
    | zero =>
      intro s hs2 _ hq
      refine i_X11_goesTo_13 _ _ _ _ _ _ _ ?_
      unfold B_X11_goesTo_13
      exact ⟨fun _ => hq, fun c => absurd (by decide) c⟩
    | succ d ih =>
      intro s hs2 hd hq
      refine i_X11_goesTo_13 _ _ _ _ _ _ _ ?_
      unfold B_X11_goesTo_13
      simp (disch := first | omega | exact hs _) only [q_m1, q_m1n, q_m1a, q_eq, q_le, q_lt, nI_add, pk_sub, pk_mul, pk_div, pk_rem, nI_clamp, q_in, zl0, zl1, zl2, zl3, zl4, zl5, zl6, zl7, zl8, zl9, zl10, zl11, zl12, zl13, zl14, zl15, zl16, zl17, zl18, zl19, zl20, zl21, zl22, zl23, zl24, zl25, zl26, zl27, zl28, zl29, zl30, zl31, zl32, zl36, zl37, zl38, zl40, zl42, zl43, zl44, zl48, zl53, zl54, zl57, zl59, zl60, zl61, zl63, zl64, zl70, zl71, zl72, zl77, zl78, zl90, zl97, zl98, zl99, zl100, zl101, zl102, zl106, zl111, zl122, zl127, zl128, zl150, zl181, zl256, zl362, zl9999, zl999999, zl1000000]
      unfold wk at hq
      refine ⟨fun c => absurd c (by omega), fun _ => ⟨fun c => ?_, fun c => ?_⟩⟩
      · rw [if_neg (by omega)] at hq
        exact hq
      · refine m_behind hR hn hn2 h1 hs (by omega) ?_
        have hb := bh_sm (a := a) (s := s)
        simp (disch := first | omega | exact hs _) only [q_m1, q_m1n, q_m1a, q_eq, q_le, q_lt, nI_add, pk_sub, pk_mul, pk_div, pk_rem, nI_clamp, q_in, zl0, zl1, zl2, zl3, zl4, zl5, zl6, zl7, zl8, zl9, zl10, zl11, zl12, zl13, zl14, zl15, zl16, zl17, zl18, zl19, zl20, zl21, zl22, zl23, zl24, zl25, zl26, zl27, zl28, zl29, zl30, zl31, zl32, zl36, zl37, zl38, zl40, zl42, zl43, zl44, zl48, zl53, zl54, zl57, zl59, zl60, zl61, zl63, zl64, zl70, zl71, zl72, zl77, zl78, zl90, zl97, zl98, zl99, zl100, zl101, zl102, zl106, zl111, zl122, zl127, zl128, zl150, zl181, zl256, zl362, zl9999, zl999999, zl1000000]
        refine ⟨fun b => ?_, fun b => ?_⟩
        · rw [if_neg (by omega)] at hq
          exact hq
        · rw [if_pos ⟨by omega, b⟩] at hq
          exact ih (s + 1) (by omega) (by omega) hq
  by_cases c : a (6 + g) < 1000000000
  · exact loop _ _ c gon_le hq
  · refine i_X11_goesTo_13 _ _ _ _ _ _ _ ?_
    unfold B_X11_goesTo_13
    have hgo := gon_le (a := a) (g := g)
    simp (disch := first | omega | exact hs _) only [q_m1, q_m1n, q_m1a, q_eq, q_le, q_lt, nI_add, pk_sub, pk_mul, pk_div, pk_rem, nI_clamp, q_in, zl0, zl1, zl2, zl3, zl4, zl5, zl6, zl7, zl8, zl9, zl10, zl11, zl12, zl13, zl14, zl15, zl16, zl17, zl18, zl19, zl20, zl21, zl22, zl23, zl24, zl25, zl26, zl27, zl28, zl29, zl30, zl31, zl32, zl36, zl37, zl38, zl40, zl42, zl43, zl44, zl48, zl53, zl54, zl57, zl59, zl60, zl61, zl63, zl64, zl70, zl71, zl72, zl77, zl78, zl90, zl97, zl98, zl99, zl100, zl101, zl102, zl106, zl111, zl122, zl127, zl128, zl150, zl181, zl256, zl362, zl9999, zl999999, zl1000000]
    have e : wk a (gon a g) (a (6 + g)) = a (6 + g) := by
      cases gon a g with
      | zero => rfl
      | succ d => unfold wk; rw [if_neg (by omega)]
    rw [e] at hq
    exact ⟨fun _ => hq, fun _ => ⟨fun _ => hq, fun c2 => absurd c2 (by omega)⟩⟩
set_option maxHeartbeats 4000000 in
set_option maxRecDepth 100000 in
theorem m_letsOf (hR : RowN σ h n a) (hn : 43 ≤ n) (hn2 : n < 2147483648) (hB : Bd a) {k : Nat} (hk : k < 3) {Q : Int32 → St → Prop} (hq : Q (nI (lets a k)) σ) : V_X11_letsOf h n (nI k) σ Q := by
  have hs : Sm a := hB.2.2.2.2.2.2.2.2
  have h0 := hB.1
  have h1 := hB.2.1
  have hc := cnt_le (a := a) (s := a (40 + k)) (a 0)
  unfold V_X11_letsOf B_X11_letsOf_e
  unfold lets at hq
  simp (disch := first | omega | exact hs _) only [q_m1, q_m1n, q_m1a, q_eq, q_le, q_lt, nI_add, pk_sub, pk_mul, pk_div, pk_rem, nI_clamp, q_in, zl0, zl1, zl2, zl3, zl4, zl5, zl6, zl7, zl8, zl9, zl10, zl11, zl12, zl13, zl14, zl15, zl16, zl17, zl18, zl19, zl20, zl21, zl22, zl23, zl24, zl25, zl26, zl27, zl28, zl29, zl30, zl31, zl32, zl36, zl37, zl38, zl40, zl42, zl43, zl44, zl48, zl53, zl54, zl57, zl59, zl60, zl61, zl63, zl64, zl70, zl71, zl72, zl77, zl78, zl90, zl97, zl98, zl99, zl100, zl101, zl102, zl106, zl111, zl122, zl127, zl128, zl150, zl181, zl256, zl362, zl9999, zl999999, zl1000000, hR]
  refine ⟨by omega, fun c => ?_, fun c => ⟨by omega, v_has (hs _) (by omega) (fun b => ?_) (fun b => ?_)⟩⟩
  · rw [if_pos c] at hq; exact hq
  · rw [if_neg c, if_pos b] at hq
    exact ⟨fun q => absurd q (by decide), fun _ => hq⟩
  · rw [if_neg c, if_neg (by omega)] at hq
    refine ⟨fun _ => ⟨by omega, ?_⟩, fun q => absurd rfl q⟩
    simp (disch := first | omega | exact hs _) only [q_m1, q_m1n, q_m1a, q_eq, q_le, q_lt, nI_add, pk_sub, pk_mul, pk_div, pk_rem, nI_clamp, q_in, zl0, zl1, zl2, zl3, zl4, zl5, zl6, zl7, zl8, zl9, zl10, zl11, zl12, zl13, zl14, zl15, zl16, zl17, zl18, zl19, zl20, zl21, zl22, zl23, zl24, zl25, zl26, zl27, zl28, zl29, zl30, zl31, zl32, zl36, zl37, zl38, zl40, zl42, zl43, zl44, zl48, zl53, zl54, zl57, zl59, zl60, zl61, zl63, zl64, zl70, zl71, zl72, zl77, zl78, zl90, zl97, zl98, zl99, zl100, zl101, zl102, zl106, zl111, zl122, zl127, zl128, zl150, zl181, zl256, zl362, zl9999, zl999999, zl1000000, hR]
    refine m_manyAt hR hn hn2 h0 hs (hs _) ?_
    simp (disch := first | omega | exact hs _) only [q_m1, q_m1n, q_m1a, q_eq, q_le, q_lt, nI_add, pk_sub, pk_mul, pk_div, pk_rem, nI_clamp, q_in, zl0, zl1, zl2, zl3, zl4, zl5, zl6, zl7, zl8, zl9, zl10, zl11, zl12, zl13, zl14, zl15, zl16, zl17, zl18, zl19, zl20, zl21, zl22, zl23, zl24, zl25, zl26, zl27, zl28, zl29, zl30, zl31, zl32, zl36, zl37, zl38, zl40, zl42, zl43, zl44, zl48, zl53, zl54, zl57, zl59, zl60, zl61, zl63, zl64, zl70, zl71, zl72, zl77, zl78, zl90, zl97, zl98, zl99, zl100, zl101, zl102, zl106, zl111, zl122, zl127, zl128, zl150, zl181, zl256, zl362, zl9999, zl999999, zl1000000, hR]
    refine ⟨fun q => ⟨by omega, by omega, v_letsAs (hB.2.2.2.2.2.2.1 k (by omega)).1 (hs 15) (by omega) ?_⟩, fun q => ?_⟩
    · rw [if_neg q] at hq; exact hq
    · rw [if_pos q] at hq; exact hq
end RM2
