
/-! the reference's rows -/
theorem us_same {σ : St} {k : Nat} {f : Nat → Int32} : us σ k f k = f := if_pos rfl
theorem us_ne {σ : St} {k j : Nat} {f : Nat → Int32} (h : j ≠ k) : us σ k f j = σ j := if_neg h
theorem us_us {σ : St} {k : Nat} {f g : Nat → Int32} : us (us σ k f) k g = us σ k g := by
  funext j
  by_cases h : j = k
  · subst h; rw [us_same, us_same]
  · rw [us_ne h, us_ne h, us_ne h]
theorem us_self {σ : St} {k : Nat} : us σ k (σ k) = σ := by
  funext j
  by_cases h : j = k
  · subst h; rw [us_same]
  · rw [us_ne h]
abbrev RowN (σ : St) (h n : Nat) (a : Nat → Nat) : Prop := ∀ i, i < n → σ h i = nI (a i)
abbrev Sm (a : Nat → Nat) : Prop := ∀ i, a i < 2147483648
theorem bh_first {a : Nat → Nat} {s k : Nat} (h1 : a 1 ≤ 3) (hk : k < a 1) (h : ∀ j, j < k → a (40 + j) ≠ s) (e : a (40 + k) = s) : bh a s = k + 1 := by
  have h0 := h 0
  have h1' := h 1
  unfold bh
  rcases (by omega : k = 0 ∨ k = 1 ∨ k = 2) with rfl | rfl | rfl
  · rw [if_pos ⟨hk, e⟩]
  · rw [if_neg (fun q => h0 (by omega) q.2), if_pos ⟨hk, e⟩]
  · rw [if_neg (fun q => h0 (by omega) q.2), if_neg (fun q => h1' (by omega) q.2), if_pos ⟨hk, e⟩]
section RM
variable {σ : St} {h n : Nat} {a : Nat → Nat}
set_option maxHeartbeats 4000000 in
set_option maxRecDepth 100000 in
theorem m_behind (hR : RowN σ h n a) (hn : 43 ≤ n) (hn2 : n < 2147483648) (h1 : a 1 ≤ 3) (hs : Sm a) {s : Nat} (hsb : s < 2147483648) {Q : Int32 → St → Prop} (hq : Q (nI (bh a s) - 1) σ) : V_X11_behind h n (nI s) σ Q := by
  unfold V_X11_behind B_X11_behind_e
  have loop : ∀ d k, k + d = a 1 → (∀ j, j < k → a (40 + j) ≠ s) → R_X11_behind h n (nI s) Q 2 [nI k] [] σ := by
    intro d
    induction d with
    | zero =>
      intro k hk hj
      refine i_X11_behind_2 _ _ _ _ _ _ ?_
      unfold B_X11_behind_2
      refine ⟨vp_in_nI (n := 1) (by omega) hn2, fun _ => ?_, fun c => absurd ?_ c⟩
      · rw [bh_none h1 (fun j q => hj j (by omega))] at hq
        exact hq
      · rw [hR 1 (by omega), q_le (hs _) (by omega)]
        omega
    | succ d ih =>
      intro k hk hj
      refine i_X11_behind_2 _ _ _ _ _ _ ?_
      unfold B_X11_behind_2
      simp (disch := first | omega | exact hs _) only [q_m1, q_m1n, q_m1a, q_eq, q_le, q_lt, nI_add, pk_sub, pk_mul, pk_div, pk_rem, nI_clamp, q_in, zl0, zl1, zl2, zl3, zl4, zl5, zl6, zl7, zl8, zl9, zl10, zl11, zl12, zl13, zl14, zl15, zl16, zl17, zl18, zl19, zl20, zl21, zl22, zl23, zl24, zl25, zl26, zl27, zl28, zl29, zl30, zl31, zl32, zl36, zl37, zl38, zl40, zl42, zl43, zl44, zl48, zl53, zl54, zl57, zl59, zl60, zl61, zl63, zl64, zl70, zl71, zl72, zl77, zl78, zl90, zl97, zl98, zl99, zl100, zl101, zl102, zl106, zl111, zl122, zl127, zl128, zl150, zl181, zl256, zl362, zl9999, zl999999, zl1000000, hR]
      refine ⟨by omega, fun c => absurd c (by omega), fun _ => ⟨by omega, fun c => ?_, fun c => ?_⟩⟩
      · exact ih (k + 1) (by omega) (fun j q => by
          by_cases e : j = k
          · subst e; exact c
          · exact hj j (by omega))
      · rw [bh_first h1 (by omega) hj c, nI_pred] at hq
        exact hq
  exact loop (a 1) 0 (by omega) (fun j q => absurd q (by omega))
set_option maxHeartbeats 4000000 in
set_option maxRecDepth 100000 in
theorem m_manyAt (hR : RowN σ h n a) (hn : 43 ≤ n) (hn2 : n < 2147483648) (h0 : a 0 ≤ 8) (hs : Sm a) {s : Nat} (hsb : s < 2147483648) {Q : Int32 → St → Prop} (hq : Q (nI (cnt a s (a 0))) σ) : V_X11_manyAt h n (nI s) σ Q := by
  unfold V_X11_manyAt B_X11_manyAt_e
  have loop : ∀ d g, g + d = a 0 → R_X11_manyAt h n (nI s) Q 4 [nI (cnt a s g), nI g] [] σ := by
    intro d
    induction d with
    | zero =>
      intro g hg
      refine i_X11_manyAt_4 _ _ _ _ _ _ _ ?_
      unfold B_X11_manyAt_4
      simp (disch := first | omega | exact hs _) only [q_m1, q_m1n, q_m1a, q_eq, q_le, q_lt, nI_add, pk_sub, pk_mul, pk_div, pk_rem, nI_clamp, q_in, zl0, zl1, zl2, zl3, zl4, zl5, zl6, zl7, zl8, zl9, zl10, zl11, zl12, zl13, zl14, zl15, zl16, zl17, zl18, zl19, zl20, zl21, zl22, zl23, zl24, zl25, zl26, zl27, zl28, zl29, zl30, zl31, zl32, zl36, zl37, zl38, zl40, zl42, zl43, zl44, zl48, zl53, zl54, zl57, zl59, zl60, zl61, zl63, zl64, zl70, zl71, zl72, zl77, zl78, zl90, zl97, zl98, zl99, zl100, zl101, zl102, zl106, zl111, zl122, zl127, zl128, zl150, zl181, zl256, zl362, zl9999, zl999999, zl1000000, hR]
      refine ⟨by omega, fun _ => ?_, fun c => absurd c (by omega)⟩
      rw [← (by omega : g = a 0)] at hq
      exact hq
    | succ d ih =>
      intro g hg
      refine i_X11_manyAt_4 _ _ _ _ _ _ _ ?_
      unfold B_X11_manyAt_4
      have := cnt_le (a := a) (s := s) g
      simp (disch := first | omega | exact hs _) only [q_m1, q_m1n, q_m1a, q_eq, q_le, q_lt, nI_add, pk_sub, pk_mul, pk_div, pk_rem, nI_clamp, q_in, zl0, zl1, zl2, zl3, zl4, zl5, zl6, zl7, zl8, zl9, zl10, zl11, zl12, zl13, zl14, zl15, zl16, zl17, zl18, zl19, zl20, zl21, zl22, zl23, zl24, zl25, zl26, zl27, zl28, zl29, zl30, zl31, zl32, zl36, zl37, zl38, zl40, zl42, zl43, zl44, zl48, zl53, zl54, zl57, zl59, zl60, zl61, zl63, zl64, zl70, zl71, zl72, zl77, zl78, zl90, zl97, zl98, zl99, zl100, zl101, zl102, zl106, zl111, zl122, zl127, zl128, zl150, zl181, zl256, zl362, zl9999, zl999999, zl1000000, hR]
      have e := ih (g + 1) (by omega)
      refine ⟨by omega, fun c => absurd c (by omega), fun _ => ⟨by omega, fun c => ?_, fun c => ?_⟩⟩
      · rw [show cnt a s (g + 1) = cnt a s g + (if a (6 + g) = s then 1 else 0) from rfl, if_neg c] at e
        exact e
      · rw [show cnt a s (g + 1) = cnt a s g + (if a (6 + g) = s then 1 else 0) from rfl, if_pos c] at e
        exact e
  exact loop (a 0) 0 (by omega)
set_option maxHeartbeats 4000000 in
set_option maxRecDepth 100000 in
theorem m_waits (hR : RowN σ h n a) (hn : 43 ≤ n) (hn2 : n < 2147483648) (h1 : a 1 ≤ 3) (hs : Sm a) {g : Nat} (hg : g < 8) {Q : Int32 → St → Prop} (hq : Q (if bh a (a (6 + g)) = 0 then 0 else 1) σ) : V_X11_waits h n (nI g) σ Q := by
  unfold V_X11_waits B_X11_waits_e
  simp (disch := first | omega | exact hs _) only [q_m1, q_m1n, q_m1a, q_eq, q_le, q_lt, nI_add, pk_sub, pk_mul, pk_div, pk_rem, nI_clamp, q_in, zl0, zl1, zl2, zl3, zl4, zl5, zl6, zl7, zl8, zl9, zl10, zl11, zl12, zl13, zl14, zl15, zl16, zl17, zl18, zl19, zl20, zl21, zl22, zl23, zl24, zl25, zl26, zl27, zl28, zl29, zl30, zl31, zl32, zl36, zl37, zl38, zl40, zl42, zl43, zl44, zl48, zl53, zl54, zl57, zl59, zl60, zl61, zl63, zl64, zl70, zl71, zl72, zl77, zl78, zl90, zl97, zl98, zl99, zl100, zl101, zl102, zl106, zl111, zl122, zl127, zl128, zl150, zl181, zl256, zl362, zl9999, zl999999, zl1000000, hR]
  refine ⟨by omega, m_behind hR hn hn2 h1 hs (hs _) ?_⟩
  have hb : bh a (a (6 + g)) < 2147483648 := by
    have : bh a (a (6 + g)) ≤ 3 := by unfold bh; repeat' split
                                      all_goals omega
    omega
  simp (disch := first | omega | exact hs _) only [q_m1, q_m1n, q_m1a, q_eq, q_le, q_lt, nI_add, pk_sub, pk_mul, pk_div, pk_rem, nI_clamp, q_in, zl0, zl1, zl2, zl3, zl4, zl5, zl6, zl7, zl8, zl9, zl10, zl11, zl12, zl13, zl14, zl15, zl16, zl17, zl18, zl19, zl20, zl21, zl22, zl23, zl24, zl25, zl26, zl27, zl28, zl29, zl30, zl31, zl32, zl36, zl37, zl38, zl40, zl42, zl43, zl44, zl48, zl53, zl54, zl57, zl59, zl60, zl61, zl63, zl64, zl70, zl71, zl72, zl77, zl78, zl90, zl97, zl98, zl99, zl100, zl101, zl102, zl106, zl111, zl122, zl127, zl128, zl150, zl181, zl256, zl362, zl9999, zl999999, zl1000000]
  exact ⟨fun c => by rw [if_pos c] at hq; exact hq, fun c => by rw [if_neg c] at hq; exact hq⟩
end RM
