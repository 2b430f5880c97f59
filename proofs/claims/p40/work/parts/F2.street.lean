/-! the class's street -/
def upN (b : Nat → Nat) (i v : Nat) : Nat → Nat := fun j => if j = i then v else b j
theorem upN_s {b : Nat → Nat} {i v : Nat} : upN b i v i = v := if_pos rfl
theorem upN_n {b : Nat → Nat} {i v j : Nat} (h : j ≠ i) : upN b i v j = b j := if_neg h
def StR (σ : St) (h : Nat) (a : Nat → Nat) : Prop := σ h 8 = nI (a 0) ∧ σ h 9 = nI (a 1) ∧ σ h 10 = nI (a 14) ∧ σ h 11 = nI (a 15) ∧ (∀ i, i < 6 → σ (h + 1) i = nI (a (16 + i))) ∧ (∀ g, g < a 0 → σ (h + 2) g = nI (a (22 + g))) ∧ (∀ g, g < a 0 → g < 7 → σ (h + 3) g = nI (a (30 + g))) ∧ (∀ g, g < a 0 → σ (h + 4) g = nI (a (6 + g))) ∧ (∀ k, k < a 1 → σ (h + 5) k = nI (a (37 + k))) ∧ (∀ k, k < a 1 → σ (h + 6) k = nI (a (40 + k))) ∧ (∀ s, s < 24 → σ (h + 7) s = nI (bh a s))
theorem StR.congr {σ σ' : St} {h : Nat} {a : Nat → Nat} (H : StR σ h a) (e : ∀ q, h ≤ q → q ≤ h + 7 → σ' q = σ q) : StR σ' h a := by
  unfold StR at *
  rw [e h (by omega) (by omega), e (h + 1) (by omega) (by omega), e (h + 2) (by omega) (by omega), e (h + 3) (by omega) (by omega), e (h + 4) (by omega) (by omega), e (h + 5) (by omega) (by omega), e (h + 6) (by omega) (by omega), e (h + 7) (by omega) (by omega)]
  exact H
section SC
variable {σ : St} {h : Nat} {a : Nat → Nat}
set_option maxHeartbeats 4000000 in
set_option maxRecDepth 100000 in
theorem s_waits (H : StR σ h a) (hs : Sm a) {g : Nat} (hg : g < a 0) (h8 : a 0 ≤ 8) (h23 : a (6 + g) ≤ 23) {Q : Int32 → St → Prop} (h1 : bh a (a (6 + g)) = 0 → Q 0 σ) (h2 : bh a (a (6 + g)) ≠ 0 → Q 1 σ) : V_X8_waits h (nI g) σ Q := by
  obtain ⟨r0, r1, r14, r15, rw, rk, rm, rs, rg, rb, rh⟩ := H
  unfold V_X8_waits B_X8_waits_e
  have hb := bh_sm (a := a) (s := a (6 + g))
  simp (disch := first | omega | exact hs _) only [q_m1, q_m1n, q_m1a, q_eq, q_le, q_lt, nI_add, pk_sub, pk_mul, pk_div, pk_rem, nI_clamp, q_in, zl0, zl1, zl2, zl3, zl4, zl5, zl6, zl7, zl8, zl9, zl10, zl11, zl12, zl13, zl14, zl15, zl16, zl17, zl18, zl19, zl20, zl21, zl22, zl23, zl24, zl25, zl26, zl27, zl28, zl29, zl30, zl31, zl32, zl36, zl37, zl38, zl40, zl42, zl43, zl44, zl48, zl53, zl54, zl57, zl59, zl60, zl61, zl63, zl64, zl70, zl71, zl72, zl77, zl78, zl90, zl97, zl98, zl99, zl100, zl101, zl102, zl106, zl111, zl122, zl127, zl128, zl150, zl181, zl256, zl362, zl9999, zl999999, zl1000000, rs, rh]
  exact ⟨by omega, by omega, fun c => h1 c, fun c => h2 c⟩
set_option maxHeartbeats 4000000 in
set_option maxRecDepth 100000 in
theorem s_waitingBehind (H : StR σ h a) (hs : Sm a) (h8 : a 0 ≤ 8) (h3 : a 1 ≤ 3) {k : Nat} (hk : k < a 1) {Q : Int32 → St → Prop} (hq : Q (nI (cnt a (a (40 + k)) (a 0))) σ) : V_X8_waitingBehind h (nI k) σ Q := by
  obtain ⟨r0, r1, r14, r15, rw, rk, rm, rs, rg, rb, rh⟩ := H
  unfold V_X8_waitingBehind B_X8_waitingBehind_e
  have loop : ∀ d g, g + d = a 0 → R_X8_waitingBehind h (nI k) Q 4 [nI (cnt a (a (40 + k)) g), nI g] [] σ := by
    intro d
    induction d with
    | zero =>
      intro g hg
      refine i_X8_waitingBehind_4 _ _ _ _ _ _ ?_
      unfold B_X8_waitingBehind_4
      simp (disch := first | omega | exact hs _) only [q_m1, q_m1n, q_m1a, q_eq, q_le, q_lt, nI_add, pk_sub, pk_mul, pk_div, pk_rem, nI_clamp, q_in, zl0, zl1, zl2, zl3, zl4, zl5, zl6, zl7, zl8, zl9, zl10, zl11, zl12, zl13, zl14, zl15, zl16, zl17, zl18, zl19, zl20, zl21, zl22, zl23, zl24, zl25, zl26, zl27, zl28, zl29, zl30, zl31, zl32, zl36, zl37, zl38, zl40, zl42, zl43, zl44, zl48, zl53, zl54, zl57, zl59, zl60, zl61, zl63, zl64, zl70, zl71, zl72, zl77, zl78, zl90, zl97, zl98, zl99, zl100, zl101, zl102, zl106, zl111, zl122, zl127, zl128, zl150, zl181, zl256, zl362, zl9999, zl999999, zl1000000, r0]
      refine ⟨fun _ => ?_, fun c => absurd c (by omega)⟩
      rw [← (by omega : g = a 0)] at hq
      exact hq
    | succ d ih =>
      intro g hg
      refine i_X8_waitingBehind_4 _ _ _ _ _ _ ?_
      unfold B_X8_waitingBehind_4
      have := cnt_le (a := a) (s := a (40 + k)) g
      have e := ih (g + 1) (by omega)
      rw [show cnt a (a (40 + k)) (g + 1) = cnt a (a (40 + k)) g + (if a (6 + g) = a (40 + k) then 1 else 0) from rfl] at e
      simp (disch := first | omega | exact hs _) only [q_m1, q_m1n, q_m1a, q_eq, q_le, q_lt, nI_add, pk_sub, pk_mul, pk_div, pk_rem, nI_clamp, q_in, zl0, zl1, zl2, zl3, zl4, zl5, zl6, zl7, zl8, zl9, zl10, zl11, zl12, zl13, zl14, zl15, zl16, zl17, zl18, zl19, zl20, zl21, zl22, zl23, zl24, zl25, zl26, zl27, zl28, zl29, zl30, zl31, zl32, zl36, zl37, zl38, zl40, zl42, zl43, zl44, zl48, zl53, zl54, zl57, zl59, zl60, zl61, zl63, zl64, zl70, zl71, zl72, zl77, zl78, zl90, zl97, zl98, zl99, zl100, zl101, zl102, zl106, zl111, zl122, zl127, zl128, zl150, zl181, zl256, zl362, zl9999, zl999999, zl1000000, r0, rs, rb]
      refine ⟨fun c => absurd c (by omega), fun _ => ⟨by omega, by omega, fun c => ?_, fun c => ?_⟩⟩
      · rw [if_neg c] at e
        exact e
      · rw [if_pos c] at e
        exact e
  exact loop (a 0) 0 (by omega)
set_option maxHeartbeats 4000000 in
set_option maxRecDepth 100000 in
theorem s_over (H : StR σ h a) (hs : Sm a) (h8 : a 0 ≤ 8) {Q : Int32 → St → Prop} (hq : Q (nI (cnt a 23 (a 0))) σ) : V_X8_over h σ Q := by
  obtain ⟨r0, r1, r14, r15, rw, rk, rm, rs, rg, rb, rh⟩ := H
  unfold V_X8_over B_X8_over_e
  have loop : ∀ d g, g + d = a 0 → R_X8_over h Q 4 [nI (cnt a 23 g), nI g] [] σ := by
    intro d
    induction d with
    | zero =>
      intro g hg
      refine i_X8_over_4 _ _ _ _ _ ?_
      unfold B_X8_over_4
      simp (disch := first | omega | exact hs _) only [q_m1, q_m1n, q_m1a, q_eq, q_le, q_lt, nI_add, pk_sub, pk_mul, pk_div, pk_rem, nI_clamp, q_in, zl0, zl1, zl2, zl3, zl4, zl5, zl6, zl7, zl8, zl9, zl10, zl11, zl12, zl13, zl14, zl15, zl16, zl17, zl18, zl19, zl20, zl21, zl22, zl23, zl24, zl25, zl26, zl27, zl28, zl29, zl30, zl31, zl32, zl36, zl37, zl38, zl40, zl42, zl43, zl44, zl48, zl53, zl54, zl57, zl59, zl60, zl61, zl63, zl64, zl70, zl71, zl72, zl77, zl78, zl90, zl97, zl98, zl99, zl100, zl101, zl102, zl106, zl111, zl122, zl127, zl128, zl150, zl181, zl256, zl362, zl9999, zl999999, zl1000000, r0]
      refine ⟨fun _ => ?_, fun c => absurd c (by omega)⟩
      rw [← (by omega : g = a 0)] at hq
      exact hq
    | succ d ih =>
      intro g hg
      refine i_X8_over_4 _ _ _ _ _ ?_
      unfold B_X8_over_4
      have := cnt_le (a := a) (s := 23) g
      have e := ih (g + 1) (by omega)
      rw [show cnt a 23 (g + 1) = cnt a 23 g + (if a (6 + g) = 23 then 1 else 0) from rfl] at e
      simp (disch := first | omega | exact hs _) only [q_m1, q_m1n, q_m1a, q_eq, q_le, q_lt, nI_add, pk_sub, pk_mul, pk_div, pk_rem, nI_clamp, q_in, zl0, zl1, zl2, zl3, zl4, zl5, zl6, zl7, zl8, zl9, zl10, zl11, zl12, zl13, zl14, zl15, zl16, zl17, zl18, zl19, zl20, zl21, zl22, zl23, zl24, zl25, zl26, zl27, zl28, zl29, zl30, zl31, zl32, zl36, zl37, zl38, zl40, zl42, zl43, zl44, zl48, zl53, zl54, zl57, zl59, zl60, zl61, zl63, zl64, zl70, zl71, zl72, zl77, zl78, zl90, zl97, zl98, zl99, zl100, zl101, zl102, zl106, zl111, zl122, zl127, zl128, zl150, zl181, zl256, zl362, zl9999, zl999999, zl1000000, r0, rs]
      refine ⟨fun c => absurd c (by omega), fun _ => ⟨by omega, fun c => ?_, fun c => ?_⟩⟩
      · rw [if_neg c] at e
        exact e
      · rw [if_pos c] at e
        exact e
  exact loop (a 0) 0 (by omega)
set_option maxHeartbeats 4000000 in
set_option maxRecDepth 100000 in
theorem s_goesNow (H : StR σ h a) (hs : Sm a) (h8 : a 0 ≤ 8) {g : Nat} (hg : g < a 0) (hk : a (22 + g) ≤ 5) (hw : ∀ i, i < 6 → a (16 + i) ≤ 4) {Q : Int32 → St → Prop} (hq : Q (nI (gon a g)) σ) : V_X8_goesNow h (nI g) σ Q := by
  obtain ⟨r0, r1, r14, r15, rw, rk, rm, rs, rg, rb, rh⟩ := H
  unfold V_X8_goesNow B_X8_goesNow_e
  rw [r15]
  have h6 : a 15 % 6 < 6 := Nat.mod_lt _ (by omega)
  have e6 : nI (a 15) - nI (a 15) / 6 * 6 = nI (a 15 % 6) := pk_rem (d := 6) (hs 15) (by omega) (by omega)
  rw [e6]
  simp (disch := first | omega | exact hs _) only [q_m1, q_m1n, q_m1a, q_eq, q_le, q_lt, nI_add, pk_sub, pk_mul, pk_div, pk_rem, nI_clamp, q_in, zl0, zl1, zl2, zl3, zl4, zl5, zl6, zl7, zl8, zl9, zl10, zl11, zl12, zl13, zl14, zl15, zl16, zl17, zl18, zl19, zl20, zl21, zl22, zl23, zl24, zl25, zl26, zl27, zl28, zl29, zl30, zl31, zl32, zl36, zl37, zl38, zl40, zl42, zl43, zl44, zl48, zl53, zl54, zl57, zl59, zl60, zl61, zl63, zl64, zl70, zl71, zl72, zl77, zl78, zl90, zl97, zl98, zl99, zl100, zl101, zl102, zl106, zl111, zl122, zl127, zl128, zl150, zl181, zl256, zl362, zl9999, zl999999, zl1000000, rk, rw]
  exact ⟨by omega, by omega, v_spikesGone hk (hs 15) (hw _ h6) hq⟩
set_option maxHeartbeats 4000000 in
set_option maxRecDepth 100000 in
theorem s_letsNow (H : StR σ h a) (hB : Bd a) {k : Nat} (hk : k < a 1) {Q : Int32 → St → Prop} (hq : Q (nI (if cnt a (a (40 + k)) (a 0) = 0 then 0 else lA (a (37 + k)) (a 15) (cnt a (a (40 + k)) (a 0)))) σ) : V_X8_letsNow h (nI k) σ Q := by
  have hs : Sm a := hB.2.2.2.2.2.2.2.2
  have h0 := hB.1
  have h1 := hB.2.1
  have hc := cnt_le (a := a) (s := a (40 + k)) (a 0)
  unfold V_X8_letsNow B_X8_letsNow_e
  refine s_waitingBehind H hs h0 h1 hk ?_
  obtain ⟨r0, r1, r14, r15, rw, rk, rm, rs, rg, rb, rh⟩ := H
  simp (disch := first | omega | exact hs _) only [q_m1, q_m1n, q_m1a, q_eq, q_le, q_lt, nI_add, pk_sub, pk_mul, pk_div, pk_rem, nI_clamp, q_in, zl0, zl1, zl2, zl3, zl4, zl5, zl6, zl7, zl8, zl9, zl10, zl11, zl12, zl13, zl14, zl15, zl16, zl17, zl18, zl19, zl20, zl21, zl22, zl23, zl24, zl25, zl26, zl27, zl28, zl29, zl30, zl31, zl32, zl36, zl37, zl38, zl40, zl42, zl43, zl44, zl48, zl53, zl54, zl57, zl59, zl60, zl61, zl63, zl64, zl70, zl71, zl72, zl77, zl78, zl90, zl97, zl98, zl99, zl100, zl101, zl102, zl106, zl111, zl122, zl127, zl128, zl150, zl181, zl256, zl362, zl9999, zl999999, zl1000000, rg, r15]
  refine ⟨fun q => ⟨by omega, v_letOver (hB.2.2.2.2.2.2.1 k hk).1 (hs 15) (by omega) ?_⟩, fun q => ?_⟩
  · rw [if_neg q] at hq; exact hq
  · rw [if_pos q] at hq; exact hq
theorem StR.spike (H : StR σ h a) {g v : Nat} (hg : g < 8) : StR (us σ (h + 4) (upd (σ (h + 4)) g (nI v))) h (upN a (6 + g) v) := by
  obtain ⟨r0, r1, r14, r15, rw, rk, rm, rs, rg, rb, rh⟩ := H
  have eb : ∀ s, bh (upN a (6 + g) v) s = bh a s := fun s => by
    unfold bh
    rw [upN_n (j := 1) (by omega), upN_n (j := 40) (by omega), upN_n (j := 41) (by omega), upN_n (j := 42) (by omega)]
  unfold StR
  rw [us_ne (j := h) (by omega), us_ne (j := h + 1) (by omega), us_ne (j := h + 2) (by omega), us_ne (j := h + 3) (by omega), us_same, us_ne (j := h + 5) (by omega), us_ne (j := h + 6) (by omega), us_ne (j := h + 7) (by omega)]
  rw [upN_n (j := 0) (by omega), upN_n (j := 1) (by omega), upN_n (j := 14) (by omega), upN_n (j := 15) (by omega)]
  refine ⟨r0, r1, r14, r15, fun i hi => by rw [upN_n (by omega)]; exact rw i hi, fun j hj => by rw [upN_n (by omega)]; exact rk j hj, fun j hj h7 => by rw [upN_n (by omega)]; exact rm j hj h7, fun j hj => ?_, fun k hk => by rw [upN_n (by omega)]; exact rg k hk, fun k hk => by rw [upN_n (by omega)]; exact rb k hk, fun s hs => by rw [eb]; exact rh s hs⟩
  unfold upd
  by_cases e : j = g
  · subst e
    rw [if_pos rfl, upN_s]
  · rw [if_neg e, upN_n (by omega)]
    exact rs j hj
theorem upN_upN {b : Nat → Nat} {i v w : Nat} : upN (upN b i v) i w = upN b i w := by
  funext j
  unfold upN
  split <;> rfl
theorem upN_self {b : Nat → Nat} {i : Nat} : upN b i (b i) = b := by
  funext j
  unfold upN
  split
  · rename_i e; rw [e]
  · rfl
set_option maxHeartbeats 4000000 in
set_option maxRecDepth 100000 in
theorem s_walk (H : StR σ h a) (hs : Sm a) (h8 : a 0 ≤ 8) (h23 : a 1 ≤ 3) {g m : Nat} (hg : g < a 0) (hsp : a (6 + g) ≤ 23) (hm : m ≤ 4) {Q : St → Prop} (hq : ∀ σ', StR σ' h (upN a (6 + g) (wk a m (a (6 + g)))) → (∀ q, q ≠ h + 4 → σ' q = σ q) → Q σ') : V_X8_walk h (nI g) (nI m) σ Q := by
  unfold V_X8_walk B_X8_walk_e
  have loop : ∀ d i s (σ1 : St), i + d = m → s ≤ 23 → wk a m (a (6 + g)) = wk a d s → StR σ1 h (upN a (6 + g) s) → (∀ q, q ≠ h + 4 → σ1 q = σ q) → R_X8_walk h (nI g) (nI m) Q 2 [nI i] [] σ1 := by
    intro d
    induction d with
    | zero =>
      intro i s σ1 hi hsl hw H1 hf
      refine i_X8_walk_2 _ _ _ _ _ _ ?_
      unfold B_X8_walk_2
      rw [(by omega : i = m)]
      refine ⟨fun _ => hq σ1 (by rw [hw]; exact H1) hf, fun c => absurd (by rw [q_le (by omega) (by omega)]; omega) c⟩
    | succ d ih =>
      intro i s σ1 hi hsl hw H1 hf
      refine i_X8_walk_2 _ _ _ _ _ _ ?_
      unfold B_X8_walk_2
      have ebs : ∀ t, bh (upN a (6 + g) s) t = bh a t := fun t => by
        unfold bh
        rw [upN_n (j := 1) (by omega), upN_n (j := 40) (by omega), upN_n (j := 41) (by omega), upN_n (j := 42) (by omega)]
      have hs1 : Sm (upN a (6 + g) s) := fun j => by
        unfold upN
        split
        · omega
        · exact hs j
      have H1' := H1
      obtain ⟨r0, r1, r14, r15, rw, rk, rm, rs, rg, rb, rh⟩ := H1
      have rsg : σ1 (h + 4) g = nI s := by rw [rs g (by rw [upN_n (by omega)]; exact hg), upN_s]
      rw [show wk a (d + 1) s = (if s < 23 ∧ bh a s = 0 then wk a d (s + 1) else s) from rfl] at hw
      simp (disch := first | omega | exact hs _) only [q_m1, q_m1n, q_m1a, q_eq, q_le, q_lt, nI_add, pk_sub, pk_mul, pk_div, pk_rem, nI_clamp, q_in, zl0, zl1, zl2, zl3, zl4, zl5, zl6, zl7, zl8, zl9, zl10, zl11, zl12, zl13, zl14, zl15, zl16, zl17, zl18, zl19, zl20, zl21, zl22, zl23, zl24, zl25, zl26, zl27, zl28, zl29, zl30, zl31, zl32, zl36, zl37, zl38, zl40, zl42, zl43, zl44, zl48, zl53, zl54, zl57, zl59, zl60, zl61, zl63, zl64, zl70, zl71, zl72, zl77, zl78, zl90, zl97, zl98, zl99, zl100, zl101, zl102, zl106, zl111, zl122, zl127, zl128, zl150, zl181, zl256, zl362, zl9999, zl999999, zl1000000, rsg]
      refine ⟨fun c => absurd c (by omega), fun _ => ⟨by omega, fun c => ?_, fun c => ?_⟩⟩
      · rw [if_neg (by omega)] at hw
        exact hq σ1 (by rw [hw]; exact H1') hf
      · refine s_waits H1' hs1 (by rw [upN_n (by omega)]; exact hg) (by rw [upN_n (by omega)]; exact h8) (by rw [upN_s]; omega) (fun b => ?_) (fun b => ?_)
        · rw [upN_s, ebs] at b
          rw [if_pos ⟨by omega, b⟩] at hw
          refine ⟨fun c => absurd rfl c, fun _ => ⟨by omega, by omega, fun s2 es2 => ?_⟩⟩
          subst es2
          have H2 := H1'.spike (g := g) (v := s + 1) (by omega)
          rw [upN_upN] at H2
          simp (disch := first | omega | exact hs _) only [q_m1, q_m1n, q_m1a, q_eq, q_le, q_lt, nI_add, pk_sub, pk_mul, pk_div, pk_rem, nI_clamp, q_in, zl0, zl1, zl2, zl3, zl4, zl5, zl6, zl7, zl8, zl9, zl10, zl11, zl12, zl13, zl14, zl15, zl16, zl17, zl18, zl19, zl20, zl21, zl22, zl23, zl24, zl25, zl26, zl27, zl28, zl29, zl30, zl31, zl32, zl36, zl37, zl38, zl40, zl42, zl43, zl44, zl48, zl53, zl54, zl57, zl59, zl60, zl61, zl63, zl64, zl70, zl71, zl72, zl77, zl78, zl90, zl97, zl98, zl99, zl100, zl101, zl102, zl106, zl111, zl122, zl127, zl128, zl150, zl181, zl256, zl362, zl9999, zl999999, zl1000000, rsg]
          exact ih (i + 1) (s + 1) _ (by omega) (by omega) hw H2 (fun q hqq => by rw [us_ne hqq]; exact hf q hqq)
        · rw [upN_s, ebs] at b
          rw [if_neg (fun z => b z.2)] at hw
          exact ⟨fun _ => hq σ1 (by rw [hw]; exact H1') hf, fun c => absurd c (by decide)⟩
  exact loop m 0 _ σ (by omega) hsp rfl (by rw [upN_self]; exact H) (fun _ _ => rfl)
end SC

section PH
variable {σ : St} {h : Nat} {a : Nat → Nat}
abbrev Fr (σ σ' : St) (h : Nat) : Prop := ∀ q, (q < h ∨ h + 8 < q) → σ' q = σ q
theorem st_of {g : Nat} : upN (st a g) (6 + g) (nsp a g) = st a (g + 1) := by
  funext i
  rw [st_step]
  rfl
set_option maxHeartbeats 4000000 in
set_option maxRecDepth 100000 in
theorem s_passHour (H : StR σ h a) (hB : Bd a) {Q : St → Prop} (hq : ∀ σ', StR σ' h (hr a) → Fr σ σ' h → Q σ') : V_X8_passHour h σ Q := by
  have hs : Sm a := hB.2.2.2.2.2.2.2.2
  have h0 := hB.1
  have h1 := hB.2.1
  have h14 := hB.2.2.1
  -- the second loop
  have loop2 : ∀ d g (σ1 : St), g + d = a 0 → StR σ1 h (st a g) → (∀ k, k < a 1 → σ1 (h + 8) k = nI (lets a k - cc a k g)) → Fr σ σ1 h → R_X8_passHour h Q 42 [nI g] [] σ1 := by
    intro d
    induction d with
    | zero =>
      intro g σ1 hg H1 hp hf
      refine i_X8_passHour_42 _ _ _ _ ?_
      unfold B_X8_passHour_42
      have e0 : st a g 0 = a 0 := st_lo (by omega)
      have H1' := H1
      obtain ⟨r0, r1, r14, r15, rw, rk, rm, rs, rg, rb, rh⟩ := H1
      rw [e0] at r0
      have e15 : st a g 15 = a 15 := st_hi (by omega)
      rw [e15] at r15
      have h15 := hB.2.2.2.1
      rw [r0, r15]
      refine ⟨fun _ s1 es1 => ?_, fun c => absurd (by rw [q_le (hs 0) (by omega)]; omega) c⟩
      subst es1
      have eg : g = a 0 := by omega
      subst eg
      refine hq _ ?_ (fun q hqq => by rw [us_ne (by omega)]; exact hf q hqq)
      unfold StR
      rw [us_same, us_ne (j := h + 1) (by omega), us_ne (j := h + 2) (by omega), us_ne (j := h + 3) (by omega), us_ne (j := h + 4) (by omega), us_ne (j := h + 5) (by omega), us_ne (j := h + 6) (by omega), us_ne (j := h + 7) (by omega)]
      have eh : ∀ i, i ≠ 15 → hr a i = st a (a 0) i := fun i hi => by rw [st_hr h0, if_neg hi]
      rw [eh 0 (by omega), eh 1 (by omega), eh 14 (by omega)]
      refine ⟨by rw [e0]; exact r0, r1, r14, ?_, fun i hi => by rw [eh _ (by omega)]; exact rw i hi, fun j hj => by rw [eh _ (by omega)]; exact rk j hj, fun j hj h7 => by rw [eh _ (by omega)]; exact rm j hj h7, fun j hj => by rw [eh _ (by rw [e0] at hj; omega)]; exact rs j hj, fun k hk => by rw [eh _ (by omega)]; exact rg k hk, fun k hk => by rw [eh _ (by omega)]; exact rb k hk, fun s hs2 => ?_⟩
      · rw [hr_15 h0, show nI (a 15) + 1 = nI (a 15 + 1) from nI_1 _]
        rfl
      · rw [bh_hr h0, ← st_bh (a := a) (g := a 0) h0]
        exact rh s hs2
    | succ d ih =>
      intro g σ1 hg H1 hp hf
      refine i_X8_passHour_42 _ _ _ _ ?_
      unfold B_X8_passHour_42
      have ht : Sm (st a g) := st_Sm hB (by omega)
      have e0 : st a g 0 = a 0 := st_lo (by omega)
      have e01 : st a g 1 = a 1 := st_lo (by omega)
      have eg : st a g (6 + g) = a (6 + g) := st_hi (by omega)
      have hgl := (hB.2.2.2.2.2.1 g (by omega))
      have hb3 := bh_sm (a := a) (s := a (6 + g))
      have hbl := bh_le (s := a (6 + g)) hB
      have H1' := H1
      obtain ⟨r0, r1, r14, r15, rw, rk, rm, rs, rg, rb, rh⟩ := H1
      have rsg : σ1 (h + 4) g = nI (a (6 + g)) := by rw [rs g (by omega), eg]
      have rhg : σ1 (h + 7) (a (6 + g)) = nI (bh a (a (6 + g))) := by rw [rh _ (by omega), st_bh (by omega)]
      rw [e0] at r0
      simp (disch := first | omega | exact hs _) only [q_m1, q_m1n, q_m1a, q_eq, q_le, q_lt, nI_add, pk_sub, pk_mul, pk_div, pk_rem, nI_clamp, q_in, zl0, zl1, zl2, zl3, zl4, zl5, zl6, zl7, zl8, zl9, zl10, zl11, zl12, zl13, zl14, zl15, zl16, zl17, zl18, zl19, zl20, zl21, zl22, zl23, zl24, zl25, zl26, zl27, zl28, zl29, zl30, zl31, zl32, zl36, zl37, zl38, zl40, zl42, zl43, zl44, zl48, zl53, zl54, zl57, zl59, zl60, zl61, zl63, zl64, zl70, zl71, zl72, zl77, zl78, zl90, zl97, zl98, zl99, zl100, zl101, zl102, zl106, zl111, zl122, zl127, zl128, zl150, zl181, zl256, zl362, zl9999, zl999999, zl1000000, r0, rsg, rhg]
      refine ⟨fun c => absurd c (by omega), fun _ => ⟨by omega, by omega, fun v ev => ⟨fun c => ?_, fun c => ?_⟩⟩⟩
      · subst ev
        have hb : bh a (a (6 + g)) ≠ 0 := fun q => c (by rw [q]; decide)
        obtain ⟨k, hk⟩ : ∃ k, bh a (a (6 + g)) = k + 1 := ⟨bh a (a (6 + g)) - 1, by omega⟩
        have hpk := hp k (by omega)
        have hlk := lets_le (k := k) hB
        have hrk := cc_rank hk hB
        have hck := cc_le (a := a) (k := k) (g := g)
        rw [hk, show nI (k + 1) - nI 1 = nI k from nI_pred k]
        have hnp : ∀ j, j < a 1 → j ≠ k → cc a j (g + 1) = cc a j g := fun j _ hj => cc_no (by omega) hB
        have hyes : cc a k (g + 1) = cc a k g + 1 := cc_yes hk hB
        simp (disch := first | omega | exact hs _) only [q_m1, q_m1n, q_m1a, q_eq, q_le, q_lt, nI_add, pk_sub, pk_mul, pk_div, pk_rem, nI_clamp, q_in, zl0, zl1, zl2, zl3, zl4, zl5, zl6, zl7, zl8, zl9, zl10, zl11, zl12, zl13, zl14, zl15, zl16, zl17, zl18, zl19, zl20, zl21, zl22, zl23, zl24, zl25, zl26, zl27, zl28, zl29, zl30, zl31, zl32, zl36, zl37, zl38, zl40, zl42, zl43, zl44, zl48, zl53, zl54, zl57, zl59, zl60, zl61, zl63, zl64, zl70, zl71, zl72, zl77, zl78, zl90, zl97, zl98, zl99, zl100, zl101, zl102, zl106, zl111, zl122, zl127, zl128, zl150, zl181, zl256, zl362, zl9999, zl999999, zl1000000, hpk]
        refine ⟨by omega, fun c2 => ?_, fun c2 => ⟨by omega, by omega, fun s3 es3 => ⟨by omega, by omega, fun s4 es4 => ?_⟩⟩⟩
        · have ens : nsp a g = a (6 + g) := by
            unfold nsp
            rw [if_neg hb, hk, show k + 1 - 1 = k from rfl, if_neg (by omega)]
            rfl
          refine ih (g + 1) σ1 (by omega) ?_ (fun j hj => ?_) hf
          · rw [← st_of, ens, ← eg, upN_self]
            exact H1'
          · by_cases e : j = k
            · subst e; rw [hp j hj, hyes]; congr 1; omega
            · rw [hp j hj, hnp j hj e]
        · have ens : nsp a g = a (6 + g) + 1 := by
            unfold nsp
            rw [if_neg hb, hk, show k + 1 - 1 = k from rfl, if_pos (by omega)]
          rw [show nI (lets a k - cc a k g) - nI 1 = nI (lets a k - cc a k g - 1) from pk_sub (by omega)] at es3
          subst es3
          rw [us_ne (j := h + 4) (by omega), rsg, show nI (a (6 + g)) + nI 1 = nI (a (6 + g) + 1) from nI_1 _] at es4
          have H3 : StR (us σ1 (h + 8) (upd (σ1 (h + 8)) k (nI (lets a k - cc a k g - 1)))) h (st a g) := H1'.congr (fun q _ _ => us_ne (by omega))
          have H4 := H3.spike (g := g) (v := a (6 + g) + 1) (by omega)
          rw [us_ne (j := h + 4) (by omega), ← ens, st_of] at H4
          rw [ens] at H4
          subst es4
          refine ih (g + 1) _ (by omega) H4 (fun j hj => ?_) (fun q hqq => by rw [us_ne (by omega), us_ne (by omega)]; exact hf q hqq)
          rw [us_ne (by omega), us_same]
          unfold upd
          by_cases e : j = k
          · subst e; rw [if_pos rfl, hyes]; congr 1
          · rw [if_neg e, hp j hj, hnp j hj e]
      · subst ev
        have hb : bh a (a (6 + g)) = 0 := by
          rw [← q_m1 (b := bh a (a (6 + g))) (by omega)]
          exact c
        have ens : wk a (gon a g) (a (6 + g)) = nsp a g := by unfold nsp; rw [if_pos hb]
        refine s_goesNow H1' ht (by omega) (by omega) (by rw [st_hi (by omega)]; exact hgl.1) (fun i hi => by rw [st_hi (by omega)]; exact hB.2.2.2.2.1 i hi) ?_
        refine s_walk H1' ht (by omega) (by omega) (by omega) (by rw [eg]; exact hgl.2) gon_le (fun σ2 H2 hf2 => ?_)
        rw [eg, st_wk (by omega), st_gon (by omega), ens, st_of] at H2
        refine ih (g + 1) σ2 (by omega) H2 (fun j hj => ?_) (fun q hqq => by rw [hf2 q (by omega)]; exact hf q hqq)
        rw [hf2 (h + 8) (by omega), hp j hj, cc_no (by omega) hB]
  have loop1 : ∀ d k (σ1 : St), k + d = a 1 → StR σ1 h a → (∀ j, j < k → σ1 (h + 8) j = nI (lets a j)) → Fr σ σ1 h → R_X8_passHour h Q 2 [nI k] [] σ1 := by
    intro d
    induction d with
    | zero =>
      intro k σ1 hk H1 hp hf
      refine i_X8_passHour_2 _ _ _ _ ?_
      unfold B_X8_passHour_2
      rw [H1.2.1]
      refine ⟨fun _ => loop2 (a 0) 0 σ1 (by omega) (by rw [st_0]; exact H1) (fun j hj => ?_) hf, fun c => absurd (by rw [q_le (hs 1) (by omega)]; omega) c⟩
      have cc0 : cc a j 0 = 0 := by unfold cc; split <;> rfl
      rw [cc0]
      exact hp j (by omega)
    | succ d ih =>
      intro k σ1 hk H1 hp hf
      refine i_X8_passHour_2 _ _ _ _ ?_
      unfold B_X8_passHour_2
      rw [H1.2.1]
      have nxt : ∀ v, v = lets a k → R_X8_passHour h Q 2 [nI k + 1] [] (us σ1 (h + 8) (upd (σ1 (h + 8)) k (nI v))) := fun v ev => by
        rw [nI_1]
        refine ih (k + 1) _ (by omega) (H1.congr (fun q _ _ => us_ne (by omega))) (fun j hj => ?_) (fun q hqq => by rw [us_ne (by omega)]; exact hf q hqq)
        rw [us_same]
        unfold upd
        by_cases e : j = k
        · subst e; rw [if_pos rfl, ev]
        · rw [if_neg e]; exact hp j (by omega)
      have hbit : a 14 / 2 ^ k % 2 < 2 := Nat.mod_lt _ (by omega)
      refine ⟨fun c => absurd (by rw [q_le (hs 1) (by omega)] at c; exact c) (by omega), fun _ => v_shutBit (hs 14) (by omega) H1.2.2.1 ?_⟩
      have ein : vp_in (nI k) 3 := vp_in_nI (by omega) (by omega)
      have ecl : (nI k).toNatClampNeg = k := nI_clamp (by omega)
      refine ⟨fun c => s_letsNow H1 hB (by omega) ⟨ein, fun s3 es3 => ?_⟩, fun c => ⟨ein, fun s3 es3 => ?_⟩⟩
      · rw [es3, ecl]
        refine nxt _ ?_
        unfold lets
        rw [if_neg (show ¬ a 1 ≤ k by omega), if_neg (show ¬ a 14 / 2 ^ k % 2 = 1 from fun q => c (by rw [q]; rfl))]
      · rw [es3, ecl]
        refine nxt 0 ?_
        unfold lets
        rw [if_neg (show ¬ a 1 ≤ k by omega), if_pos (show a 14 / 2 ^ k % 2 = 1 by
          have := c
          rw [show (1 : Int32) = nI 1 from rfl, q_eq (by omega) (by omega)] at this
          exact this)]
  exact loop1 (a 1) 0 σ (by omega) H (fun j hj => absurd hj (by omega)) (fun _ _ => rfl)
set_option maxHeartbeats 4000000 in
set_option maxRecDepth 100000 in
theorem s_pass (H : StR σ h a) (hB : Bd a) {m : Nat} (hm : a 15 + m < 1000000) {Q : St → Prop} (hq : ∀ σ', StR σ' h (it m a) → Fr σ σ' h → Q σ') : V_X8_pass h (nI m) σ Q := by
  unfold V_X8_pass B_X8_pass_e
  have loop : ∀ d i (σ1 : St), i + d = m → StR σ1 h (it i a) → Fr σ σ1 h → R_X8_pass h (nI m) Q 2 [nI i] [] σ1 := by
    intro d
    induction d with
    | zero =>
      intro i σ1 hi H1 hf
      refine i_X8_pass_2 _ _ _ _ _ ?_
      unfold B_X8_pass_2
      rw [(by omega : i = m)] at *
      exact ⟨fun _ => hq σ1 H1 hf, fun c => absurd (by rw [q_le (by omega) (by omega)]; omega) c⟩
    | succ d ih =>
      intro i σ1 hi H1 hf
      refine i_X8_pass_2 _ _ _ _ _ ?_
      unfold B_X8_pass_2
      refine ⟨fun c => absurd (by rw [q_le (by omega) (by omega)] at c; exact c) (by omega), fun _ => s_passHour H1 (Bd_it hB i (by omega)) (fun σ2 H2 hf2 => ?_)⟩
      rw [nI_1]
      rw [← it_succ] at H2
      exact ih (i + 1) σ2 (by omega) H2 (fun q hqq => by rw [hf2 q hqq]; exact hf q hqq)
  exact loop m 0 σ (by omega) H (fun _ _ => rfl)
end PH

section CP
variable {σ : St} {h : Nat} {a : Nat → Nat}
theorem va_cpy0 {f g : Nat → Int32} {n j : Nat} (h : j < n) : va_cpy f g 0 0 n j = f j := by
  rw [pk_cpy_in (Nat.zero_le _) (by omega)]
  congr 1
  omega
set_option maxHeartbeats 4000000 in
set_option maxRecDepth 100000 in
theorem s_copy {h0 h1 : Nat} (H : StR σ h1 a) (h7 : a 0 ≤ 7) (h3 : a 1 ≤ 3) (hd : h0 + 8 < h1 ∨ h1 + 8 < h0) {Q : St → Prop} (hq : ∀ σ', StR σ' h0 a → Fr σ σ' h0 → Q σ') : V_X8_copy h0 h1 σ Q := by
  obtain ⟨r0, r1, r14, r15, rw, rk, rm, rs, rg, rb, rh⟩ := H
  unfold V_X8_copy B_X8_copy_e
  intro s1 e1 s2 e2 s3 e3 s4 e4 s5 e5 s6 e6 s7 e7 s8 e8 s9 e9 s10 e10 s11 e11
  subst e1; subst e2; subst e3; subst e4; subst e5; subst e6; subst e7; subst e8; subst e9; subst e10; subst e11
  refine hq _ ?_ (fun q hqq => ?_)
  · unfold StR
    simp (disch := omega) only [us_same, us_ne, pk_us, pk_un]
    refine ⟨r0, r1, r14, r15, fun i hi => ?_, fun g hg => ?_, fun g hg _ => ?_, fun g hg => ?_, fun k hk => ?_, fun k hk => ?_, fun s hs => ?_⟩
    · rw [va_cpy0 (by omega)]; exact rw i hi
    · rw [va_cpy0 (by omega)]; exact rk g hg
    · rw [va_cpy0 (by omega)]; exact rm g hg (by omega)
    · rw [va_cpy0 (by omega)]; exact rs g hg
    · rw [va_cpy0 (by omega)]; exact rg k hk
    · rw [va_cpy0 (by omega)]; exact rb k hk
    · rw [va_cpy0 (by omega)]; exact rh s hs
  · simp (disch := omega) only [us_same, us_ne]
set_option maxHeartbeats 4000000 in
set_option maxRecDepth 100000 in
theorem s_empty {a' : Nat → Nat} (e0 : a' 0 = 0) (e1 : a' 1 = 0) (e14 : a' 14 = 0) (e15 : a' 15 = 0) (ew : ∀ i, i < 6 → a' (16 + i) = 0) {Q : St → Prop} (hq : ∀ σ', StR σ' h a' → Fr σ σ' h → Q σ') : V_X8_empty h σ Q := by
  unfold V_X8_empty B_X8_empty_e
  have eb : ∀ s, bh a' s = 0 := fun s => bh_none (by omega) (fun k hk => absurd hk (by omega))
  have loop2 : ∀ d i (σ1 : St), i + d = 24 → (∀ j, j < 6 → σ1 (h + 1) j = 0) → (∀ j, j < i → σ1 (h + 7) j = 0) → Fr σ σ1 h → R_X8_empty h Q 23 [nI i] [] σ1 := by
    intro d
    induction d with
    | zero =>
      intro i σ1 hi hw hb hf
      refine i_X8_empty_23 _ _ _ _ ?_
      unfold B_X8_empty_23
      refine ⟨fun _ s1 f1 s2 f2 s3 f3 s4 f4 => ?_, fun c => absurd (by rw [show (23 : Int32) = nI 23 from rfl, q_lt (by omega) (by omega)]; omega) c⟩
      subst f1; subst f2; subst f3; subst f4
      refine hq _ ?_ (fun q hqq => ?_)
      · unfold StR
        simp (disch := omega) only [us_same, us_ne, pk_us, pk_un]
        refine ⟨by rw [e0]; rfl, by rw [e1]; rfl, by rw [e14]; rfl, by rw [e15]; rfl, fun j hj => by rw [hw j hj, ew j hj]; rfl, fun g hg => absurd hg (by omega), fun g hg => absurd hg (by omega), fun g hg => absurd hg (by omega), fun g hg => absurd hg (by omega), fun g hg => absurd hg (by omega), fun s hs => by rw [hb s (by omega), eb]; rfl⟩
      · simp (disch := omega) only [us_same, us_ne]
        exact hf q hqq
    | succ d ih =>
      intro i σ1 hi hw hb hf
      refine i_X8_empty_23 _ _ _ _ ?_
      unfold B_X8_empty_23
      simp (disch := omega) only [q_m1, q_m1n, q_m1a, q_eq, q_le, q_lt, nI_add, pk_sub, pk_mul, pk_div, pk_rem, nI_clamp, q_in, zl0, zl1, zl2, zl3, zl4, zl5, zl6, zl7, zl8, zl9, zl10, zl11, zl12, zl13, zl14, zl15, zl16, zl17, zl18, zl19, zl20, zl21, zl22, zl23, zl24, zl25, zl26, zl27, zl28, zl29, zl30, zl31, zl32, zl36, zl37, zl38, zl40, zl42, zl43, zl44, zl48, zl53, zl54, zl57, zl59, zl60, zl61, zl63, zl64, zl70, zl71, zl72, zl77, zl78, zl90, zl97, zl98, zl99, zl100, zl101, zl102, zl106, zl111, zl122, zl127, zl128, zl150, zl181, zl256, zl362, zl9999, zl999999, zl1000000]
      refine ⟨fun c => absurd c (by omega), fun _ => ⟨by omega, fun s1 f1 => ?_⟩⟩
      subst f1
      refine ih (i + 1) _ (by omega) (fun j hj => by rw [us_ne (by omega)]; exact hw j hj) (fun j hj => ?_) (fun q hqq => by rw [us_ne (by omega)]; exact hf q hqq)
      rw [us_same]
      unfold upd
      by_cases e : j = i
      · rw [if_pos e]; rfl
      · rw [if_neg e]; exact hb j (by omega)
  have loop1 : ∀ d i (σ1 : St), i + d = 6 → (∀ j, j < i → σ1 (h + 1) j = 0) → Fr σ σ1 h → R_X8_empty h Q 2 [nI i] [] σ1 := by
    intro d
    induction d with
    | zero =>
      intro i σ1 hi hw hf
      refine i_X8_empty_2 _ _ _ _ ?_
      unfold B_X8_empty_2
      refine ⟨fun _ => loop2 24 0 σ1 (by omega) (fun j hj => hw j (by omega)) (fun j hj => absurd hj (by omega)) hf, fun c => absurd (by rw [show (6 : Int32) = nI 6 from rfl, q_le (by omega) (by omega)]; omega) c⟩
    | succ d ih =>
      intro i σ1 hi hw hf
      refine i_X8_empty_2 _ _ _ _ ?_
      unfold B_X8_empty_2
      simp (disch := omega) only [q_m1, q_m1n, q_m1a, q_eq, q_le, q_lt, nI_add, pk_sub, pk_mul, pk_div, pk_rem, nI_clamp, q_in, zl0, zl1, zl2, zl3, zl4, zl5, zl6, zl7, zl8, zl9, zl10, zl11, zl12, zl13, zl14, zl15, zl16, zl17, zl18, zl19, zl20, zl21, zl22, zl23, zl24, zl25, zl26, zl27, zl28, zl29, zl30, zl31, zl32, zl36, zl37, zl38, zl40, zl42, zl43, zl44, zl48, zl53, zl54, zl57, zl59, zl60, zl61, zl63, zl64, zl70, zl71, zl72, zl77, zl78, zl90, zl97, zl98, zl99, zl100, zl101, zl102, zl106, zl111, zl122, zl127, zl128, zl150, zl181, zl256, zl362, zl9999, zl999999, zl1000000]
      refine ⟨fun c => absurd c (by omega), fun _ => ⟨by omega, fun s1 f1 => ?_⟩⟩
      subst f1
      refine ih (i + 1) _ (by omega) (fun j hj => ?_) (fun q hqq => by rw [us_ne (by omega)]; exact hf q hqq)
      rw [us_same]
      unfold upd
      by_cases e : j = i
      · rw [if_pos e]; rfl
      · rw [if_neg e]; exact hw j (by omega)
  exact loop1 6 0 σ (by omega) (fun j hj => absurd hj (by omega)) (fun _ _ => rfl)
end CP

/-! the state of the whole object, told in numbers; what either side holds of it -/
abbrev SS : Type := Nat → Nat → Nat
abbrev CB : Type := Nat → Int32
def PaR (σ : St) (q : Nat) (A : Nat → Nat) : Prop := σ q 1 = nI (A 5) ∧ ∀ r, r < A 5 → (∀ g, g < A 0 → σ (q + 1) (9 * r + g) = nI (A (101 + 10 * r + g))) ∧ σ (q + 1) (9 * r + 7) = nI (A (101 + 10 * r + 8)) ∧ σ (q + 1) (9 * r + 8) = nI (A (101 + 10 * r + 9))
def SeR (σ : St) (q : Nat) (A : Nat → Nat) : Prop := σ q 3 = nI (A 2) ∧ ∀ i, i < A 2 → σ (q + 1) (4 * i) = nI (A (43 + 2 * i)) ∧ σ (q + 1) (4 * i + 1) = nI (A (43 + 2 * i + 1))
def FoR (σ : St) (q : Nat) (A : Nat → Nat) (cn base : Nat) : Prop := σ q 3 = nI (A cn) ∧ ∀ i, i < A cn → ∀ j, j < 4 → σ (q + 1) (4 * i + j) = nI (A (base + 4 * i + j))
def SceR (σ : St) (c : Nat) (A : Nat → Nat) : Prop := StR σ (c + 1) A ∧ PaR σ (c + 10) A ∧ SeR σ (c + 12) A ∧ FoR σ (c + 14) A 3 53 ∧ FoR σ (c + 16) A 4 77
theorem StR.cA {σ : St} {h : Nat} {A A' : Nat → Nat} (H : StR σ h A) (e : ∀ i, i < 43 → i < 2 ∨ 6 ≤ i → A' i = A i) (h8 : A 0 ≤ 7) (h3 : A 1 ≤ 3) : StR σ h A' := by
  obtain ⟨r0, r1, r14, r15, rw, rk, rm, rs, rg, rb, rh⟩ := H
  have e0 := e 0 (by omega) (by omega)
  have e1 := e 1 (by omega) (by omega)
  have eb : ∀ s, bh A' s = bh A s := fun s => by
    unfold bh
    rw [e1, e 40 (by omega) (by omega), e 41 (by omega) (by omega), e 42 (by omega) (by omega)]
  unfold StR
  rw [e0, e1, e 14 (by omega) (by omega), e 15 (by omega) (by omega)]
  exact ⟨r0, r1, r14, r15, fun i hi => by rw [e _ (by omega) (by omega)]; exact rw i hi, fun j hj => by rw [e _ (by omega) (by omega)]; exact rk j hj, fun j hj h7 => by rw [e _ (by omega) (by omega)]; exact rm j hj h7, fun j hj => by rw [e _ (by omega) (by omega)]; exact rs j hj, fun k hk => by rw [e _ (by omega) (by omega)]; exact rg k hk, fun k hk => by rw [e _ (by omega) (by omega)]; exact rb k hk, fun s hs => by rw [eb]; exact rh s hs⟩
theorem PaR.c {σ σ' : St} {q : Nat} {A A' : Nat → Nat} (H : PaR σ q A) (e1 : σ' q = σ q) (e2 : σ' (q + 1) = σ (q + 1)) (f5 : A' 5 = A 5) (f0 : A' 0 = A 0) (f : ∀ i, 101 ≤ i → A' i = A i) : PaR σ' q A' := by
  obtain ⟨h1, h2⟩ := H
  unfold PaR
  rw [e1, e2, f5, f0]
  refine ⟨h1, fun r hr => ⟨fun g hg => ?_, ?_, ?_⟩⟩
  · rw [f _ (by omega)]; exact (h2 r hr).1 g hg
  · rw [f _ (by omega)]; exact (h2 r hr).2.1
  · rw [f _ (by omega)]; exact (h2 r hr).2.2
theorem PaR.z {σ' : St} {q : Nat} {A' : Nat → Nat} (e1 : σ' q 1 = nI 0) (f5 : A' 5 = 0) : PaR σ' q A' := ⟨by rw [e1, f5], fun r hr => absurd hr (by omega)⟩
theorem SeR.c {σ σ' : St} {q : Nat} {A A' : Nat → Nat} (H : SeR σ q A) (e1 : σ' q = σ q) (e2 : σ' (q + 1) = σ (q + 1)) (h5 : A 2 ≤ 5) (f2 : A' 2 = A 2) (f : ∀ i, 43 ≤ i → i < 53 → A' i = A i) : SeR σ' q A' := by
  obtain ⟨h1, h2⟩ := H
  unfold SeR
  rw [e1, e2, f2]
  refine ⟨h1, fun r hr => ⟨?_, ?_⟩⟩
  · rw [f _ (by omega) (by omega)]; exact (h2 r hr).1
  · rw [f _ (by omega) (by omega)]; exact (h2 r hr).2
theorem FoR.c {σ σ' : St} {q : Nat} {A A' : Nat → Nat} {cn base : Nat} (H : FoR σ q A cn base) (e1 : σ' q = σ q) (e2 : σ' (q + 1) = σ (q + 1)) (h5 : A cn ≤ 6) (f2 : A' cn = A cn) (f : ∀ i, base ≤ i → i < base + 24 → A' i = A i) : FoR σ' q A' cn base := by
  obtain ⟨h1, h2⟩ := H
  unfold FoR
  rw [e1, e2, f2]
  refine ⟨h1, fun r hr j hj => ?_⟩
  rw [f _ (by omega) (by omega)]; exact h2 r hr j hj
theorem SceR.congr {σ σ' : St} {c : Nat} {A : Nat → Nat} (H : SceR σ c A) (e : ∀ q, c ≤ q → q ≤ c + 17 → σ' q = σ q) : SceR σ' c A := by
  obtain ⟨h1, h2, h3, h4, h5⟩ := H
  unfold SceR PaR SeR FoR at *
  rw [e (c + 10) (by omega) (by omega), e (c + 10 + 1) (by omega) (by omega), e (c + 12) (by omega) (by omega), e (c + 12 + 1) (by omega) (by omega), e (c + 14) (by omega) (by omega), e (c + 14 + 1) (by omega) (by omega), e (c + 16) (by omega) (by omega), e (c + 16 + 1) (by omega) (by omega)]
  exact ⟨h1.congr (fun q _ _ => e q (by omega) (by omega)), h2, h3, h4, h5⟩
def WFA (A : Nat → Nat) : Prop := Bd A ∧ A 0 ≤ 7 ∧ A 15 ≤ 9999 ∧ A 2 ≤ 5 ∧ A 3 ≤ 6 ∧ A 4 ≤ 6 ∧ A 5 ≤ 8 ∧ (∀ i, i < A 2 → A (43 + 2 * i) ≤ 60 ∧ A (43 + 2 * i + 1) ≤ 23) ∧ (∀ i, i < A 3 → A (53 + 4 * i + 1) ≤ 99 ∧ A (53 + 4 * i + 2) ≤ 4) ∧ (∀ i, i < A 4 → A (77 + 4 * i + 1) ≤ 99 ∧ A (77 + 4 * i + 2) ≤ 7) ∧ (∀ r, r < A 5 → (∀ g, g < A 0 → A (101 + 10 * r + g) ≤ 23) ∧ A (101 + 10 * r + 8) < 8 ∧ A (101 + 10 * r + 9) ≤ 9999) ∧ (∀ g, g < A 0 → A (30 + g) ≤ 9)
def WF (S : SS) : Prop := WFA (S 0) ∧ (S 3 0 = 1 → WFA (S 1)) ∧ (S 3 1 = 1 → WFA (S 2)) ∧ S 3 0 ≤ 1 ∧ S 3 1 ≤ 1 ∧ S 4 0 ≤ 1000 ∧ S 4 1 ≤ 1000 ∧ S 6 0 ≤ 150 ∧ (∀ i, i < S 6 0 → S 5 i ≤ 127)
def RowC (σ : St) : Prop := σ 13 1 = nI 5 ∧ σ 13 2 = nI 2 ∧ σ 15 1 = nI 6 ∧ σ 15 2 = nI 4 ∧ σ 17 1 = nI 6 ∧ σ 17 2 = nI 4
def CR (σ : St) (S : SS) (B : CB) : Prop := SceR σ 1 (S 0) ∧ (S 3 0 = 1 → SceR σ 19 (S 1)) ∧ (S 3 1 = 1 → SceR σ 37 (S 2)) ∧ RowC σ ∧ σ 0 7 = nI (S 3 0 + 2 * S 3 1) ∧ σ 0 8 = nI (S 4 0) ∧ σ 0 9 = nI (S 4 1) ∧ σ 0 10 = B 0 ∧ σ 0 11 = B 1 ∧ σ 0 12 = B 2 ∧ σ 70 1 = nI (S 6 0) ∧ (∀ i, i < S 6 0 → σ 71 i = nI (S 5 i))
def sA (S : SS) (A : Nat → Nat) : SS := fun i => if i = 0 then A else S i
theorem sA_0 {S : SS} {A : Nat → Nat} : sA S A 0 = A := if_pos rfl
theorem sA_n {S : SS} {A : Nat → Nat} {i : Nat} (h : i ≠ 0) : sA S A i = S i := if_neg h
theorem sA_sA {S : SS} {A A' : Nat → Nat} : sA (sA S A) A' = sA S A' := by
  funext i
  unfold sA
  split <;> rfl
def bb (B : CB) (k : Nat) : CB := fun j => if j = k then B k + 1 else B j
theorem CR.congr {σ σ' : St} {S : SS} {B : CB} (H : CR σ S B) (e : ∀ q, q < 55 ∨ q = 70 ∨ q = 71 → σ' q = σ q) : CR σ' S B := by
  obtain ⟨h1, h2, h3, h4, h5⟩ := H
  unfold CR RowC at *
  rw [e 0 (by omega), e 13 (by omega), e 15 (by omega), e 17 (by omega), e 70 (by omega), e 71 (by omega)]
  exact ⟨h1.congr (fun q _ _ => e q (by omega)), fun c => (h2 c).congr (fun q _ _ => e q (by omega)), fun c => (h3 c).congr (fun q _ _ => e q (by omega)), h4, h5⟩
theorem CR.sc {σ σ' : St} {S : SS} {B : CB} {A' : Nat → Nat} (H : CR σ S B) (e : ∀ q, ¬ (1 ≤ q ∧ q ≤ 18) → σ' q = σ q) (hs : SceR σ' 1 A') (hc : RowC σ') : CR σ' (sA S A') B := by
  obtain ⟨h1, h2, h3, h4, h5⟩ := H
  unfold CR
  rw [sA_0, sA_n (i := 1) (by omega), sA_n (i := 2) (by omega), sA_n (i := 3) (by omega), sA_n (i := 4) (by omega), sA_n (i := 5) (by omega), sA_n (i := 6) (by omega), e 0 (by omega), e 70 (by omega), e 71 (by omega)]
  exact ⟨hs, fun c => (h2 c).congr (fun q _ _ => e q (by omega)), fun c => (h3 c).congr (fun q _ _ => e q (by omega)), hc, h5⟩
theorem fr_t {c A B : Prop} (h : ¬ c) (a : A) : (¬ c → A) ∧ (c → B) := ⟨fun _ => a, fun q => absurd q h⟩
theorem fr_f {c A B : Prop} (h : c) (b : B) : (¬ c → A) ∧ (c → B) := ⟨fun q => absurd h q, fun _ => b⟩
section WW
variable {σ : St} {S : SS} {B : CB} {x : Int32} {Q : Int32 → St → Prop}
theorem cw1 {lo hi : Int32} {l u : Int} (k : okI x l u) (el : lo.toInt = l) (eh : hi.toInt = u) (q : Q 1 σ) : V_X10_within x lo hi σ Q := v_within1 (by rw [el, eh]; exact k) q
theorem cw0 {lo hi : Int32} {l u : Int} (k : ¬ okI x l u) (el : lo.toInt = l) (eh : hi.toInt = u) (q : Q 0 σ) : V_X10_within x lo hi σ Q := v_within0 (by rw [el, eh]; exact k) q
theorem lessI {n : Nat} (h : n < 1000) : (nI n - 1).toInt = (n : Int) - 1 := pk_sub_toInt (a := n) (b := 1) (by omega) (by omega)
theorem lessL {n : Nat} (h : n < 1000) : (nI n - 1).toInt64.toInt = (n : Int) - 1 := by rw [Int32.toInt_toInt64]; exact lessI h
theorem c_isG1 (H : CR σ S B) (h7 : S 0 0 ≤ 7) (k : okI x 0 ((S 0 0 : Int) - 1)) (q : Q 1 σ) : V_X10_isGlove x σ Q := by
  unfold V_X10_isGlove B_X10_isGlove_e
  rw [show σ 2 8 = nI (S 0 0) from H.1.1.1]
  exact cw1 k rfl (lessI (by omega)) q
theorem c_isG0 (H : CR σ S B) (h7 : S 0 0 ≤ 7) (k : ¬ okI x 0 ((S 0 0 : Int) - 1)) (q : Q 0 σ) : V_X10_isGlove x σ Q := by
  unfold V_X10_isGlove B_X10_isGlove_e
  rw [show σ 2 8 = nI (S 0 0) from H.1.1.1]
  exact cw0 k rfl (lessI (by omega)) q
theorem c_isC1 (H : CR σ S B) (h7 : S 0 1 ≤ 3) (k : okI x 0 ((S 0 1 : Int) - 1)) (q : Q 1 σ) : V_X10_isCrossing x σ Q := by
  unfold V_X10_isCrossing B_X10_isCrossing_e
  rw [show σ 2 9 = nI (S 0 1) from H.1.1.2.1]
  exact cw1 k rfl (lessI (by omega)) q
theorem c_isC0 (H : CR σ S B) (h7 : S 0 1 ≤ 3) (k : ¬ okI x 0 ((S 0 1 : Int) - 1)) (q : Q 0 σ) : V_X10_isCrossing x σ Q := by
  unfold V_X10_isCrossing B_X10_isCrossing_e
  rw [show σ 2 9 = nI (S 0 1) from H.1.1.2.1]
  exact cw0 k rfl (lessI (by omega)) q
theorem CR.bump (H : CR σ S B) {k : Nat} (hk : k < 3) : CR (us σ 0 (upd (σ 0) (10 + k) (σ 0 (10 + k) + 1))) S (bb B k) := by
  obtain ⟨h1, h2, h3, h4, h5, h6, h7, h8, h9, h10, h11, h12⟩ := H
  unfold CR RowC at *
  simp (disch := omega) only [us_same, us_ne]
  refine ⟨h1.congr (fun q _ _ => us_ne (by omega)), fun c => (h2 c).congr (fun q _ _ => us_ne (by omega)), fun c => (h3 c).congr (fun q _ _ => us_ne (by omega)), h4, by rw [pk_un (by omega)]; exact h5, by rw [pk_un (by omega)]; exact h6, by rw [pk_un (by omega)]; exact h7, ?_, ?_, ?_, h11, h12⟩
  all_goals (rcases (by omega : k = 0 ∨ k = 1 ∨ k = 2) with rfl | rfl | rfl <;> simp_all [upd, bb])
theorem c_bad (H : CR σ S B) (hq : ∀ σ', CR σ' S (bb B 0) → Q (-2) σ') : V_X10_bad σ Q := by
  unfold V_X10_bad B_X10_bad_e
  intro s1 e1
  subst e1
  exact hq _ (H.bump (k := 0) (by omega))
theorem c_badT (H : CR σ S B) (hq : ∀ σ', CR σ' S (bb B 0) → Q (-10) σ') : V_X10_badAsTen σ Q := by
  unfold V_X10_badAsTen B_X10_badAsTen_e
  intro s1 e1
  subst e1
  exact hq _ (H.bump (k := 0) (by omega))
theorem c_no (H : CR σ S B) (hq : ∀ σ', CR σ' S (bb B 1) → Q (-3) σ') : V_X10_no σ Q := by
  unfold V_X10_no B_X10_no_e
  intro s1 e1
  subst e1
  exact hq _ (H.bump (k := 1) (by omega))
theorem c_full (H : CR σ S B) (hq : ∀ σ', CR σ' S (bb B 2) → Q (-4) σ') : V_X10_full σ Q := by
  unfold V_X10_full B_X10_full_e
  intro s1 e1
  subst e1
  exact hq _ (H.bump (k := 2) (by omega))
end WW

