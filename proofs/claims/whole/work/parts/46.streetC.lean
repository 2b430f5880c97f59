/-! the class's street -/
def upN (b : Nat → Nat) (i v : Nat) : Nat → Nat := fun j => if j = i then v else b j
theorem upN_s {b : Nat → Nat} {i v : Nat} : upN b i v i = v := if_pos rfl
theorem upN_n {b : Nat → Nat} {i v j : Nat} (h : j ≠ i) : upN b i v j = b j := if_neg h
def StR (σ : St) (h : Nat) (a : Nat → Nat) : Prop := σ h 8 = nI (a 0) ∧ σ h 9 = nI (a 1) ∧ σ h 10 = nI (a 14) ∧ σ h 11 = nI (a 15) ∧ (∀ i, i < 6 → σ (h + 1) i = nI (a (16 + i))) ∧ (∀ g, g < a 0 → σ (h + 2) g = nI (a (22 + g))) ∧ (∀ g, g < a 0 → g < 7 → σ (h + 3) g = nI (a (30 + g))) ∧ (∀ g, g < a 0 → σ (h + 4) g = nI (a (6 + g))) ∧ (∀ k, k < a 1 → σ (h + 5) k = nI (a (37 + k))) ∧ (∀ k, k < a 1 → σ (h + 6) k = nI (a (40 + k))) ∧ (∀ s, s < 24 → σ (h + 7) s = nI (bh a s))
theorem StR.congr {σ σ' : St} {h : Nat} {a : Nat → Nat} (H : StR σ h a) (e : ∀ q, h ≤ q → q ≤ h + 7 → σ' q = σ q) : StR σ' h a := by
  unfold StR at *
  rw [e h (by omega) (by omega), e (h + 1) (by omega) (by omega), e (h + 2) (by omega) (by omega), e (h + 3) (by omega) (by omega), e (h + 4) (by omega) (by omega), e (h + 5) (by omega) (by omega), e (h + 6) (by omega) (by omega), e (h + 7) (by omega) (by omega)]
  exact H
section SC
variable {σ : St} {h : Nat} {a : Nat → Nat}
set_option maxHeartbeats 4000000 in
set_option maxRecDepth 100000 in
theorem s_waits (H : StR σ h a) (hs : Sm a) {g : Nat} (hg : g < a 0) (h8 : a 0 ≤ 8) (h23 : a (6 + g) ≤ 23) {Q : Int32 → St → Prop} (h1 : bh a (a (6 + g)) = 0 → Q 0 σ) (h2 : bh a (a (6 + g)) ≠ 0 → Q 1 σ) : V_X8_waits h (nI g) σ Q := by
  obtain ⟨r0, r1, r14, r15, rw, rk, rm, rs, rg, rb, rh⟩ := H
  unfold V_X8_waits B_X8_waits_e
  have hb := bh_sm (a := a) (s := a (6 + g))
  simp (disch := first | omega | exact hs _) only [q_m1, q_m1n, q_m1a, q_eq, q_le, q_lt, nI_add, pk_sub, pk_mul, pk_div, pk_rem, nI_clamp, q_in, zl0, zl1, zl2, zl3, zl4, zl5, zl6, zl7, zl8, zl9, zl10, zl11, zl12, zl13, zl14, zl15, zl16, zl17, zl18, zl19, zl20, zl21, zl22, zl23, zl24, zl25, zl26, zl27, zl28, zl29, zl30, zl31, zl32, zl36, zl37, zl38, zl40, zl42, zl43, zl44, zl48, zl53, zl54, zl57, zl59, zl60, zl61, zl63, zl64, zl70, zl71, zl72, zl77, zl78, zl90, zl97, zl98, zl99, zl100, zl101, zl102, zl106, zl111, zl122, zl127, zl128, zl150, zl181, zl256, zl362, zl9999, zl999999, zl1000000, rs, rh]
  exact ⟨by omega, by omega, fun c => h1 c, fun c => h2 c⟩
set_option maxHeartbeats 4000000 in
set_option maxRecDepth 100000 in
theorem s_waitingBehind (H : StR σ h a) (hs : Sm a) (h8 : a 0 ≤ 8) (h3 : a 1 ≤ 3) {k : Nat} (hk : k < a 1) {Q : Int32 → St → Prop} (hq : Q (nI (cnt a (a (40 + k)) (a 0))) σ) : V_X8_waitingBehind h (nI k) σ Q := by
  obtain ⟨r0, r1, r14, r15, rw, rk, rm, rs, rg, rb, rh⟩ := H
  unfold V_X8_waitingBehind B_X8_waitingBehind_e
  have loop : ∀ d g, g + d = a 0 → R_X8_waitingBehind h (nI k) Q 4 [nI (cnt a (a (40 + k)) g), nI g] [] σ := by
    intro d
    induction d with
    | zero =>
      intro g hg
      refine i_X8_waitingBehind_4 _ _ _ _ _ _ ?_
      unfold B_X8_waitingBehind_4
      simp (disch := first | omega | exact hs _) only [q_m1, q_m1n, q_m1a, q_eq, q_le, q_lt, nI_add, pk_sub, pk_mul, pk_div, pk_rem, nI_clamp, q_in, zl0, zl1, zl2, zl3, zl4, zl5, zl6, zl7, zl8, zl9, zl10, zl11, zl12, zl13, zl14, zl15, zl16, zl17, zl18, zl19, zl20, zl21, zl22, zl23, zl24, zl25, zl26, zl27, zl28, zl29, zl30, zl31, zl32, zl36, zl37, zl38, zl40, zl42, zl43, zl44, zl48, zl53, zl54, zl57, zl59, zl60, zl61, zl63, zl64, zl70, zl71, zl72, zl77, zl78, zl90, zl97, zl98, zl99, zl100, zl101, zl102, zl106, zl111, zl122, zl127, zl128, zl150, zl181, zl256, zl362, zl9999, zl999999, zl1000000, r0]
      refine ⟨fun _ => ?_, fun c => absurd c (by omega)⟩
      rw [← (by omega : g = a 0)] at hq
      exact hq
    | succ d ih =>
      intro g hg
      refine i_X8_waitingBehind_4 _ _ _ _ _ _ ?_
      unfold B_X8_waitingBehind_4
      have := cnt_le (a := a) (s := a (40 + k)) g
      have e := ih (g + 1) (by omega)
      rw [show cnt a (a (40 + k)) (g + 1) = cnt a (a (40 + k)) g + (if a (6 + g) = a (40 + k) then 1 else 0) from rfl] at e
      simp (disch := first | omega | exact hs _) only [q_m1, q_m1n, q_m1a, q_eq, q_le, q_lt, nI_add, pk_sub, pk_mul, pk_div, pk_rem, nI_clamp, q_in, zl0, zl1, zl2, zl3, zl4, zl5, zl6, zl7, zl8, zl9, zl10, zl11, zl12, zl13, zl14, zl15, zl16, zl17, zl18, zl19, zl20, zl21, zl22, zl23, zl24, zl25, zl26, zl27, zl28, zl29, zl30, zl31, zl32, zl36, zl37, zl38, zl40, zl42, zl43, zl44, zl48, zl53, zl54, zl57, zl59, zl60, zl61, zl63, zl64, zl70, zl71, zl72, zl77, zl78, zl90, zl97, zl98, zl99, zl100, zl101, zl102, zl106, zl111, zl122, zl127, zl128, zl150, zl181, zl256, zl362, zl9999, zl999999, zl1000000, r0, rs, rb]
      refine ⟨fun c => absurd c (by omega), fun _ => ⟨by omega, by omega, fun c => ?_, fun c => ?_⟩⟩
      · rw [if_neg c] at e
        exact e
      · rw [if_pos c] at e
        exact e
  exact loop (a 0) 0 (by omega)
set_option maxHeartbeats 4000000 in
set_option maxRecDepth 100000 in
theorem s_over (H : StR σ h a) (hs : Sm a) (h8 : a 0 ≤ 8) {Q : Int32 → St → Prop} (hq : Q (nI (cnt a 23 (a 0))) σ) : V_X8_over h σ Q := by
  obtain ⟨r0, r1, r14, r15, rw, rk, rm, rs, rg, rb, rh⟩ := H
  unfold V_X8_over B_X8_over_e
  have loop : ∀ d g, g + d = a 0 → R_X8_over h Q 4 [nI (cnt a 23 g), nI g] [] σ := by
    intro d
    induction d with
    | zero =>
      intro g hg
      refine i_X8_over_4 _ _ _ _ _ ?_
      unfold B_X8_over_4
      simp (disch := first | omega | exact hs _) only [q_m1, q_m1n, q_m1a, q_eq, q_le, q_lt, nI_add, pk_sub, pk_mul, pk_div, pk_rem, nI_clamp, q_in, zl0, zl1, zl2, zl3, zl4, zl5, zl6, zl7, zl8, zl9, zl10, zl11, zl12, zl13, zl14, zl15, zl16, zl17, zl18, zl19, zl20, zl21, zl22, zl23, zl24, zl25, zl26, zl27, zl28, zl29, zl30, zl31, zl32, zl36, zl37, zl38, zl40, zl42, zl43, zl44, zl48, zl53, zl54, zl57, zl59, zl60, zl61, zl63, zl64, zl70, zl71, zl72, zl77, zl78, zl90, zl97, zl98, zl99, zl100, zl101, zl102, zl106, zl111, zl122, zl127, zl128, zl150, zl181, zl256, zl362, zl9999, zl999999, zl1000000, r0]
      refine ⟨fun _ => ?_, fun c => absurd c (by omega)⟩
      rw [← (by omega : g = a 0)] at hq
      exact hq
    | succ d ih =>
      intro g hg
      refine i_X8_over_4 _ _ _ _ _ ?_
      unfold B_X8_over_4
      have := cnt_le (a := a) (s := 23) g
      have e := ih (g + 1) (by omega)
      rw [show cnt a 23 (g + 1) = cnt a 23 g + (if a (6 + g) = 23 then 1 else 0) from rfl] at e
      simp (disch := first | omega | exact hs _) only [q_m1, q_m1n, q_m1a, q_eq, q_le, q_lt, nI_add, pk_sub, pk_mul, pk_div, pk_rem, nI_clamp, q_in, zl0, zl1, zl2, zl3, zl4, zl5, zl6, zl7, zl8, zl9, zl10, zl11, zl12, zl13, zl14, zl15, zl16, zl17, zl18, zl19, zl20, zl21, zl22, zl23, zl24, zl25, zl26, zl27, zl28, zl29, zl30, zl31, zl32, zl36, zl37, zl38, zl40, zl42, zl43, zl44, zl48, zl53, zl54, zl57, zl59, zl60, zl61, zl63, zl64, zl70, zl71, zl72, zl77, zl78, zl90, zl97, zl98, zl99, zl100, zl101, zl102, zl106, zl111, zl122, zl127, zl128, zl150, zl181, zl256, zl362, zl9999, zl999999, zl1000000, r0, rs]
      refine ⟨fun c => absurd c (by omega), fun _ => ⟨by omega, fun c => ?_, fun c => ?_⟩⟩
      · rw [if_neg c] at e
        exact e
      · rw [if_pos c] at e
        exact e
  exact loop (a 0) 0 (by omega)
set_option maxHeartbeats 4000000 in
set_option maxRecDepth 100000 in
theorem s_goesNow (H : StR σ h a) (hs : Sm a) (h8 : a 0 ≤ 8) {g : Nat} (hg : g < a 0) (hk : a (22 + g) ≤ 5) (hw : ∀ i, i < 6 → a (16 + i) ≤ 4) {Q : Int32 → St → Prop} (hq : Q (nI (gon a g)) σ) : V_X8_goesNow h (nI g) σ Q := by
  obtain ⟨r0, r1, r14, r15, rw, rk, rm, rs, rg, rb, rh⟩ := H
  unfold V_X8_goesNow B_X8_goesNow_e
  rw [r15]
  have h6 : a 15 % 6 < 6 := Nat.mod_lt _ (by omega)
  have e6 : nI (a 15) - nI (a 15) / 6 * 6 = nI (a 15 % 6) := pk_rem (d := 6) (hs 15) (by omega) (by omega)
  rw [e6]
  simp (disch := first | omega | exact hs _) only [q_m1, q_m1n, q_m1a, q_eq, q_le, q_lt, nI_add, pk_sub, pk_mul, pk_div, pk_rem, nI_clamp, q_in, zl0, zl1, zl2, zl3, zl4, zl5, zl6, zl7, zl8, zl9, zl10, zl11, zl12, zl13, zl14, zl15, zl16, zl17, zl18, zl19, zl20, zl21, zl22, zl23, zl24, zl25, zl26, zl27, zl28, zl29, zl30, zl31, zl32, zl36, zl37, zl38, zl40, zl42, zl43, zl44, zl48, zl53, zl54, zl57, zl59, zl60, zl61, zl63, zl64, zl70, zl71, zl72, zl77, zl78, zl90, zl97, zl98, zl99, zl100, zl101, zl102, zl106, zl111, zl122, zl127, zl128, zl150, zl181, zl256, zl362, zl9999, zl999999, zl1000000, rk, rw]
  exact ⟨by omega, by omega, v_spikesGone hk (hs 15) (hw _ h6) hq⟩
set_option maxHeartbeats 4000000 in
set_option maxRecDepth 100000 in
theorem s_letsNow (H : StR σ h a) (hB : Bd a) {k : Nat} (hk : k < a 1) {Q : Int32 → St → Prop} (hq : Q (nI (if cnt a (a (40 + k)) (a 0) = 0 then 0 else lA (a (37 + k)) (a 15) (cnt a (a (40 + k)) (a 0)))) σ) : V_X8_letsNow h (nI k) σ Q := by
  have hs : Sm a := hB.2.2.2.2.2.2.2.2
  have h0 := hB.1
  have h1 := hB.2.1
  have hc := cnt_le (a := a) (s := a (40 + k)) (a 0)
  unfold V_X8_letsNow B_X8_letsNow_e
  refine s_waitingBehind H hs h0 h1 hk ?_
  obtain ⟨r0, r1, r14, r15, rw, rk, rm, rs, rg, rb, rh⟩ := H
  simp (disch := first | omega | exact hs _) only [q_m1, q_m1n, q_m1a, q_eq, q_le, q_lt, nI_add, pk_sub, pk_mul, pk_div, pk_rem, nI_clamp, q_in, zl0, zl1, zl2, zl3, zl4, zl5, zl6, zl7, zl8, zl9, zl10, zl11, zl12, zl13, zl14, zl15, zl16, zl17, zl18, zl19, zl20, zl21, zl22, zl23, zl24, zl25, zl26, zl27, zl28, zl29, zl30, zl31, zl32, zl36, zl37, zl38, zl40, zl42, zl43, zl44, zl48, zl53, zl54, zl57, zl59, zl60, zl61, zl63, zl64, zl70, zl71, zl72, zl77, zl78, zl90, zl97, zl98, zl99, zl100, zl101, zl102, zl106, zl111, zl122, zl127, zl128, zl150, zl181, zl256, zl362, zl9999, zl999999, zl1000000, rg, r15]
  refine ⟨fun q => ⟨by omega, v_letOver (hB.2.2.2.2.2.2.1 k hk).1 (hs 15) (by omega) ?_⟩, fun q => ?_⟩
  · rw [if_neg q] at hq; exact hq
  · rw [if_pos q] at hq; exact hq
theorem StR.spike (H : StR σ h a) {g v : Nat} (hg : g < 8) : StR (us σ (h + 4) (upd (σ (h + 4)) g (nI v))) h (upN a (6 + g) v) := by
  obtain ⟨r0, r1, r14, r15, rw, rk, rm, rs, rg, rb, rh⟩ := H
  have eb : ∀ s, bh (upN a (6 + g) v) s = bh a s := fun s => by
    unfold bh
    rw [upN_n (j := 1) (by omega), upN_n (j := 40) (by omega), upN_n (j := 41) (by omega), upN_n (j := 42) (by omega)]
  unfold StR
  rw [us_ne (j := h) (by omega), us_ne (j := h + 1) (by omega), us_ne (j := h + 2) (by omega), us_ne (j := h + 3) (by omega), us_same, us_ne (j := h + 5) (by omega), us_ne (j := h + 6) (by omega), us_ne (j := h + 7) (by omega)]
  rw [upN_n (j := 0) (by omega), upN_n (j := 1) (by omega), upN_n (j := 14) (by omega), upN_n (j := 15) (by omega)]
  refine ⟨r0, r1, r14, r15, fun i hi => by rw [upN_n (by omega)]; exact rw i hi, fun j hj => by rw [upN_n (by omega)]; exact rk j hj, fun j hj h7 => by rw [upN_n (by omega)]; exact rm j hj h7, fun j hj => ?_, fun k hk => by rw [upN_n (by omega)]; exact rg k hk, fun k hk => by rw [upN_n (by omega)]; exact rb k hk, fun s hs => by rw [eb]; exact rh s hs⟩
  unfold upd
  by_cases e : j = g
  · subst e
    rw [if_pos rfl, upN_s]
  · rw [if_neg e, upN_n (by omega)]
    exact rs j hj
theorem upN_upN {b : Nat → Nat} {i v w : Nat} : upN (upN b i v) i w = upN b i w := by
  funext j
  unfold upN
  split <;> rfl
theorem upN_self {b : Nat → Nat} {i : Nat} : upN b i (b i) = b := by
  funext j
  unfold upN
  split
  · rename_i e; rw [e]
  · rfl
set_option maxHeartbeats 4000000 in
set_option maxRecDepth 100000 in
theorem s_walk (H : StR σ h a) (hs : Sm a) (h8 : a 0 ≤ 8) (h23 : a 1 ≤ 3) {g m : Nat} (hg : g < a 0) (hsp : a (6 + g) ≤ 23) (hm : m ≤ 4) {Q : St → Prop} (hq : ∀ σ', StR σ' h (upN a (6 + g) (wk a m (a (6 + g)))) → (∀ q, q ≠ h + 4 → σ' q = σ q) → Q σ') : V_X8_walk h (nI g) (nI m) σ Q := by
  unfold V_X8_walk B_X8_walk_e
  have loop : ∀ d i s (σ1 : St), i + d = m → s ≤ 23 → wk a m (a (6 + g)) = wk a d s → StR σ1 h (upN a (6 + g) s) → (∀ q, q ≠ h + 4 → σ1 q = σ q) → R_X8_walk h (nI g) (nI m) Q 2 [nI i] [] σ1 := by
    intro d
    induction d with
    | zero =>
      intro i s σ1 hi hsl hw H1 hf
      refine i_X8_walk_2 _ _ _ _ _ _ ?_
      unfold B_X8_walk_2
      rw [(by omega : i = m)]
      refine ⟨fun _ => hq σ1 (by rw [hw]; exact H1) hf, fun c => absurd (by rw [q_le (by omega) (by omega)]; omega) c⟩
    | succ d ih =>
      intro i s σ1 hi hsl hw H1 hf
      refine i_X8_walk_2 _ _ _ _ _ _ ?_
      unfold B_X8_walk_2
      have ebs : ∀ t, bh (upN a (6 + g) s) t = bh a t := fun t => by
        unfold bh
        rw [upN_n (j := 1) (by omega), upN_n (j := 40) (by omega), upN_n (j := 41) (by omega), upN_n (j := 42) (by omega)]
      have hs1 : Sm (upN a (6 + g) s) := fun j => by
        unfold upN
        split
        · omega
        · exact hs j
      have H1' := H1
      obtain ⟨r0, r1, r14, r15, rw, rk, rm, rs, rg, rb, rh⟩ := H1
      have rsg : σ1 (h + 4) g = nI s := by rw [rs g (by rw [upN_n (by omega)]; exact hg), upN_s]
      rw [show wk a (d + 1) s = (if s < 23 ∧ bh a s = 0 then wk a d (s + 1) else s) from rfl] at hw
      simp (disch := first | omega | exact hs _) only [q_m1, q_m1n, q_m1a, q_eq, q_le, q_lt, nI_add, pk_sub, pk_mul, pk_div, pk_rem, nI_clamp, q_in, zl0, zl1, zl2, zl3, zl4, zl5, zl6, zl7, zl8, zl9, zl10, zl11, zl12, zl13, zl14, zl15, zl16, zl17, zl18, zl19, zl20, zl21, zl22, zl23, zl24, zl25, zl26, zl27, zl28, zl29, zl30, zl31, zl32, zl36, zl37, zl38, zl40, zl42, zl43, zl44, zl48, zl53, zl54, zl57, zl59, zl60, zl61, zl63, zl64, zl70, zl71, zl72, zl77, zl78, zl90, zl97, zl98, zl99, zl100, zl101, zl102, zl106, zl111, zl122, zl127, zl128, zl150, zl181, zl256, zl362, zl9999, zl999999, zl1000000, rsg]
      refine ⟨fun c => absurd c (by omega), fun _ => ⟨by omega, fun c => ?_, fun c => ?_⟩⟩
      · rw [if_neg (by omega)] at hw
        exact hq σ1 (by rw [hw]; exact H1') hf
      · refine s_waits H1' hs1 (by rw [upN_n (by omega)]; exact hg) (by rw [upN_n (by omega)]; exact h8) (by rw [upN_s]; omega) (fun b => ?_) (fun b => ?_)
        · rw [upN_s, ebs] at b
          rw [if_pos ⟨by omega, b⟩] at hw
          refine ⟨fun c => absurd rfl c, fun _ => ⟨by omega, by omega, fun s2 es2 => ?_⟩⟩
          subst es2
          have H2 := H1'.spike (g := g) (v := s + 1) (by omega)
          rw [upN_upN] at H2
          simp (disch := first | omega | exact hs _) only [q_m1, q_m1n, q_m1a, q_eq, q_le, q_lt, nI_add, pk_sub, pk_mul, pk_div, pk_rem, nI_clamp, q_in, zl0, zl1, zl2, zl3, zl4, zl5, zl6, zl7, zl8, zl9, zl10, zl11, zl12, zl13, zl14, zl15, zl16, zl17, zl18, zl19, zl20, zl21, zl22, zl23, zl24, zl25, zl26, zl27, zl28, zl29, zl30, zl31, zl32, zl36, zl37, zl38, zl40, zl42, zl43, zl44, zl48, zl53, zl54, zl57, zl59, zl60, zl61, zl63, zl64, zl70, zl71, zl72, zl77, zl78, zl90, zl97, zl98, zl99, zl100, zl101, zl102, zl106, zl111, zl122, zl127, zl128, zl150, zl181, zl256, zl362, zl9999, zl999999, zl1000000, rsg]
          exact ih (i + 1) (s + 1) _ (by omega) (by omega) hw H2 (fun q hqq => by rw [us_ne hqq]; exact hf q hqq)
        · rw [upN_s, ebs] at b
          rw [if_neg (fun z => b z.2)] at hw
          exact ⟨fun _ => hq σ1 (by rw [hw]; exact H1') hf, fun c => absurd c (by decide)⟩
  exact loop m 0 _ σ (by omega) hsp rfl (by rw [upN_self]; exact H) (fun _ _ => rfl)
end SC
