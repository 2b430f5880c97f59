/-! numbers: from Int32 to Nat -/
theorem zl0 : (0 : Int32) = nI 0 := rfl
theorem zl1 : (1 : Int32) = nI 1 := rfl
theorem zl2 : (2 : Int32) = nI 2 := rfl
theorem zl3 : (3 : Int32) = nI 3 := rfl
theorem zl4 : (4 : Int32) = nI 4 := rfl
theorem zl5 : (5 : Int32) = nI 5 := rfl
theorem zl6 : (6 : Int32) = nI 6 := rfl
theorem zl7 : (7 : Int32) = nI 7 := rfl
theorem zl8 : (8 : Int32) = nI 8 := rfl
theorem zl9 : (9 : Int32) = nI 9 := rfl
theorem zl10 : (10 : Int32) = nI 10 := rfl
theorem zl11 : (11 : Int32) = nI 11 := rfl
theorem zl12 : (12 : Int32) = nI 12 := rfl
theorem zl13 : (13 : Int32) = nI 13 := rfl
theorem zl14 : (14 : Int32) = nI 14 := rfl
theorem zl15 : (15 : Int32) = nI 15 := rfl
theorem zl16 : (16 : Int32) = nI 16 := rfl
theorem zl17 : (17 : Int32) = nI 17 := rfl
theorem zl18 : (18 : Int32) = nI 18 := rfl
theorem zl19 : (19 : Int32) = nI 19 := rfl
theorem zl20 : (20 : Int32) = nI 20 := rfl
theorem zl21 : (21 : Int32) = nI 21 := rfl
theorem zl22 : (22 : Int32) = nI 22 := rfl
theorem zl23 : (23 : Int32) = nI 23 := rfl
theorem zl24 : (24 : Int32) = nI 24 := rfl
theorem zl25 : (25 : Int32) = nI 25 := rfl
theorem zl26 : (26 : Int32) = nI 26 := rfl
theorem zl27 : (27 : Int32) = nI 27 := rfl
theorem zl28 : (28 : Int32) = nI 28 := rfl
theorem zl29 : (29 : Int32) = nI 29 := rfl
theorem zl30 : (30 : Int32) = nI 30 := rfl
theorem zl31 : (31 : Int32) = nI 31 := rfl
theorem zl32 : (32 : Int32) = nI 32 := rfl
theorem zl36 : (36 : Int32) = nI 36 := rfl
theorem zl37 : (37 : Int32) = nI 37 := rfl
theorem zl38 : (38 : Int32) = nI 38 := rfl
theorem zl40 : (40 : Int32) = nI 40 := rfl
theorem zl42 : (42 : Int32) = nI 42 := rfl
theorem zl43 : (43 : Int32) = nI 43 := rfl
theorem zl44 : (44 : Int32) = nI 44 := rfl
theorem zl48 : (48 : Int32) = nI 48 := rfl
theorem zl53 : (53 : Int32) = nI 53 := rfl
theorem zl54 : (54 : Int32) = nI 54 := rfl
theorem zl57 : (57 : Int32) = nI 57 := rfl
theorem zl59 : (59 : Int32) = nI 59 := rfl
theorem zl60 : (60 : Int32) = nI 60 := rfl
theorem zl61 : (61 : Int32) = nI 61 := rfl
theorem zl63 : (63 : Int32) = nI 63 := rfl
theorem zl64 : (64 : Int32) = nI 64 := rfl
theorem zl70 : (70 : Int32) = nI 70 := rfl
theorem zl71 : (71 : Int32) = nI 71 := rfl
theorem zl72 : (72 : Int32) = nI 72 := rfl
theorem zl77 : (77 : Int32) = nI 77 := rfl
theorem zl78 : (78 : Int32) = nI 78 := rfl
theorem zl90 : (90 : Int32) = nI 90 := rfl
theorem zl97 : (97 : Int32) = nI 97 := rfl
theorem zl98 : (98 : Int32) = nI 98 := rfl
theorem zl99 : (99 : Int32) = nI 99 := rfl
theorem zl100 : (100 : Int32) = nI 100 := rfl
theorem zl101 : (101 : Int32) = nI 101 := rfl
theorem zl102 : (102 : Int32) = nI 102 := rfl
theorem zl106 : (106 : Int32) = nI 106 := rfl
theorem zl111 : (111 : Int32) = nI 111 := rfl
theorem zl122 : (122 : Int32) = nI 122 := rfl
theorem zl127 : (127 : Int32) = nI 127 := rfl
theorem zl128 : (128 : Int32) = nI 128 := rfl
theorem zl150 : (150 : Int32) = nI 150 := rfl
theorem zl181 : (181 : Int32) = nI 181 := rfl
theorem zl256 : (256 : Int32) = nI 256 := rfl
theorem zl362 : (362 : Int32) = nI 362 := rfl
theorem zl9999 : (9999 : Int32) = nI 9999 := rfl
theorem zl999999 : (999999 : Int32) = nI 999999 := rfl
theorem zl1000000 : (1000000 : Int32) = nI 1000000 := rfl
theorem zL0 : (0 : Int64) = lN 0 := rfl
theorem zL1 : (1 : Int64) = lN 1 := rfl
theorem zL2 : (2 : Int64) = lN 2 := rfl
theorem zL3 : (3 : Int64) = lN 3 := rfl
theorem zL4 : (4 : Int64) = lN 4 := rfl
theorem zL5 : (5 : Int64) = lN 5 := rfl
theorem zL6 : (6 : Int64) = lN 6 := rfl
theorem zL7 : (7 : Int64) = lN 7 := rfl
theorem zL8 : (8 : Int64) = lN 8 := rfl
theorem zL9 : (9 : Int64) = lN 9 := rfl
theorem zL10 : (10 : Int64) = lN 10 := rfl
theorem zL11 : (11 : Int64) = lN 11 := rfl
theorem zL12 : (12 : Int64) = lN 12 := rfl
theorem zL13 : (13 : Int64) = lN 13 := rfl
theorem zL14 : (14 : Int64) = lN 14 := rfl
theorem zL15 : (15 : Int64) = lN 15 := rfl
theorem zL16 : (16 : Int64) = lN 16 := rfl
theorem zL17 : (17 : Int64) = lN 17 := rfl
theorem zL18 : (18 : Int64) = lN 18 := rfl
theorem zL19 : (19 : Int64) = lN 19 := rfl
theorem zL20 : (20 : Int64) = lN 20 := rfl
theorem zL21 : (21 : Int64) = lN 21 := rfl
theorem zL22 : (22 : Int64) = lN 22 := rfl
theorem zL23 : (23 : Int64) = lN 23 := rfl
theorem zL24 : (24 : Int64) = lN 24 := rfl
theorem zL25 : (25 : Int64) = lN 25 := rfl
theorem zL26 : (26 : Int64) = lN 26 := rfl
theorem zL27 : (27 : Int64) = lN 27 := rfl
theorem zL28 : (28 : Int64) = lN 28 := rfl
theorem zL29 : (29 : Int64) = lN 29 := rfl
theorem zL30 : (30 : Int64) = lN 30 := rfl
theorem zL31 : (31 : Int64) = lN 31 := rfl
theorem zL32 : (32 : Int64) = lN 32 := rfl
theorem zL36 : (36 : Int64) = lN 36 := rfl
theorem zL37 : (37 : Int64) = lN 37 := rfl
theorem zL38 : (38 : Int64) = lN 38 := rfl
theorem zL40 : (40 : Int64) = lN 40 := rfl
theorem zL42 : (42 : Int64) = lN 42 := rfl
theorem zL43 : (43 : Int64) = lN 43 := rfl
theorem zL44 : (44 : Int64) = lN 44 := rfl
theorem zL48 : (48 : Int64) = lN 48 := rfl
theorem zL53 : (53 : Int64) = lN 53 := rfl
theorem zL54 : (54 : Int64) = lN 54 := rfl
theorem zL57 : (57 : Int64) = lN 57 := rfl
theorem zL59 : (59 : Int64) = lN 59 := rfl
theorem zL60 : (60 : Int64) = lN 60 := rfl
theorem zL61 : (61 : Int64) = lN 61 := rfl
theorem zL63 : (63 : Int64) = lN 63 := rfl
theorem zL64 : (64 : Int64) = lN 64 := rfl
theorem zL70 : (70 : Int64) = lN 70 := rfl
theorem zL71 : (71 : Int64) = lN 71 := rfl
theorem zL72 : (72 : Int64) = lN 72 := rfl
theorem zL77 : (77 : Int64) = lN 77 := rfl
theorem zL78 : (78 : Int64) = lN 78 := rfl
theorem zL90 : (90 : Int64) = lN 90 := rfl
theorem zL97 : (97 : Int64) = lN 97 := rfl
theorem zL98 : (98 : Int64) = lN 98 := rfl
theorem zL99 : (99 : Int64) = lN 99 := rfl
theorem zL100 : (100 : Int64) = lN 100 := rfl
theorem zL101 : (101 : Int64) = lN 101 := rfl
theorem zL102 : (102 : Int64) = lN 102 := rfl
theorem zL106 : (106 : Int64) = lN 106 := rfl
theorem zL111 : (111 : Int64) = lN 111 := rfl
theorem zL122 : (122 : Int64) = lN 122 := rfl
theorem zL127 : (127 : Int64) = lN 127 := rfl
theorem zL128 : (128 : Int64) = lN 128 := rfl
theorem zL150 : (150 : Int64) = lN 150 := rfl
theorem zL181 : (181 : Int64) = lN 181 := rfl
theorem zL256 : (256 : Int64) = lN 256 := rfl
theorem zL362 : (362 : Int64) = lN 362 := rfl
theorem zL9999 : (9999 : Int64) = lN 9999 := rfl
theorem zL999999 : (999999 : Int64) = lN 999999 := rfl
theorem zL1000000 : (1000000 : Int64) = lN 1000000 := rfl

theorem q_eq {a b : Nat} (ha : a < 2147483648) (hb : b < 2147483648) : (nI a = nI b) = (a = b) := propext (nI_eq ha hb)
theorem q_le {a b : Nat} (ha : a < 2147483648) (hb : b < 2147483648) : (nI a ≤ nI b) = (a ≤ b) := propext (nI_leI ha hb)
theorem q_lt {a b : Nat} (ha : a < 2147483648) (hb : b < 2147483648) : (nI a < nI b) = (a < b) := propext (nI_ltI ha hb)
theorem q_in {a n : Nat} (ha : a < 2147483648) (hn : n < 2147483648) : vp_in (nI a) n = (a < n) := propext ⟨fun h => by
  have h1 := (vp_in_iff.mp h).2
  rw [nI_toInt ha] at h1
  omega, fun h => vp_in_nI h hn⟩
theorem q_m1 {b : Nat} (hb : b < 2147483648) : (nI b - nI 1 = -nI 1) = (b = 0) := propext ⟨fun h => by
  have h2 : nI b - nI 1 + nI 1 = -nI 1 + nI 1 := by rw [h]
  rw [Int32.sub_add_cancel] at h2
  exact (nI_eq hb (by decide)).mp (h2.trans (by decide)), fun h => by subst h; decide⟩
theorem q_m1n {b : Nat} (hb : b < 2147483648) : (nI b = -nI 1) = False := propext ⟨fun h => by
  have := congrArg Int32.toInt h
  rw [nI_toInt hb] at this
  have e : (-nI 1).toInt = -1 := by decide
  omega, False.elim⟩
theorem q_m1a {n : Nat} (h : 1 ≤ n) : nI n + -nI 1 = nI (n - 1) := by
  have e : n = (n - 1) + 1 := by omega
  rw [e]
  exact pk_m1 (n - 1)
/-- how far a glove of a kind goes -/
def gA (k h w : Nat) : Nat :=
  if k = 1 then (if w = 0 then 2 else 1) else if k = 2 then (if 3 ≤ w then 0 else 1)
  else if k = 3 then (if h % 2 = 0 then 2 * (if w = 0 then 2 else 1) else (if w = 0 then 2 else 1))
  else if k = 4 then (if h % 5 = 0 then 4 else 1)
  else if k = 5 then (if h % 2 = 0 then 2 * (if w = 0 then 2 else 1) else (if w = 0 then 2 else 1)) - w else 1
/-- how many a crossing of a kind lets over -/
def lA (k h n : Nat) : Nat :=
  if k = 1 then (if h % 2 = 0 then 2 else 0) - 1 else if k = 2 then (if h % 2 = 0 then 2 else 0) + n / 2
  else if k = 3 then ((if h % 2 = 0 then 2 else 0) - 1) + (if 4 ≤ n then 1 else 0)
  else if k = 4 then (if 6 ≤ h % 8 then n else (if h % 2 = 0 then 2 else 0))
  else if k = 5 then (if h % 3 = 0 then 0 else (if h % 2 = 0 then 2 else 0) + n / 2) else (if h % 2 = 0 then 2 else 0)
theorem gA_le {k h w : Nat} : gA k h w ≤ 4 := by
  unfold gA
  repeat' split
  all_goals omega
theorem lA_le {k h n : Nat} (hn : n ≤ 8) : lA k h n ≤ 8 := by
  unfold lA
  repeat' split
  all_goals omega
/-- within, by whole numbers -/
def okI (x : Int32) (lo hi : Int) : Prop := lo ≤ x.toInt ∧ x.toInt ≤ hi
theorem okI_nI {j n : Nat} (hj : j < 2147483648) : okI (nI j) 0 n ↔ j ≤ n := by
  unfold okI
  rw [nI_toInt hj]
  omega
theorem okI_ex {x : Int32} {a b : Nat} (h : okI x a b) : ∃ j : Nat, a ≤ j ∧ j ≤ b ∧ x = nI j := by
  refine ⟨x.toInt.toNat, ?_, ?_, ?_⟩
  · have := h.1; omega
  · have := h.2; omega
  · apply Int32.toInt_inj.mp
    have h1 := h.1
    have h2 : x.toInt < 2147483648 := Int32.toInt_lt x
    rw [nI_toInt (by omega)]
    omega
theorem v_within {x lo hi : Int32} {σ : St} {Q : Int32 → St → Prop} (h1 : okI x lo.toInt hi.toInt → Q 1 σ) (h0 : ¬ okI x lo.toInt hi.toInt → Q 0 σ) : V_X10_within x lo hi σ Q := by
  unfold V_X10_within B_X10_within_e
  refine ⟨fun c => h0 (fun h => ?_), fun c => ⟨fun d => h0 (fun h => ?_), fun d => h1 ⟨?_, ?_⟩⟩⟩
  · have := Int32.lt_iff_toInt_lt.mp c
    have := h.1
    omega
  · have := Int32.lt_iff_toInt_lt.mp d
    have := h.2
    omega
  · exact Int32.le_iff_toInt_le.mp (Int32.not_lt.mp c)
  · exact Int32.le_iff_toInt_le.mp (Int32.not_lt.mp d)
theorem lg_lt0 {x y : Int64} : lg_cmp x y < 0 ↔ x.toInt < y.toInt := by
  unfold lg_cmp
  by_cases h : x > y
  · rw [if_pos h]
    have := Int64.lt_iff_toInt_lt.mp h
    exact ⟨fun q => absurd q (by decide), fun q => absurd q (by omega)⟩
  · rw [if_neg h]
    have h2 := Int64.le_iff_toInt_le.mp (Int64.not_lt.mp h)
    by_cases e : x = y
    · rw [if_pos e]; subst e
      exact ⟨fun q => absurd q (by decide), fun q => absurd q (by omega)⟩
    · rw [if_neg e]
      refine ⟨fun _ => ?_, fun _ => by decide⟩
      have : x.toInt ≠ y.toInt := fun q => e (Int64.toInt_inj.mp q)
      omega
theorem lg_gt0 {x y : Int64} : 0 < lg_cmp x y ↔ y.toInt < x.toInt := by
  unfold lg_cmp
  by_cases h : x > y
  · rw [if_pos h]
    exact ⟨fun _ => Int64.lt_iff_toInt_lt.mp h, fun _ => by decide⟩
  · rw [if_neg h]
    have h2 := Int64.le_iff_toInt_le.mp (Int64.not_lt.mp h)
    by_cases e : x = y
    · rw [if_pos e]
      exact ⟨fun q => absurd q (by decide), fun q => absurd q (by omega)⟩
    · rw [if_neg e]
      exact ⟨fun q => absurd q (by decide), fun q => absurd q (by omega)⟩
theorem v_within1 {x lo hi : Int32} {σ : St} {Q : Int32 → St → Prop} (h : okI x lo.toInt hi.toInt) (q : Q 1 σ) : V_X10_within x lo hi σ Q := v_within (fun _ => q) (fun n => absurd h n)
theorem v_within0 {x lo hi : Int32} {σ : St} {Q : Int32 → St → Prop} (h : ¬ okI x lo.toInt hi.toInt) (q : Q 0 σ) : V_X10_within x lo hi σ Q := v_within (fun n => absurd n h) (fun _ => q)
set_option maxHeartbeats 4000000 in
set_option maxRecDepth 100000 in
theorem v_spikesGone {k h w : Nat} (hk : k ≤ 5) (hh : h < 2147483648) (hw : w ≤ 4) {σ : St} {Q : Int32 → St → Prop} (hq : Q (nI (gA k h w)) σ) : V_X1_spikesGone (nI k) (nI h) (nI w) σ Q := by
  unfold V_X1_spikesGone B_X1_spikesGone_e
  have key : ∀ L : Nat, L = (if w = 0 then 2 else 1) → R_X1_spikesGone (nI k) (nI h) (nI w) Q 13 [nI 1, nI L] [] σ := by
    intro L eL
    have hL : L ≤ 2 := by split at eL <;> omega
    refine i_X1_spikesGone_13 _ _ _ _ _ _ _ ?_
    unfold B_X1_spikesGone_13
    have key2 : ∀ M : Nat, M = (if h % 2 = 0 then 2 * L else L) → R_X1_spikesGone (nI k) (nI h) (nI w) Q 30 [nI 1, nI L, nI M] [] σ := by
      intro M eM
      have hM : M ≤ 4 := by split at eM <;> omega
      refine i_X1_spikesGone_30 _ _ _ _ _ _ _ _ ?_
      unfold B_X1_spikesGone_30
      have fin : ∀ n, gA k h w = n → Q (nI n) σ := fun n e => e ▸ hq
      simp (disch := omega) only [q_m1, q_m1n, q_m1a, q_eq, q_le, q_lt, nI_add, pk_sub, pk_mul, pk_div, pk_rem, nI_clamp, q_in, zl0, zl1, zl2, zl3, zl4, zl5, zl6, zl7, zl8, zl9, zl10, zl11, zl12, zl13, zl14, zl15, zl16, zl17, zl18, zl19, zl20, zl21, zl22, zl23, zl24, zl25, zl26, zl27, zl28, zl29, zl30, zl31, zl32, zl36, zl37, zl38, zl40, zl42, zl43, zl44, zl48, zl53, zl54, zl57, zl59, zl60, zl61, zl63, zl64, zl70, zl71, zl72, zl77, zl78, zl90, zl97, zl98, zl99, zl100, zl101, zl102, zl106, zl111, zl122, zl127, zl128, zl150, zl181, zl256, zl362, zl9999, zl999999, zl1000000]
      refine ⟨fun e => fin _ ?_, fun e1 => ⟨fun e => ⟨fun c => fin _ ?_, fun c => fin _ ?_⟩, fun e2 => ⟨fun e => fin _ ?_, fun e3 => ⟨fun e => ⟨fun c => fin _ ?_, fun c => fin _ ?_⟩, fun e4 => ⟨fun e => ⟨fun c => fin _ ?_, fun c => (pk_sub (a := M) (b := w) (by omega)) ▸ fin _ ?_⟩, fun e5 => fin _ ?_⟩⟩⟩⟩⟩
      all_goals (unfold gA; by_cases r : h % 2 = 0 <;> by_cases w0 : w = 0 <;> simp_all <;> omega)
    simp (disch := omega) only [q_m1, q_m1n, q_m1a, q_eq, q_le, q_lt, nI_add, pk_sub, pk_mul, pk_div, pk_rem, nI_clamp, q_in, zl0, zl1, zl2, zl3, zl4, zl5, zl6, zl7, zl8, zl9, zl10, zl11, zl12, zl13, zl14, zl15, zl16, zl17, zl18, zl19, zl20, zl21, zl22, zl23, zl24, zl25, zl26, zl27, zl28, zl29, zl30, zl31, zl32, zl36, zl37, zl38, zl40, zl42, zl43, zl44, zl48, zl53, zl54, zl57, zl59, zl60, zl61, zl63, zl64, zl70, zl71, zl72, zl77, zl78, zl90, zl97, zl98, zl99, zl100, zl101, zl102, zl106, zl111, zl122, zl127, zl128, zl150, zl181, zl256, zl362, zl9999, zl999999, zl1000000]
    exact ⟨fun c => key2 L (by rw [if_neg (by omega)]), fun c => key2 (2 * L) (by rw [if_pos (by omega)])⟩
  simp (disch := omega) only [q_m1, q_m1n, q_m1a, q_eq, q_le, q_lt, nI_add, pk_sub, pk_mul, pk_div, pk_rem, nI_clamp, q_in, zl0, zl1, zl2, zl3, zl4, zl5, zl6, zl7, zl8, zl9, zl10, zl11, zl12, zl13, zl14, zl15, zl16, zl17, zl18, zl19, zl20, zl21, zl22, zl23, zl24, zl25, zl26, zl27, zl28, zl29, zl30, zl31, zl32, zl36, zl37, zl38, zl40, zl42, zl43, zl44, zl48, zl53, zl54, zl57, zl59, zl60, zl61, zl63, zl64, zl70, zl71, zl72, zl77, zl78, zl90, zl97, zl98, zl99, zl100, zl101, zl102, zl106, zl111, zl122, zl127, zl128, zl150, zl181, zl256, zl362, zl9999, zl999999, zl1000000]
  exact ⟨fun c => key 1 (by rw [if_neg c]), fun c => key 2 (by rw [if_pos c])⟩

/-! the street as a row of numbers: gloves 0, crossings 1, seens 2, notes 3, marks 4, undone 5, spikes 6.., shut 14, hour 15, wets 16.., kinds 22.., marks 30.., gates 37.., behind 40.. -/
/-- 1 more than the crossing behind a spike; 0: none -/
def bh (a : Nat → Nat) (s : Nat) : Nat := if 0 < a 1 ∧ a 40 = s then 1 else if 1 < a 1 ∧ a 41 = s then 2 else if 2 < a 1 ∧ a 42 = s then 3 else 0
/-- how many of the first gloves are at a spike -/
def cnt (a : Nat → Nat) (s : Nat) : Nat → Nat
  | 0 => 0
  | n + 1 => cnt a s n + (if a (6 + n) = s then 1 else 0)
/-- how many a crossing lets over in the hour -/
def lets (a : Nat → Nat) (k : Nat) : Nat := if a 1 ≤ k then 0 else if a 14 / 2 ^ k % 2 = 1 then 0 else if cnt a (a (40 + k)) (a 0) = 0 then 0 else lA (a (37 + k)) (a 15) (cnt a (a (40 + k)) (a 0))
def gon (a : Nat → Nat) (g : Nat) : Nat := gA (a (22 + g)) (a 15) (a (16 + a 15 % 6))
def wk (a : Nat → Nat) : Nat → Nat → Nat
  | 0, s => s
  | n + 1, s => if s < 23 ∧ bh a s = 0 then wk a n (s + 1) else s
/-- where a glove is behind the hour -/
def nsp (a : Nat → Nat) (g : Nat) : Nat := if bh a (a (6 + g)) = 0 then wk a (gon a g) (a (6 + g)) else a (6 + g) + (if cnt a (a (6 + g)) g < lets a (bh a (a (6 + g)) - 1) then 1 else 0)
/-- an hour goes by -/
def hr (a : Nat → Nat) : Nat → Nat := fun i => if 6 ≤ i ∧ i < 6 + a 0 then nsp a (i - 6) else if i = 15 then a 15 + 1 else a i
def it : Nat → (Nat → Nat) → Nat → Nat
  | 0, a => a
  | n + 1, a => it n (hr a)

def Bd (a : Nat → Nat) : Prop := a 0 ≤ 8 ∧ a 1 ≤ 3 ∧ a 14 < 8 ∧ a 15 < 1000000 ∧ (∀ i, i < 6 → a (16 + i) ≤ 4) ∧ (∀ g, g < a 0 → a (22 + g) ≤ 5 ∧ a (6 + g) ≤ 23) ∧ (∀ k, k < a 1 → a (37 + k) ≤ 5 ∧ a (40 + k) ≤ 22) ∧ (∀ j k, j < a 1 → k < a 1 → a (40 + j) = a (40 + k) → j = k) ∧ (∀ i, a i < 2147483648)
theorem bh_le {a : Nat → Nat} {s : Nat} (h : Bd a) : bh a s ≤ a 1 := by
  unfold bh
  repeat' split
  all_goals omega
theorem bh_at {a : Nat → Nat} {s : Nat} (h : bh a s ≠ 0) : a (40 + (bh a s - 1)) = s := by
  unfold bh at *
  repeat' split
  all_goals simp_all
theorem bh_of {a : Nat → Nat} {k : Nat} (hB : Bd a) (hk : k < a 1) : bh a (a (40 + k)) = k + 1 := by
  obtain ⟨-, h1, -, -, -, -, -, hd, -⟩ := hB
  have h40 : 0 < a 1 → k < a 1 → a 40 = a (40 + k) → 0 = k := hd 0 k
  have h41 : 1 < a 1 → k < a 1 → a 41 = a (40 + k) → 1 = k := hd 1 k
  have h42 : 2 < a 1 → k < a 1 → a 42 = a (40 + k) → 2 = k := hd 2 k
  unfold bh
  split
  · have := h40 (by omega) hk (by omega)
    omega
  · split
    · have := h41 (by omega) hk (by omega)
      omega
    · split
      · have := h42 (by omega) hk (by omega)
        omega
      · rcases (by omega : k = 0 ∨ k = 1 ∨ k = 2) with rfl | rfl | rfl <;> simp_all
theorem bh_none {a : Nat → Nat} {s : Nat} (h1 : a 1 ≤ 3) (h : ∀ k, k < a 1 → a (40 + k) ≠ s) : bh a s = 0 := by
  unfold bh
  have h0 := h 0
  have h1' := h 1
  have h2 := h 2
  split
  · simp_all
  · split
    · simp_all
    · split
      · simp_all
      · rfl
theorem bh_23 {a : Nat → Nat} (h : Bd a) : bh a 23 = 0 := bh_none h.2.1 (fun k hk e => by
  have := (h.2.2.2.2.2.2.1 k hk).2
  omega)
theorem cnt_le {a : Nat → Nat} {s : Nat} : ∀ n, cnt a s n ≤ n
  | 0 => Nat.le_refl _
  | n + 1 => by
    have := cnt_le (a := a) (s := s) n
    unfold cnt
    split <;> omega
theorem cnt_mono {a : Nat → Nat} {s : Nat} : ∀ (n m : Nat), n ≤ m → cnt a s n ≤ cnt a s m := by
  intro n m h
  induction m with
  | zero => have : n = 0 := by omega
            subst this; exact Nat.le_refl _
  | succ m ih =>
    by_cases e : n = m + 1
    · subst e; exact Nat.le_refl _
    · have := ih (by omega)
      have e2 : cnt a s (m + 1) = cnt a s m + (if a (6 + m) = s then 1 else 0) := rfl
      omega
theorem lets_le {a : Nat → Nat} {k : Nat} (h : Bd a) : lets a k ≤ 8 := by
  unfold lets
  have := cnt_le (a := a) (s := a (40 + k)) (a 0)
  have h0 := h.1
  split
  · omega
  · split
    · omega
    · split
      · omega
      · exact lA_le (by omega)
theorem gon_le {a : Nat → Nat} {g : Nat} : gon a g ≤ 4 := gA_le
theorem wk_le {a : Nat → Nat} : ∀ (n s : Nat), s ≤ 23 → wk a n s ≤ 23
  | 0, s, h => h
  | n + 1, s, h => by
    unfold wk
    split
    · exact wk_le n (s + 1) (by omega)
    · exact h
theorem nsp_le {a : Nat → Nat} {g : Nat} (h : Bd a) (hg : g < a 0) : nsp a g ≤ 23 := by
  have h1 := (h.2.2.2.2.2.1 g hg).2
  unfold nsp
  split
  · exact wk_le _ _ h1
  · rename_i hb
    have e := bh_at hb
    have := bh_le (s := a (6 + g)) h
    have := (h.2.2.2.2.2.2.1 (bh a (a (6 + g)) - 1) (by omega)).2
    split <;> omega
theorem hr_sp {a : Nat → Nat} {g : Nat} (hg : g < a 0) : hr a (6 + g) = nsp a g := by
  unfold hr
  rw [if_pos (by omega)]
  congr 1
  omega
theorem hr_15 {a : Nat → Nat} (h : a 0 ≤ 8) : hr a 15 = a 15 + 1 := by
  unfold hr
  rw [if_neg (by omega), if_pos rfl]
theorem hr_o {a : Nat → Nat} {i : Nat} (h1 : ¬ (6 ≤ i ∧ i < 6 + a 0)) (h2 : i ≠ 15) : hr a i = a i := by
  unfold hr
  rw [if_neg h1, if_neg h2]
theorem hr_lo {a : Nat → Nat} {i : Nat} (h : i < 6) : hr a i = a i := hr_o (by omega) (by omega)
theorem hr_hi {a : Nat → Nat} {i : Nat} (h0 : a 0 ≤ 8) (h : 16 ≤ i) : hr a i = a i := hr_o (by omega) (by omega)
theorem hr_14 {a : Nat → Nat} (h0 : a 0 ≤ 8) : hr a 14 = a 14 := hr_o (by omega) (by omega)
theorem bh_hr {a : Nat → Nat} (h0 : a 0 ≤ 8) (s : Nat) : bh (hr a) s = bh a s := by
  unfold bh
  rw [hr_lo (i := 1) (by omega), hr_hi (i := 40) h0 (by omega), hr_hi (i := 41) h0 (by omega), hr_hi (i := 42) h0 (by omega)]
theorem Bd_hr {a : Nat → Nat} (h : Bd a) (hh : a 15 + 1 < 1000000) : Bd (hr a) := by
  have h' := h
  obtain ⟨h0, h1, h2, h3, h4, h5, h6, h7, h8⟩ := h
  have e0 : hr a 0 = a 0 := hr_lo (by omega)
  have e1 : hr a 1 = a 1 := hr_lo (by omega)
  refine ⟨by omega, by omega, by rw [hr_14 h0]; exact h2, by rw [hr_15 h0]; exact hh, fun i hi => by rw [hr_hi h0 (by omega)]; exact h4 i hi, fun g hg => ?_, fun k hk => ?_, fun j k hj hk => ?_, fun i => ?_⟩
  · rw [e0] at hg
    rw [hr_hi h0 (by omega), hr_sp hg]
    exact ⟨(h5 g hg).1, nsp_le h' hg⟩
  · rw [e1] at hk
    rw [hr_hi h0 (by omega), hr_hi h0 (by omega)]
    exact h6 k hk
  · rw [e1] at hj hk
    rw [hr_hi h0 (by omega), hr_hi h0 (by omega)]
    exact h7 j k hj hk
  · by_cases c : 6 ≤ i ∧ i < 6 + a 0
    · rw [(by omega : i = 6 + (i - 6)), hr_sp (by omega)]
      have := nsp_le h' (g := i - 6) (by omega)
      omega
    · by_cases c2 : i = 15
      · subst c2; rw [hr_15 h0]; omega
      · rw [hr_o c c2]; exact h8 i
theorem it_succ {a : Nat → Nat} : ∀ n, it (n + 1) a = hr (it n a)
  | 0 => rfl
  | n + 1 => by
    show it (n + 1) (hr a) = hr (it n (hr a))
    exact it_succ n
theorem it_add {a : Nat → Nat} : ∀ n m, it (n + m) a = it m (it n a)
  | 0, m => by rw [Nat.zero_add]; rfl
  | n + 1, m => by
    rw [(by omega : n + 1 + m = (n + m) + 1)]
    show it (n + m) (hr a) = it m (it n (hr a))
    exact it_add n m
theorem it_lo {a : Nat → Nat} {i : Nat} (h : i < 6) : ∀ n, it n a i = a i
  | 0 => rfl
  | n + 1 => by rw [it_succ, hr_lo h]; exact it_lo h n
theorem it_hi {a : Nat → Nat} {i : Nat} (h0 : a 0 ≤ 8) (h : 16 ≤ i) : ∀ n, it n a i = a i
  | 0 => rfl
  | n + 1 => by
    rw [it_succ, hr_hi (by rw [it_lo (by omega)]; exact h0) h]
    exact it_hi h0 h n
theorem it_14 {a : Nat → Nat} (h0 : a 0 ≤ 8) : ∀ n, it n a 14 = a 14
  | 0 => rfl
  | n + 1 => by
    rw [it_succ, hr_14 (by rw [it_lo (by omega)]; exact h0)]
    exact it_14 h0 n
theorem it_15 {a : Nat → Nat} (h0 : a 0 ≤ 8) : ∀ n, it n a 15 = a 15 + n
  | 0 => rfl
  | n + 1 => by
    rw [it_succ, hr_15 (by rw [it_lo (by omega)]; exact h0), it_15 h0 n]
    omega
theorem Bd_it {a : Nat → Nat} (h : Bd a) : ∀ n, a 15 + n < 1000000 → Bd (it n a)
  | 0, _ => h
  | n + 1, q => by
    rw [it_succ]
    exact Bd_hr (Bd_it h n (by omega)) (by rw [it_15 h.1]; omega)


set_option maxHeartbeats 4000000 in
set_option maxRecDepth 100000 in
theorem v_letOver {k h n : Nat} (hk : k ≤ 5) (hh : h < 2147483648) (hn : n ≤ 8) {σ : St} {Q : Int32 → St → Prop} (hq : Q (nI (lA k h n)) σ) : V_X1_letOver (nI k) (nI h) (nI n) σ Q := by
  unfold V_X1_letOver B_X1_letOver_e
  have fin : ∀ x, lA k h n = x → Q (nI x) σ := fun x e => e ▸ hq
  have key : ∀ L : Nat, L = (if h % 2 = 0 then 2 else 0) → R_X1_letOver (nI k) (nI h) (nI n) Q 11 [nI L] [] σ := by
    intro L eL
    have hL : L ≤ 2 := by split at eL <;> omega
    refine i_X1_letOver_11 _ _ _ _ _ _ ?_
    unfold B_X1_letOver_11
    have key2 : ∀ M : Nat, M = L - 1 → R_X1_letOver (nI k) (nI h) (nI n) Q 23 [nI L, nI M] [] σ := by
      intro M eM
      refine i_X1_letOver_23 _ _ _ _ _ _ _ ?_
      unfold B_X1_letOver_23
      simp (disch := omega) only [q_m1, q_m1n, q_m1a, q_eq, q_le, q_lt, nI_add, pk_sub, pk_mul, pk_div, pk_rem, nI_clamp, q_in, zl0, zl1, zl2, zl3, zl4, zl5, zl6, zl7, zl8, zl9, zl10, zl11, zl12, zl13, zl14, zl15, zl16, zl17, zl18, zl19, zl20, zl21, zl22, zl23, zl24, zl25, zl26, zl27, zl28, zl29, zl30, zl31, zl32, zl36, zl37, zl38, zl40, zl42, zl43, zl44, zl48, zl53, zl54, zl57, zl59, zl60, zl61, zl63, zl64, zl70, zl71, zl72, zl77, zl78, zl90, zl97, zl98, zl99, zl100, zl101, zl102, zl106, zl111, zl122, zl127, zl128, zl150, zl181, zl256, zl362, zl9999, zl999999, zl1000000]
      refine ⟨fun e => fin _ ?_, fun e1 => ⟨fun e => fin _ ?_, fun e2 => ⟨fun e => ⟨fun c => fin _ ?_, fun c => fin _ ?_⟩, fun e3 => ⟨fun e => ⟨fun c => fin _ ?_, fun c => fin _ ?_⟩, fun e4 => ⟨fun e => ⟨fun c => fin _ ?_, fun c => fin _ ?_⟩, fun e5 => fin _ ?_⟩⟩⟩⟩⟩
      all_goals (unfold lA; by_cases r : h % 2 = 0 <;> simp_all <;> omega)
    simp (disch := omega) only [q_m1, q_m1n, q_m1a, q_eq, q_le, q_lt, nI_add, pk_sub, pk_mul, pk_div, pk_rem, nI_clamp, q_in, zl0, zl1, zl2, zl3, zl4, zl5, zl6, zl7, zl8, zl9, zl10, zl11, zl12, zl13, zl14, zl15, zl16, zl17, zl18, zl19, zl20, zl21, zl22, zl23, zl24, zl25, zl26, zl27, zl28, zl29, zl30, zl31, zl32, zl36, zl37, zl38, zl40, zl42, zl43, zl44, zl48, zl53, zl54, zl57, zl59, zl60, zl61, zl63, zl64, zl70, zl71, zl72, zl77, zl78, zl90, zl97, zl98, zl99, zl100, zl101, zl102, zl106, zl111, zl122, zl127, zl128, zl150, zl181, zl256, zl362, zl9999, zl999999, zl1000000]
    refine ⟨fun c => key2 0 (by omega), fun c => (pk_sub (a := L) (b := 1) (by omega)) ▸ key2 (L - 1) rfl⟩
  simp (disch := omega) only [q_m1, q_m1n, q_m1a, q_eq, q_le, q_lt, nI_add, pk_sub, pk_mul, pk_div, pk_rem, nI_clamp, q_in, zl0, zl1, zl2, zl3, zl4, zl5, zl6, zl7, zl8, zl9, zl10, zl11, zl12, zl13, zl14, zl15, zl16, zl17, zl18, zl19, zl20, zl21, zl22, zl23, zl24, zl25, zl26, zl27, zl28, zl29, zl30, zl31, zl32, zl36, zl37, zl38, zl40, zl42, zl43, zl44, zl48, zl53, zl54, zl57, zl59, zl60, zl61, zl63, zl64, zl70, zl71, zl72, zl77, zl78, zl90, zl97, zl98, zl99, zl100, zl101, zl102, zl106, zl111, zl122, zl127, zl128, zl150, zl181, zl256, zl362, zl9999, zl999999, zl1000000]
  exact ⟨fun c => key 0 (by rw [if_neg (by omega)]), fun c => key 2 (by rw [if_pos (by omega)])⟩
/-! bits -/
theorem sm_l : ∀ n, n < 32 → ((nI n &&& 31).toBitVec.smod 32).toNat = n := by decide +kernel
theorem q_shr {m k : Nat} (hm : m < 2147483648) (hk : k < 32) : (nI m >>> (nI k &&& 31)) = nI (m / 2 ^ k) := pk_shrN hm _ k (sm_l k hk)
theorem q_bit {m k : Nat} (hm : m < 2147483648) (hk : k < 32) : (nI m >>> (nI k &&& 31)) &&& 1 = nI (m / 2 ^ k % 2) := by
  rw [q_shr hm hk, pk_andN (by have := Nat.div_le_self m (2 ^ k); omega) 1 (by decide)]
theorem q_shl {k : Nat} (hk : k < 31) : ((1 : Int32) <<< (nI k &&& 31)) = nI (2 ^ k) := by
  have h2 : 2 ^ k < 2 ^ 32 := Nat.pow_lt_pow_right (by omega) (by omega)
  have := pk_shlN (n := 1) (nI k &&& 31) k (sm_l k (by omega)) (by omega)
  rw [Nat.one_mul] at this
  exact this
theorem v_shutBit {h0 : Nat} {m k : Nat} (hm : m < 2147483648) (hk : k < 32) {σ : St} {Q : Int32 → St → Prop} (e : σ h0 10 = nI m) (h : Q (nI (m / 2 ^ k % 2)) σ) : V_X8_shutBit h0 (nI k) σ Q := by
  unfold V_X8_shutBit B_X8_shutBit_e
  rw [e, q_bit hm hk]
  exact h


/-! the reference's rows -/
theorem us_same {σ : St} {k : Nat} {f : Nat → Int32} : us σ k f k = f := if_pos rfl
theorem us_ne {σ : St} {k j : Nat} {f : Nat → Int32} (h : j ≠ k) : us σ k f j = σ j := if_neg h
theorem us_us {σ : St} {k : Nat} {f g : Nat → Int32} : us (us σ k f) k g = us σ k g := by
  funext j
  by_cases h : j = k
  · subst h; rw [us_same, us_same]
  · rw [us_ne h, us_ne h, us_ne h]
theorem us_self {σ : St} {k : Nat} : us σ k (σ k) = σ := by
  funext j
  by_cases h : j = k
  · subst h; rw [us_same]
  · rw [us_ne h]
abbrev Sm (a : Nat → Nat) : Prop := ∀ i, a i < 2147483648
theorem bh_first {a : Nat → Nat} {s k : Nat} (h1 : a 1 ≤ 3) (hk : k < a 1) (h : ∀ j, j < k → a (40 + j) ≠ s) (e : a (40 + k) = s) : bh a s = k + 1 := by
  have h0 := h 0
  have h1' := h 1
  unfold bh
  rcases (by omega : k = 0 ∨ k = 1 ∨ k = 2) with rfl | rfl | rfl
  · rw [if_pos ⟨hk, e⟩]
  · rw [if_neg (fun q => h0 (by omega) q.2), if_pos ⟨hk, e⟩]
  · rw [if_neg (fun q => h0 (by omega) q.2), if_neg (fun q => h1' (by omega) q.2), if_pos ⟨hk, e⟩]
section RM
variable {σ : St} {h n : Nat} {a : Nat → Nat}
end RM

section RM2
variable {σ : St} {h n : Nat} {a : Nat → Nat}
theorem bh_sm {s : Nat} : bh a s ≤ 3 := by
  unfold bh
  repeat' split
  all_goals omega
end RM2


theorem q_ss (x y z : Int32) : x - y - z = x - (y + z) := by
  apply Int32.toBitVec_inj.mp
  simp only [Int32.toBitVec_sub, Int32.toBitVec_add]
  rw [BitVec.sub_sub]
theorem q_s0 (x : Int32) : x - nI 0 = x := by
  apply Int32.toBitVec_inj.mp
  simp only [Int32.toBitVec_sub]
  exact BitVec.sub_zero _
theorem q_dle {a b : Nat} (ha : a < 1000000) (hb : b < 1000000) : (nI a - nI b ≤ nI 0) = (a ≤ b) := propext (by
  rw [Int32.le_iff_toInt_le, pk_sub_toInt (by omega) (by omega), nI_toInt (by omega)]
  omega)
/-- the gloves that wait at a crossing, of the first g -/
def cc (a : Nat → Nat) (k g : Nat) : Nat := if k < a 1 then cnt a (a (40 + k)) g else 0
/-- the row with the first g gloves gone -/
def st (a : Nat → Nat) (g : Nat) : Nat → Nat := fun i => if 6 ≤ i ∧ i < 6 + g then nsp a (i - 6) else a i
theorem st_0 {a : Nat → Nat} : st a 0 = a := by
  funext i
  unfold st
  rw [if_neg (by omega)]
theorem st_lo {a : Nat → Nat} {g i : Nat} (h : i < 6) : st a g i = a i := by unfold st; rw [if_neg (by omega)]
theorem st_hi {a : Nat → Nat} {g i : Nat} (h : 6 + g ≤ i) : st a g i = a i := by unfold st; rw [if_neg (by omega)]
theorem st_sp {a : Nat → Nat} {g j : Nat} (h : j < g) : st a g (6 + j) = nsp a j := by
  unfold st
  rw [if_pos (by omega)]
  congr 1
  omega
theorem st_bh {a : Nat → Nat} {g s : Nat} (hg : g ≤ 8) : bh (st a g) s = bh a s := by
  unfold bh
  rw [st_lo (i := 1) (by omega), st_hi (i := 40) (by omega), st_hi (i := 41) (by omega), st_hi (i := 42) (by omega)]
theorem st_wk {a : Nat → Nat} {g : Nat} (hg : g ≤ 8) : ∀ m s, wk (st a g) m s = wk a m s
  | 0, s => rfl
  | m + 1, s => by
    unfold wk
    rw [st_bh hg, st_wk hg m (s + 1)]
theorem st_gon {a : Nat → Nat} {g j : Nat} (hg : g ≤ 8) : gon (st a g) j = gon a j := by
  unfold gon
  rw [st_hi (i := 22 + j) (by omega), st_hi (i := 15) (by omega), st_hi (i := 16 + a 15 % 6) (by omega)]
theorem st_Sm {a : Nat → Nat} {g : Nat} (h : Bd a) (hg : g ≤ a 0) : Sm (st a g) := fun i => by
  unfold st
  split
  · have := nsp_le h (g := i - 6) (by omega)
    omega
  · exact h.2.2.2.2.2.2.2.2 i
theorem st_step {a : Nat → Nat} {g i : Nat} : st a (g + 1) i = if i = 6 + g then nsp a g else st a g i := by
  unfold st
  by_cases e : i = 6 + g
  · rw [if_pos e, if_pos (by omega), e]
    congr 1
    omega
  · rw [if_neg e]
    by_cases c : 6 ≤ i ∧ i < 6 + g
    · rw [if_pos c, if_pos (by omega)]
    · rw [if_neg c, if_neg (by omega)]
theorem st_hr {a : Nat → Nat} {i : Nat} (h0 : a 0 ≤ 8) : hr a i = if i = 15 then st a (a 0) 15 + 1 else st a (a 0) i := by
  unfold hr st
  by_cases e : i = 15
  · subst e
    rw [if_neg (by omega), if_pos rfl, if_pos rfl, if_neg (by omega)]
  · rw [if_neg e, if_neg e]
theorem cc_no {a : Nat → Nat} {k g : Nat} (h : bh a (a (6 + g)) ≠ k + 1) (hB : Bd a) : cc a k (g + 1) = cc a k g := by
  unfold cc
  split
  · rename_i hk
    have e : cnt a (a (40 + k)) (g + 1) = cnt a (a (40 + k)) g + (if a (6 + g) = a (40 + k) then 1 else 0) := rfl
    rw [e, if_neg (fun q => h (by rw [q]; exact bh_of hB hk))]
    rfl
  · rfl
theorem cc_yes {a : Nat → Nat} {k g : Nat} (h : bh a (a (6 + g)) = k + 1) (hB : Bd a) : cc a k (g + 1) = cc a k g + 1 := by
  have hb := bh_le (s := a (6 + g)) hB
  have e2 := bh_at (a := a) (s := a (6 + g)) (by omega)
  unfold cc
  rw [if_pos (by omega), if_pos (by omega)]
  have e : cnt a (a (40 + k)) (g + 1) = cnt a (a (40 + k)) g + (if a (6 + g) = a (40 + k) then 1 else 0) := rfl
  rw [e, if_pos (by rw [h] at e2; exact e2.symm)]
theorem cc_rank {a : Nat → Nat} {k g : Nat} (h : bh a (a (6 + g)) = k + 1) (hB : Bd a) : cc a k g = cnt a (a (6 + g)) g := by
  have hb := bh_le (s := a (6 + g)) hB
  have e2 := bh_at (a := a) (s := a (6 + g)) (by omega)
  unfold cc
  rw [if_pos (by omega)]
  rw [h] at e2
  rw [show 40 + (k + 1 - 1) = 40 + k from rfl] at e2
  rw [e2]
theorem cc_le {a : Nat → Nat} {k g : Nat} : cc a k g ≤ g := by
  unfold cc
  split
  · exact cnt_le _
  · omega
section HM
variable {σ : St} {h n : Nat} {a : Nat → Nat}
end HM

