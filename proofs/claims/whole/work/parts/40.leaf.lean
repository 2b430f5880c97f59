/-! numbers: from Int32 to Nat -/
theorem zl0 : (0 : Int32) = nI 0 := rfl
theorem zl1 : (1 : Int32) = nI 1 := rfl
theorem zl2 : (2 : Int32) = nI 2 := rfl
theorem zl3 : (3 : Int32) = nI 3 := rfl
theorem zl4 : (4 : Int32) = nI 4 := rfl
theorem zl5 : (5 : Int32) = nI 5 := rfl
theorem zl6 : (6 : Int32) = nI 6 := rfl
theorem zl7 : (7 : Int32) = nI 7 := rfl
theorem zl8 : (8 : Int32) = nI 8 := rfl
theorem zl9 : (9 : Int32) = nI 9 := rfl
theorem zl10 : (10 : Int32) = nI 10 := rfl
theorem zl11 : (11 : Int32) = nI 11 := rfl
theorem zl12 : (12 : Int32) = nI 12 := rfl
theorem zl13 : (13 : Int32) = nI 13 := rfl
theorem zl14 : (14 : Int32) = nI 14 := rfl
theorem zl15 : (15 : Int32) = nI 15 := rfl
theorem zl16 : (16 : Int32) = nI 16 := rfl
theorem zl17 : (17 : Int32) = nI 17 := rfl
theorem zl18 : (18 : Int32) = nI 18 := rfl
theorem zl19 : (19 : Int32) = nI 19 := rfl
theorem zl20 : (20 : Int32) = nI 20 := rfl
theorem zl21 : (21 : Int32) = nI 21 := rfl
theorem zl22 : (22 : Int32) = nI 22 := rfl
theorem zl23 : (23 : Int32) = nI 23 := rfl
theorem zl24 : (24 : Int32) = nI 24 := rfl
theorem zl25 : (25 : Int32) = nI 25 := rfl
theorem zl26 : (26 : Int32) = nI 26 := rfl
theorem zl27 : (27 : Int32) = nI 27 := rfl
theorem zl28 : (28 : Int32) = nI 28 := rfl
theorem zl29 : (29 : Int32) = nI 29 := rfl
theorem zl30 : (30 : Int32) = nI 30 := rfl
theorem zl31 : (31 : Int32) = nI 31 := rfl
theorem zl32 : (32 : Int32) = nI 32 := rfl
theorem zl36 : (36 : Int32) = nI 36 := rfl
theorem zl37 : (37 : Int32) = nI 37 := rfl
theorem zl38 : (38 : Int32) = nI 38 := rfl
theorem zl40 : (40 : Int32) = nI 40 := rfl
theorem zl42 : (42 : Int32) = nI 42 := rfl
theorem zl43 : (43 : Int32) = nI 43 := rfl
theorem zl44 : (44 : Int32) = nI 44 := rfl
theorem zl48 : (48 : Int32) = nI 48 := rfl
theorem zl53 : (53 : Int32) = nI 53 := rfl
theorem zl54 : (54 : Int32) = nI 54 := rfl
theorem zl57 : (57 : Int32) = nI 57 := rfl
theorem zl59 : (59 : Int32) = nI 59 := rfl
theorem zl60 : (60 : Int32) = nI 60 := rfl
theorem zl61 : (61 : Int32) = nI 61 := rfl
theorem zl63 : (63 : Int32) = nI 63 := rfl
theorem zl64 : (64 : Int32) = nI 64 := rfl
theorem zl70 : (70 : Int32) = nI 70 := rfl
theorem zl71 : (71 : Int32) = nI 71 := rfl
theorem zl72 : (72 : Int32) = nI 72 := rfl
theorem zl77 : (77 : Int32) = nI 77 := rfl
theorem zl78 : (78 : Int32) = nI 78 := rfl
theorem zl90 : (90 : Int32) = nI 90 := rfl
theorem zl97 : (97 : Int32) = nI 97 := rfl
theorem zl98 : (98 : Int32) = nI 98 := rfl
theorem zl99 : (99 : Int32) = nI 99 := rfl
theorem zl100 : (100 : Int32) = nI 100 := rfl
theorem zl101 : (101 : Int32) = nI 101 := rfl
theorem zl102 : (102 : Int32) = nI 102 := rfl
theorem zl106 : (106 : Int32) = nI 106 := rfl
theorem zl111 : (111 : Int32) = nI 111 := rfl
theorem zl122 : (122 : Int32) = nI 122 := rfl
theorem zl127 : (127 : Int32) = nI 127 := rfl
theorem zl128 : (128 : Int32) = nI 128 := rfl
theorem zl150 : (150 : Int32) = nI 150 := rfl
theorem zl181 : (181 : Int32) = nI 181 := rfl
theorem zl256 : (256 : Int32) = nI 256 := rfl
theorem zl362 : (362 : Int32) = nI 362 := rfl
theorem zl9999 : (9999 : Int32) = nI 9999 := rfl
theorem zl999999 : (999999 : Int32) = nI 999999 := rfl
theorem zl1000000 : (1000000 : Int32) = nI 1000000 := rfl
theorem zL0 : (0 : Int64) = lN 0 := rfl
theorem zL1 : (1 : Int64) = lN 1 := rfl
theorem zL2 : (2 : Int64) = lN 2 := rfl
theorem zL3 : (3 : Int64) = lN 3 := rfl
theorem zL4 : (4 : Int64) = lN 4 := rfl
theorem zL5 : (5 : Int64) = lN 5 := rfl
theorem zL6 : (6 : Int64) = lN 6 := rfl
theorem zL7 : (7 : Int64) = lN 7 := rfl
theorem zL8 : (8 : Int64) = lN 8 := rfl
theorem zL9 : (9 : Int64) = lN 9 := rfl
theorem zL10 : (10 : Int64) = lN 10 := rfl
theorem zL11 : (11 : Int64) = lN 11 := rfl
theorem zL12 : (12 : Int64) = lN 12 := rfl
theorem zL13 : (13 : Int64) = lN 13 := rfl
theorem zL14 : (14 : Int64) = lN 14 := rfl
theorem zL15 : (15 : Int64) = lN 15 := rfl
theorem zL16 : (16 : Int64) = lN 16 := rfl
theorem zL17 : (17 : Int64) = lN 17 := rfl
theorem zL18 : (18 : Int64) = lN 18 := rfl
theorem zL19 : (19 : Int64) = lN 19 := rfl
theorem zL20 : (20 : Int64) = lN 20 := rfl
theorem zL21 : (21 : Int64) = lN 21 := rfl
theorem zL22 : (22 : Int64) = lN 22 := rfl
theorem zL23 : (23 : Int64) = lN 23 := rfl
theorem zL24 : (24 : Int64) = lN 24 := rfl
theorem zL25 : (25 : Int64) = lN 25 := rfl
theorem zL26 : (26 : Int64) = lN 26 := rfl
theorem zL27 : (27 : Int64) = lN 27 := rfl
theorem zL28 : (28 : Int64) = lN 28 := rfl
theorem zL29 : (29 : Int64) = lN 29 := rfl
theorem zL30 : (30 : Int64) = lN 30 := rfl
theorem zL31 : (31 : Int64) = lN 31 := rfl
theorem zL32 : (32 : Int64) = lN 32 := rfl
theorem zL36 : (36 : Int64) = lN 36 := rfl
theorem zL37 : (37 : Int64) = lN 37 := rfl
theorem zL38 : (38 : Int64) = lN 38 := rfl
theorem zL40 : (40 : Int64) = lN 40 := rfl
theorem zL42 : (42 : Int64) = lN 42 := rfl
theorem zL43 : (43 : Int64) = lN 43 := rfl
theorem zL44 : (44 : Int64) = lN 44 := rfl
theorem zL48 : (48 : Int64) = lN 48 := rfl
theorem zL53 : (53 : Int64) = lN 53 := rfl
theorem zL54 : (54 : Int64) = lN 54 := rfl
theorem zL57 : (57 : Int64) = lN 57 := rfl
theorem zL59 : (59 : Int64) = lN 59 := rfl
theorem zL60 : (60 : Int64) = lN 60 := rfl
theorem zL61 : (61 : Int64) = lN 61 := rfl
theorem zL63 : (63 : Int64) = lN 63 := rfl
theorem zL64 : (64 : Int64) = lN 64 := rfl
theorem zL70 : (70 : Int64) = lN 70 := rfl
theorem zL71 : (71 : Int64) = lN 71 := rfl
theorem zL72 : (72 : Int64) = lN 72 := rfl
theorem zL77 : (77 : Int64) = lN 77 := rfl
theorem zL78 : (78 : Int64) = lN 78 := rfl
theorem zL90 : (90 : Int64) = lN 90 := rfl
theorem zL97 : (97 : Int64) = lN 97 := rfl
theorem zL98 : (98 : Int64) = lN 98 := rfl
theorem zL99 : (99 : Int64) = lN 99 := rfl
theorem zL100 : (100 : Int64) = lN 100 := rfl
theorem zL101 : (101 : Int64) = lN 101 := rfl
theorem zL102 : (102 : Int64) = lN 102 := rfl
theorem zL106 : (106 : Int64) = lN 106 := rfl
theorem zL111 : (111 : Int64) = lN 111 := rfl
theorem zL122 : (122 : Int64) = lN 122 := rfl
theorem zL127 : (127 : Int64) = lN 127 := rfl
theorem zL128 : (128 : Int64) = lN 128 := rfl
theorem zL150 : (150 : Int64) = lN 150 := rfl
theorem zL181 : (181 : Int64) = lN 181 := rfl
theorem zL256 : (256 : Int64) = lN 256 := rfl
theorem zL362 : (362 : Int64) = lN 362 := rfl
theorem zL9999 : (9999 : Int64) = lN 9999 := rfl
theorem zL999999 : (999999 : Int64) = lN 999999 := rfl
theorem zL1000000 : (1000000 : Int64) = lN 1000000 := rfl

theorem q_eq {a b : Nat} (ha : a < 2147483648) (hb : b < 2147483648) : (nI a = nI b) = (a = b) := propext (nI_eq ha hb)
theorem q_le {a b : Nat} (ha : a < 2147483648) (hb : b < 2147483648) : (nI a ≤ nI b) = (a ≤ b) := propext (nI_leI ha hb)
theorem q_lt {a b : Nat} (ha : a < 2147483648) (hb : b < 2147483648) : (nI a < nI b) = (a < b) := propext (nI_ltI ha hb)
theorem q_in {a n : Nat} (ha : a < 2147483648) (hn : n < 2147483648) : vp_in (nI a) n = (a < n) := propext ⟨fun h => by
  have h1 := (vp_in_iff.mp h).2
  rw [nI_toInt ha] at h1
  omega, fun h => vp_in_nI h hn⟩
theorem q_m1 {b : Nat} (hb : b < 2147483648) : (nI b - nI 1 = -nI 1) = (b = 0) := propext ⟨fun h => by
  have h2 : nI b - nI 1 + nI 1 = -nI 1 + nI 1 := by rw [h]
  rw [Int32.sub_add_cancel] at h2
  exact (nI_eq hb (by decide)).mp (h2.trans (by decide)), fun h => by subst h; decide⟩
theorem q_m1n {b : Nat} (hb : b < 2147483648) : (nI b = -nI 1) = False := propext ⟨fun h => by
  have := congrArg Int32.toInt h
  rw [nI_toInt hb] at this
  have e : (-nI 1).toInt = -1 := by decide
  omega, False.elim⟩
theorem q_m1a {n : Nat} (h : 1 ≤ n) : nI n + -nI 1 = nI (n - 1) := by
  have e : n = (n - 1) + 1 := by omega
  rw [e]
  exact pk_m1 (n - 1)
/-- how far a glove of a kind goes -/
def gA (k h w : Nat) : Nat :=
  if k = 1 then (if w = 0 then 2 else 1) else if k = 2 then (if 3 ≤ w then 0 else 1)
  else if k = 3 then (if h % 2 = 0 then 2 * (if w = 0 then 2 else 1) else (if w = 0 then 2 else 1))
  else if k = 4 then (if h % 5 = 0 then 4 else 1)
  else if k = 5 then (if h % 2 = 0 then 2 * (if w = 0 then 2 else 1) else (if w = 0 then 2 else 1)) - w else 1
/-- how many a crossing of a kind lets over -/
def lA (k h n : Nat) : Nat :=
  if k = 1 then (if h % 2 = 0 then 2 else 0) - 1 else if k = 2 then (if h % 2 = 0 then 2 else 0) + n / 2
  else if k = 3 then ((if h % 2 = 0 then 2 else 0) - 1) + (if 4 ≤ n then 1 else 0)
  else if k = 4 then (if 6 ≤ h % 8 then n else (if h % 2 = 0 then 2 else 0))
  else if k = 5 then (if h % 3 = 0 then 0 else (if h % 2 = 0 then 2 else 0) + n / 2) else (if h % 2 = 0 then 2 else 0)
theorem gA_le {k h w : Nat} : gA k h w ≤ 4 := by
  unfold gA
  repeat' split
  all_goals omega
theorem lA_le {k h n : Nat} (hn : n ≤ 8) : lA k h n ≤ 8 := by
  unfold lA
  repeat' split
  all_goals omega
/-- within, by whole numbers -/
def okI (x : Int32) (lo hi : Int) : Prop := lo ≤ x.toInt ∧ x.toInt ≤ hi
theorem okI_nI {j n : Nat} (hj : j < 2147483648) : okI (nI j) 0 n ↔ j ≤ n := by
  unfold okI
  rw [nI_toInt hj]
  omega
theorem okI_ex {x : Int32} {a b : Nat} (h : okI x a b) : ∃ j : Nat, a ≤ j ∧ j ≤ b ∧ x = nI j := by
  refine ⟨x.toInt.toNat, ?_, ?_, ?_⟩
  · have := h.1; omega
  · have := h.2; omega
  · apply Int32.toInt_inj.mp
    have h1 := h.1
    have h2 : x.toInt < 2147483648 := Int32.toInt_lt x
    rw [nI_toInt (by omega)]
    omega
theorem v_within {x lo hi : Int32} {σ : St} {Q : Int32 → St → Prop} (h1 : okI x lo.toInt hi.toInt → Q 1 σ) (h0 : ¬ okI x lo.toInt hi.toInt → Q 0 σ) : V_X10_within x lo hi σ Q := by
  unfold V_X10_within B_X10_within_e
  refine ⟨fun c => h0 (fun h => ?_), fun c => ⟨fun d => h0 (fun h => ?_), fun d => h1 ⟨?_, ?_⟩⟩⟩
  · have := Int32.lt_iff_toInt_lt.mp c
    have := h.1
    omega
  · have := Int32.lt_iff_toInt_lt.mp d
    have := h.2
    omega
  · exact Int32.le_iff_toInt_le.mp (Int32.not_lt.mp c)
  · exact Int32.le_iff_toInt_le.mp (Int32.not_lt.mp d)
theorem lg_lt0 {x y : Int64} : lg_cmp x y < 0 ↔ x.toInt < y.toInt := by
  unfold lg_cmp
  by_cases h : x > y
  · rw [if_pos h]
    have := Int64.lt_iff_toInt_lt.mp h
    exact ⟨fun q => absurd q (by decide), fun q => absurd q (by omega)⟩
  · rw [if_neg h]
    have h2 := Int64.le_iff_toInt_le.mp (Int64.not_lt.mp h)
    by_cases e : x = y
    · rw [if_pos e]; subst e
      exact ⟨fun q => absurd q (by decide), fun q => absurd q (by omega)⟩
    · rw [if_neg e]
      refine ⟨fun _ => ?_, fun _ => by decide⟩
      have : x.toInt ≠ y.toInt := fun q => e (Int64.toInt_inj.mp q)
      omega
theorem lg_gt0 {x y : Int64} : 0 < lg_cmp x y ↔ y.toInt < x.toInt := by
  unfold lg_cmp
  by_cases h : x > y
  · rw [if_pos h]
    exact ⟨fun _ => Int64.lt_iff_toInt_lt.mp h, fun _ => by decide⟩
  · rw [if_neg h]
    have h2 := Int64.le_iff_toInt_le.mp (Int64.not_lt.mp h)
    by_cases e : x = y
    · rw [if_pos e]
      exact ⟨fun q => absurd q (by decide), fun q => absurd q (by omega)⟩
    · rw [if_neg e]
      exact ⟨fun q => absurd q (by decide), fun q => absurd q (by omega)⟩
theorem v_in {x : Int32} {lo hi : Int64} {σ : St} {Q : Int32 → St → Prop} (h1 : okI x lo.toInt hi.toInt → Q 1 σ) (h0 : ¬ okI x lo.toInt hi.toInt → Q 0 σ) : V_X11_in x.toInt64 lo hi σ Q := by
  have e : x.toInt64.toInt = x.toInt := Int32.toInt_toInt64 x
  unfold V_X11_in B_X11_in_e okI at *
  rw [lg_lt0, lg_gt0, e]
  exact ⟨fun c => h0 (fun h => by omega), fun c => ⟨fun d => h0 (fun h => by omega), fun d => h1 (by omega)⟩⟩

theorem v_within1 {x lo hi : Int32} {σ : St} {Q : Int32 → St → Prop} (h : okI x lo.toInt hi.toInt) (q : Q 1 σ) : V_X10_within x lo hi σ Q := v_within (fun _ => q) (fun n => absurd h n)
theorem v_within0 {x lo hi : Int32} {σ : St} {Q : Int32 → St → Prop} (h : ¬ okI x lo.toInt hi.toInt) (q : Q 0 σ) : V_X10_within x lo hi σ Q := v_within (fun n => absurd n h) (fun _ => q)
theorem v_in1 {x : Int32} {lo hi : Int64} {σ : St} {Q : Int32 → St → Prop} (h : okI x lo.toInt hi.toInt) (q : Q 1 σ) : V_X11_in x.toInt64 lo hi σ Q := v_in (fun _ => q) (fun n => absurd h n)
theorem v_in0 {x : Int32} {lo hi : Int64} {σ : St} {Q : Int32 → St → Prop} (h : ¬ okI x lo.toInt hi.toInt) (q : Q 0 σ) : V_X11_in x.toInt64 lo hi σ Q := v_in (fun n => absurd n h) (fun _ => q)
set_option maxHeartbeats 4000000 in
set_option maxRecDepth 100000 in
theorem v_spikesGone {k h w : Nat} (hk : k ≤ 5) (hh : h < 2147483648) (hw : w ≤ 4) {σ : St} {Q : Int32 → St → Prop} (hq : Q (nI (gA k h w)) σ) : V_X1_spikesGone (nI k) (nI h) (nI w) σ Q := by
  unfold V_X1_spikesGone B_X1_spikesGone_e
  have key : ∀ L : Nat, L = (if w = 0 then 2 else 1) → R_X1_spikesGone (nI k) (nI h) (nI w) Q 13 [nI 1, nI L] [] σ := by
    intro L eL
    have hL : L ≤ 2 := by split at eL <;> omega
    refine i_X1_spikesGone_13 _ _ _ _ _ _ _ ?_
    unfold B_X1_spikesGone_13
    have key2 : ∀ M : Nat, M = (if h % 2 = 0 then 2 * L else L) → R_X1_spikesGone (nI k) (nI h) (nI w) Q 30 [nI 1, nI L, nI M] [] σ := by
      intro M eM
      have hM : M ≤ 4 := by split at eM <;> omega
      refine i_X1_spikesGone_30 _ _ _ _ _ _ _ _ ?_
      unfold B_X1_spikesGone_30
      have fin : ∀ n, gA k h w = n → Q (nI n) σ := fun n e => e ▸ hq
      simp (disch := omega) only [q_m1, q_m1n, q_m1a, q_eq, q_le, q_lt, nI_add, pk_sub, pk_mul, pk_div, pk_rem, nI_clamp, q_in, zl0, zl1, zl2, zl3, zl4, zl5, zl6, zl7, zl8, zl9, zl10, zl11, zl12, zl13, zl14, zl15, zl16, zl17, zl18, zl19, zl20, zl21, zl22, zl23, zl24, zl25, zl26, zl27, zl28, zl29, zl30, zl31, zl32, zl36, zl37, zl38, zl40, zl42, zl43, zl44, zl48, zl53, zl54, zl57, zl59, zl60, zl61, zl63, zl64, zl70, zl71, zl72, zl77, zl78, zl90, zl97, zl98, zl99, zl100, zl101, zl102, zl106, zl111, zl122, zl127, zl128, zl150, zl181, zl256, zl362, zl9999, zl999999, zl1000000]
      refine ⟨fun e => fin _ ?_, fun e1 => ⟨fun e => ⟨fun c => fin _ ?_, fun c => fin _ ?_⟩, fun e2 => ⟨fun e => fin _ ?_, fun e3 => ⟨fun e => ⟨fun c => fin _ ?_, fun c => fin _ ?_⟩, fun e4 => ⟨fun e => ⟨fun c => fin _ ?_, fun c => (pk_sub (a := M) (b := w) (by omega)) ▸ fin _ ?_⟩, fun e5 => fin _ ?_⟩⟩⟩⟩⟩
      all_goals (unfold gA; by_cases r : h % 2 = 0 <;> by_cases w0 : w = 0 <;> simp_all <;> omega)
    simp (disch := omega) only [q_m1, q_m1n, q_m1a, q_eq, q_le, q_lt, nI_add, pk_sub, pk_mul, pk_div, pk_rem, nI_clamp, q_in, zl0, zl1, zl2, zl3, zl4, zl5, zl6, zl7, zl8, zl9, zl10, zl11, zl12, zl13, zl14, zl15, zl16, zl17, zl18, zl19, zl20, zl21, zl22, zl23, zl24, zl25, zl26, zl27, zl28, zl29, zl30, zl31, zl32, zl36, zl37, zl38, zl40, zl42, zl43, zl44, zl48, zl53, zl54, zl57, zl59, zl60, zl61, zl63, zl64, zl70, zl71, zl72, zl77, zl78, zl90, zl97, zl98, zl99, zl100, zl101, zl102, zl106, zl111, zl122, zl127, zl128, zl150, zl181, zl256, zl362, zl9999, zl999999, zl1000000]
    exact ⟨fun c => key2 L (by rw [if_neg (by omega)]), fun c => key2 (2 * L) (by rw [if_pos (by omega)])⟩
  simp (disch := omega) only [q_m1, q_m1n, q_m1a, q_eq, q_le, q_lt, nI_add, pk_sub, pk_mul, pk_div, pk_rem, nI_clamp, q_in, zl0, zl1, zl2, zl3, zl4, zl5, zl6, zl7, zl8, zl9, zl10, zl11, zl12, zl13, zl14, zl15, zl16, zl17, zl18, zl19, zl20, zl21, zl22, zl23, zl24, zl25, zl26, zl27, zl28, zl29, zl30, zl31, zl32, zl36, zl37, zl38, zl40, zl42, zl43, zl44, zl48, zl53, zl54, zl57, zl59, zl60, zl61, zl63, zl64, zl70, zl71, zl72, zl77, zl78, zl90, zl97, zl98, zl99, zl100, zl101, zl102, zl106, zl111, zl122, zl127, zl128, zl150, zl181, zl256, zl362, zl9999, zl999999, zl1000000]
  exact ⟨fun c => key 1 (by rw [if_neg c]), fun c => key 2 (by rw [if_pos c])⟩
