
set_option maxHeartbeats 4000000 in
set_option maxRecDepth 100000 in
theorem v_goesAs {k h w : Nat} (hk : k ≤ 5) (hh : h < 2147483648) (hw : w ≤ 4) {σ : St} {Q : Int32 → St → Prop} (hq : Q (nI (gA k h w)) σ) : V_X11_goesAs (nI k) (nI h) (nI w) σ Q := by
  unfold V_X11_goesAs B_X11_goesAs_e
  have fin : ∀ n, gA k h w = n → Q (nI n) σ := fun n e => e ▸ hq
  have key : ∀ L : Nat, L = (if w = 0 then 2 else 1) → R_X11_goesAs (nI k) (nI h) (nI w) Q 9 [nI L] [] σ := by
    intro L eL
    have hL : L ≤ 2 := by split at eL <;> omega
    refine i_X11_goesAs_9 _ _ _ _ _ _ ?_
    unfold B_X11_goesAs_9
    have key2 : ∀ M : Nat, M = (if h % 2 = 0 then 2 * L else L) → R_X11_goesAs (nI k) (nI h) (nI w) Q 23 [nI L, nI M] [] σ := by
      intro M eM
      have hM : M ≤ 4 := by split at eM <;> omega
      refine i_X11_goesAs_23 _ _ _ _ _ _ _ ?_
      unfold B_X11_goesAs_23
      simp (disch := omega) only [q_m1, q_m1n, q_m1a, q_eq, q_le, q_lt, nI_add, pk_sub, pk_mul, pk_div, pk_rem, nI_clamp, q_in, zl0, zl1, zl2, zl3, zl4, zl5, zl6, zl7, zl8, zl9, zl10, zl11, zl12, zl13, zl14, zl15, zl16, zl17, zl18, zl19, zl20, zl21, zl22, zl23, zl24, zl25, zl26, zl27, zl28, zl29, zl30, zl31, zl32, zl36, zl37, zl38, zl40, zl42, zl43, zl44, zl48, zl53, zl54, zl57, zl59, zl60, zl61, zl63, zl64, zl70, zl71, zl72, zl77, zl78, zl90, zl97, zl98, zl99, zl100, zl101, zl102, zl106, zl111, zl122, zl127, zl128, zl150, zl181, zl256, zl362, zl9999, zl999999, zl1000000]
      refine ⟨fun e => fin _ ?_, fun e1 => ⟨fun e => ⟨fun c => fin _ ?_, fun c => fin _ ?_⟩, fun e2 => ⟨fun e => fin _ ?_, fun e3 => ⟨fun e => ⟨fun c => fin _ ?_, fun c => fin _ ?_⟩, fun e4 => ⟨fun e => ⟨fun c => fin _ ?_, fun c => (pk_sub (a := M) (b := w) (by omega)) ▸ fin _ ?_⟩, fun e5 => fin _ ?_⟩⟩⟩⟩⟩
      all_goals (unfold gA; by_cases r : h % 2 = 0 <;> by_cases w0 : w = 0 <;> simp_all <;> omega)
    simp (disch := omega) only [q_m1, q_m1n, q_m1a, q_eq, q_le, q_lt, nI_add, pk_sub, pk_mul, pk_div, pk_rem, nI_clamp, q_in, zl0, zl1, zl2, zl3, zl4, zl5, zl6, zl7, zl8, zl9, zl10, zl11, zl12, zl13, zl14, zl15, zl16, zl17, zl18, zl19, zl20, zl21, zl22, zl23, zl24, zl25, zl26, zl27, zl28, zl29, zl30, zl31, zl32, zl36, zl37, zl38, zl40, zl42, zl43, zl44, zl48, zl53, zl54, zl57, zl59, zl60, zl61, zl63, zl64, zl70, zl71, zl72, zl77, zl78, zl90, zl97, zl98, zl99, zl100, zl101, zl102, zl106, zl111, zl122, zl127, zl128, zl150, zl181, zl256, zl362, zl9999, zl999999, zl1000000]
    exact ⟨fun c => key2 L (by rw [if_neg (by omega)]), fun c => key2 (2 * L) (by rw [if_pos (by omega)])⟩
  simp (disch := omega) only [q_m1, q_m1n, q_m1a, q_eq, q_le, q_lt, nI_add, pk_sub, pk_mul, pk_div, pk_rem, nI_clamp, q_in, zl0, zl1, zl2, zl3, zl4, zl5, zl6, zl7, zl8, zl9, zl10, zl11, zl12, zl13, zl14, zl15, zl16, zl17, zl18, zl19, zl20, zl21, zl22, zl23, zl24, zl25, zl26, zl27, zl28, zl29, zl30, zl31, zl32, zl36, zl37, zl38, zl40, zl42, zl43, zl44, zl48, zl53, zl54, zl57, zl59, zl60, zl61, zl63, zl64, zl70, zl71, zl72, zl77, zl78, zl90, zl97, zl98, zl99, zl100, zl101, zl102, zl106, zl111, zl122, zl127, zl128, zl150, zl181, zl256, zl362, zl9999, zl999999, zl1000000]
  exact ⟨fun c => key 1 (by rw [if_neg c]), fun c => key 2 (by rw [if_pos c])⟩
set_option maxHeartbeats 4000000 in
set_option maxRecDepth 100000 in
theorem v_letOver {k h n : Nat} (hk : k ≤ 5) (hh : h < 2147483648) (hn : n ≤ 8) {σ : St} {Q : Int32 → St → Prop} (hq : Q (nI (lA k h n)) σ) : V_X1_letOver (nI k) (nI h) (nI n) σ Q := by
  unfold V_X1_letOver B_X1_letOver_e
  have fin : ∀ x, lA k h n = x → Q (nI x) σ := fun x e => e ▸ hq
  have key : ∀ L : Nat, L = (if h % 2 = 0 then 2 else 0) → R_X1_letOver (nI k) (nI h) (nI n) Q 11 [nI L] [] σ := by
    intro L eL
    have hL : L ≤ 2 := by split at eL <;> omega
    refine i_X1_letOver_11 _ _ _ _ _ _ ?_
    unfold B_X1_letOver_11
    have key2 : ∀ M : Nat, M = L - 1 → R_X1_letOver (nI k) (nI h) (nI n) Q 23 [nI L, nI M] [] σ := by
      intro M eM
      refine i_X1_letOver_23 _ _ _ _ _ _ _ ?_
      unfold B_X1_letOver_23
      simp (disch := omega) only [q_m1, q_m1n, q_m1a, q_eq, q_le, q_lt, nI_add, pk_sub, pk_mul, pk_div, pk_rem, nI_clamp, q_in, zl0, zl1, zl2, zl3, zl4, zl5, zl6, zl7, zl8, zl9, zl10, zl11, zl12, zl13, zl14, zl15, zl16, zl17, zl18, zl19, zl20, zl21, zl22, zl23, zl24, zl25, zl26, zl27, zl28, zl29, zl30, zl31, zl32, zl36, zl37, zl38, zl40, zl42, zl43, zl44, zl48, zl53, zl54, zl57, zl59, zl60, zl61, zl63, zl64, zl70, zl71, zl72, zl77, zl78, zl90, zl97, zl98, zl99, zl100, zl101, zl102, zl106, zl111, zl122, zl127, zl128, zl150, zl181, zl256, zl362, zl9999, zl999999, zl1000000]
      refine ⟨fun e => fin _ ?_, fun e1 => ⟨fun e => fin _ ?_, fun e2 => ⟨fun e => ⟨fun c => fin _ ?_, fun c => fin _ ?_⟩, fun e3 => ⟨fun e => ⟨fun c => fin _ ?_, fun c => fin _ ?_⟩, fun e4 => ⟨fun e => ⟨fun c => fin _ ?_, fun c => fin _ ?_⟩, fun e5 => fin _ ?_⟩⟩⟩⟩⟩
      all_goals (unfold lA; by_cases r : h % 2 = 0 <;> simp_all <;> omega)
    simp (disch := omega) only [q_m1, q_m1n, q_m1a, q_eq, q_le, q_lt, nI_add, pk_sub, pk_mul, pk_div, pk_rem, nI_clamp, q_in, zl0, zl1, zl2, zl3, zl4, zl5, zl6, zl7, zl8, zl9, zl10, zl11, zl12, zl13, zl14, zl15, zl16, zl17, zl18, zl19, zl20, zl21, zl22, zl23, zl24, zl25, zl26, zl27, zl28, zl29, zl30, zl31, zl32, zl36, zl37, zl38, zl40, zl42, zl43, zl44, zl48, zl53, zl54, zl57, zl59, zl60, zl61, zl63, zl64, zl70, zl71, zl72, zl77, zl78, zl90, zl97, zl98, zl99, zl100, zl101, zl102, zl106, zl111, zl122, zl127, zl128, zl150, zl181, zl256, zl362, zl9999, zl999999, zl1000000]
    refine ⟨fun c => key2 0 (by omega), fun c => (pk_sub (a := L) (b := 1) (by omega)) ▸ key2 (L - 1) rfl⟩
  simp (disch := omega) only [q_m1, q_m1n, q_m1a, q_eq, q_le, q_lt, nI_add, pk_sub, pk_mul, pk_div, pk_rem, nI_clamp, q_in, zl0, zl1, zl2, zl3, zl4, zl5, zl6, zl7, zl8, zl9, zl10, zl11, zl12, zl13, zl14, zl15, zl16, zl17, zl18, zl19, zl20, zl21, zl22, zl23, zl24, zl25, zl26, zl27, zl28, zl29, zl30, zl31, zl32, zl36, zl37, zl38, zl40, zl42, zl43, zl44, zl48, zl53, zl54, zl57, zl59, zl60, zl61, zl63, zl64, zl70, zl71, zl72, zl77, zl78, zl90, zl97, zl98, zl99, zl100, zl101, zl102, zl106, zl111, zl122, zl127, zl128, zl150, zl181, zl256, zl362, zl9999, zl999999, zl1000000]
  exact ⟨fun c => key 0 (by rw [if_neg (by omega)]), fun c => key 2 (by rw [if_pos (by omega)])⟩
set_option maxHeartbeats 4000000 in
set_option maxRecDepth 100000 in
theorem v_letsAs {k h n : Nat} (hk : k ≤ 5) (hh : h < 2147483648) (hn : n ≤ 8) {σ : St} {Q : Int32 → St → Prop} (hq : Q (nI (lA k h n)) σ) : V_X11_letsAs (nI k) (nI h) (nI n) σ Q := by
  unfold V_X11_letsAs B_X11_letsAs_e
  have fin : ∀ x, lA k h n = x → Q (nI x) σ := fun x e => e ▸ hq
  have key : ∀ L : Nat, L = (if h % 2 = 0 then 2 else 0) → R_X11_letsAs (nI k) (nI h) (nI n) Q 11 [nI L] [] σ := by
    intro L eL
    have hL : L ≤ 2 := by split at eL <;> omega
    refine i_X11_letsAs_11 _ _ _ _ _ _ ?_
    unfold B_X11_letsAs_11
    have key2 : ∀ M : Nat, M = L - 1 → R_X11_letsAs (nI k) (nI h) (nI n) Q 23 [nI L, nI M] [] σ := by
      intro M eM
      refine i_X11_letsAs_23 _ _ _ _ _ _ _ ?_
      unfold B_X11_letsAs_23
      simp (disch := omega) only [q_m1, q_m1n, q_m1a, q_eq, q_le, q_lt, nI_add, pk_sub, pk_mul, pk_div, pk_rem, nI_clamp, q_in, zl0, zl1, zl2, zl3, zl4, zl5, zl6, zl7, zl8, zl9, zl10, zl11, zl12, zl13, zl14, zl15, zl16, zl17, zl18, zl19, zl20, zl21, zl22, zl23, zl24, zl25, zl26, zl27, zl28, zl29, zl30, zl31, zl32, zl36, zl37, zl38, zl40, zl42, zl43, zl44, zl48, zl53, zl54, zl57, zl59, zl60, zl61, zl63, zl64, zl70, zl71, zl72, zl77, zl78, zl90, zl97, zl98, zl99, zl100, zl101, zl102, zl106, zl111, zl122, zl127, zl128, zl150, zl181, zl256, zl362, zl9999, zl999999, zl1000000]
      refine ⟨fun e => fin _ ?_, fun e1 => ⟨fun e => fin _ ?_, fun e2 => ⟨fun e => ⟨fun c => fin _ ?_, fun c => fin _ ?_⟩, fun e3 => ⟨fun e => ⟨fun c => fin _ ?_, fun c => fin _ ?_⟩, fun e4 => ⟨fun e => ⟨fun c => fin _ ?_, fun c => fin _ ?_⟩, fun e5 => fin _ ?_⟩⟩⟩⟩⟩
      all_goals (unfold lA; by_cases r : h % 2 = 0 <;> simp_all <;> omega)
    simp (disch := omega) only [q_m1, q_m1n, q_m1a, q_eq, q_le, q_lt, nI_add, pk_sub, pk_mul, pk_div, pk_rem, nI_clamp, q_in, zl0, zl1, zl2, zl3, zl4, zl5, zl6, zl7, zl8, zl9, zl10, zl11, zl12, zl13, zl14, zl15, zl16, zl17, zl18, zl19, zl20, zl21, zl22, zl23, zl24, zl25, zl26, zl27, zl28, zl29, zl30, zl31, zl32, zl36, zl37, zl38, zl40, zl42, zl43, zl44, zl48, zl53, zl54, zl57, zl59, zl60, zl61, zl63, zl64, zl70, zl71, zl72, zl77, zl78, zl90, zl97, zl98, zl99, zl100, zl101, zl102, zl106, zl111, zl122, zl127, zl128, zl150, zl181, zl256, zl362, zl9999, zl999999, zl1000000]
    refine ⟨fun c => key2 0 (by omega), fun c => (pk_sub (a := L) (b := 1) (by omega)) ▸ key2 (L - 1) rfl⟩
  simp (disch := omega) only [q_m1, q_m1n, q_m1a, q_eq, q_le, q_lt, nI_add, pk_sub, pk_mul, pk_div, pk_rem, nI_clamp, q_in, zl0, zl1, zl2, zl3, zl4, zl5, zl6, zl7, zl8, zl9, zl10, zl11, zl12, zl13, zl14, zl15, zl16, zl17, zl18, zl19, zl20, zl21, zl22, zl23, zl24, zl25, zl26, zl27, zl28, zl29, zl30, zl31, zl32, zl36, zl37, zl38, zl40, zl42, zl43, zl44, zl48, zl53, zl54, zl57, zl59, zl60, zl61, zl63, zl64, zl70, zl71, zl72, zl77, zl78, zl90, zl97, zl98, zl99, zl100, zl101, zl102, zl106, zl111, zl122, zl127, zl128, zl150, zl181, zl256, zl362, zl9999, zl999999, zl1000000]
  exact ⟨fun c => key 0 (by rw [if_neg (by omega)]), fun c => key 2 (by rw [if_pos (by omega)])⟩
/-! bits -/
theorem sm_l : ∀ n, n < 32 → ((nI n &&& 31).toBitVec.smod 32).toNat = n := by decide +kernel
theorem q_shr {m k : Nat} (hm : m < 2147483648) (hk : k < 32) : (nI m >>> (nI k &&& 31)) = nI (m / 2 ^ k) := pk_shrN hm _ k (sm_l k hk)
theorem q_bit {m k : Nat} (hm : m < 2147483648) (hk : k < 32) : (nI m >>> (nI k &&& 31)) &&& 1 = nI (m / 2 ^ k % 2) := by
  rw [q_shr hm hk, pk_andN (by have := Nat.div_le_self m (2 ^ k); omega) 1 (by decide)]
theorem q_shl {k : Nat} (hk : k < 31) : ((1 : Int32) <<< (nI k &&& 31)) = nI (2 ^ k) := by
  have h2 : 2 ^ k < 2 ^ 32 := Nat.pow_lt_pow_right (by omega) (by omega)
  have := pk_shlN (n := 1) (nI k &&& 31) k (sm_l k (by omega)) (by omega)
  rw [Nat.one_mul] at this
  exact this
theorem v_has {m k : Nat} (hm : m < 2147483648) (hk : k < 32) {σ : St} {Q : Int32 → St → Prop} (h1 : m / 2 ^ k % 2 = 1 → Q 1 σ) (h0 : m / 2 ^ k % 2 = 0 → Q 0 σ) : V_X11_has (nI m) (nI k) σ Q := by
  unfold V_X11_has B_X11_has_e
  rw [q_bit hm hk]
  have : m / 2 ^ k % 2 < 2 := Nat.mod_lt _ (by omega)
  simp (disch := omega) only [q_m1, q_m1n, q_m1a, q_eq, q_le, q_lt, nI_add, pk_sub, pk_mul, pk_div, pk_rem, nI_clamp, q_in, zl0, zl1, zl2, zl3, zl4, zl5, zl6, zl7, zl8, zl9, zl10, zl11, zl12, zl13, zl14, zl15, zl16, zl17, zl18, zl19, zl20, zl21, zl22, zl23, zl24, zl25, zl26, zl27, zl28, zl29, zl30, zl31, zl32, zl36, zl37, zl38, zl40, zl42, zl43, zl44, zl48, zl53, zl54, zl57, zl59, zl60, zl61, zl63, zl64, zl70, zl71, zl72, zl77, zl78, zl90, zl97, zl98, zl99, zl100, zl101, zl102, zl106, zl111, zl122, zl127, zl128, zl150, zl181, zl256, zl362, zl9999, zl999999, zl1000000]
  exact ⟨fun c => h0 (by omega), fun c => h1 c⟩
theorem v_shutBit {h0 : Nat} {m k : Nat} (hm : m < 2147483648) (hk : k < 32) {σ : St} {Q : Int32 → St → Prop} (e : σ h0 10 = nI m) (h : Q (nI (m / 2 ^ k % 2)) σ) : V_X8_shutBit h0 (nI k) σ Q := by
  unfold V_X8_shutBit B_X8_shutBit_e
  rw [e, q_bit hm hk]
  exact h
