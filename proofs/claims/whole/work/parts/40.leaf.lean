/-! numbers: from Int32 to Nat -/
theorem lit0 : (0 : Int32) = nI 0 := rfl
theorem lit1 : (1 : Int32) = nI 1 := rfl
theorem lit2 : (2 : Int32) = nI 2 := rfl
theorem lit3 : (3 : Int32) = nI 3 := rfl
theorem lit4 : (4 : Int32) = nI 4 := rfl
theorem lit5 : (5 : Int32) = nI 5 := rfl
theorem lit6 : (6 : Int32) = nI 6 := rfl
theorem lit7 : (7 : Int32) = nI 7 := rfl
theorem lit8 : (8 : Int32) = nI 8 := rfl
theorem lit9 : (9 : Int32) = nI 9 := rfl
theorem lit10 : (10 : Int32) = nI 10 := rfl
theorem lit11 : (11 : Int32) = nI 11 := rfl
theorem lit12 : (12 : Int32) = nI 12 := rfl
theorem lit13 : (13 : Int32) = nI 13 := rfl
theorem lit14 : (14 : Int32) = nI 14 := rfl
theorem lit15 : (15 : Int32) = nI 15 := rfl
theorem lit16 : (16 : Int32) = nI 16 := rfl
theorem lit17 : (17 : Int32) = nI 17 := rfl
theorem lit18 : (18 : Int32) = nI 18 := rfl
theorem lit19 : (19 : Int32) = nI 19 := rfl
theorem lit20 : (20 : Int32) = nI 20 := rfl
theorem lit21 : (21 : Int32) = nI 21 := rfl
theorem lit22 : (22 : Int32) = nI 22 := rfl
theorem lit23 : (23 : Int32) = nI 23 := rfl
theorem lit24 : (24 : Int32) = nI 24 := rfl
theorem lit30 : (30 : Int32) = nI 30 := rfl
theorem lit31 : (31 : Int32) = nI 31 := rfl
theorem lit32 : (32 : Int32) = nI 32 := rfl
theorem lit43 : (43 : Int32) = nI 43 := rfl
theorem lit53 : (53 : Int32) = nI 53 := rfl
theorem lit60 : (60 : Int32) = nI 60 := rfl
theorem lit63 : (63 : Int32) = nI 63 := rfl
theorem lit72 : (72 : Int32) = nI 72 := rfl
theorem lit77 : (77 : Int32) = nI 77 := rfl
theorem lit97 : (97 : Int32) = nI 97 := rfl
theorem lit99 : (99 : Int32) = nI 99 := rfl
theorem lit100 : (100 : Int32) = nI 100 := rfl
theorem lit101 : (101 : Int32) = nI 101 := rfl
theorem lit122 : (122 : Int32) = nI 122 := rfl
theorem lit127 : (127 : Int32) = nI 127 := rfl
theorem lit128 : (128 : Int32) = nI 128 := rfl
theorem lit150 : (150 : Int32) = nI 150 := rfl
theorem lit181 : (181 : Int32) = nI 181 := rfl
theorem lit256 : (256 : Int32) = nI 256 := rfl
theorem lit362 : (362 : Int32) = nI 362 := rfl
theorem lit9999 : (9999 : Int32) = nI 9999 := rfl
theorem lit20000 : (20000 : Int32) = nI 20000 := rfl
theorem lit999999 : (999999 : Int32) = nI 999999 := rfl
theorem lit1000000 : (1000000 : Int32) = nI 1000000 := rfl
theorem lit48 : (48 : Int32) = nI 48 := rfl
theorem lit57 : (57 : Int32) = nI 57 := rfl
theorem lit59 : (59 : Int32) = nI 59 := rfl
theorem ltL0 : (0 : Int64) = lN 0 := rfl
theorem ltL1 : (1 : Int64) = lN 1 := rfl
theorem ltL2 : (2 : Int64) = lN 2 := rfl
theorem ltL3 : (3 : Int64) = lN 3 := rfl
theorem ltL4 : (4 : Int64) = lN 4 := rfl
theorem ltL5 : (5 : Int64) = lN 5 := rfl
theorem ltL6 : (6 : Int64) = lN 6 := rfl
theorem ltL7 : (7 : Int64) = lN 7 := rfl
theorem ltL8 : (8 : Int64) = lN 8 := rfl
theorem ltL9 : (9 : Int64) = lN 9 := rfl
theorem ltL10 : (10 : Int64) = lN 10 := rfl
theorem ltL11 : (11 : Int64) = lN 11 := rfl
theorem ltL12 : (12 : Int64) = lN 12 := rfl
theorem ltL13 : (13 : Int64) = lN 13 := rfl
theorem ltL14 : (14 : Int64) = lN 14 := rfl
theorem ltL15 : (15 : Int64) = lN 15 := rfl
theorem ltL16 : (16 : Int64) = lN 16 := rfl
theorem ltL17 : (17 : Int64) = lN 17 := rfl
theorem ltL18 : (18 : Int64) = lN 18 := rfl
theorem ltL19 : (19 : Int64) = lN 19 := rfl
theorem ltL20 : (20 : Int64) = lN 20 := rfl
theorem ltL21 : (21 : Int64) = lN 21 := rfl
theorem ltL22 : (22 : Int64) = lN 22 := rfl
theorem ltL23 : (23 : Int64) = lN 23 := rfl
theorem ltL24 : (24 : Int64) = lN 24 := rfl
theorem ltL30 : (30 : Int64) = lN 30 := rfl
theorem ltL31 : (31 : Int64) = lN 31 := rfl
theorem ltL32 : (32 : Int64) = lN 32 := rfl
theorem ltL43 : (43 : Int64) = lN 43 := rfl
theorem ltL53 : (53 : Int64) = lN 53 := rfl
theorem ltL60 : (60 : Int64) = lN 60 := rfl
theorem ltL63 : (63 : Int64) = lN 63 := rfl
theorem ltL72 : (72 : Int64) = lN 72 := rfl
theorem ltL77 : (77 : Int64) = lN 77 := rfl
theorem ltL97 : (97 : Int64) = lN 97 := rfl
theorem ltL99 : (99 : Int64) = lN 99 := rfl
theorem ltL100 : (100 : Int64) = lN 100 := rfl
theorem ltL101 : (101 : Int64) = lN 101 := rfl
theorem ltL122 : (122 : Int64) = lN 122 := rfl
theorem ltL127 : (127 : Int64) = lN 127 := rfl
theorem ltL128 : (128 : Int64) = lN 128 := rfl
theorem ltL150 : (150 : Int64) = lN 150 := rfl
theorem ltL181 : (181 : Int64) = lN 181 := rfl
theorem ltL256 : (256 : Int64) = lN 256 := rfl
theorem ltL362 : (362 : Int64) = lN 362 := rfl
theorem ltL9999 : (9999 : Int64) = lN 9999 := rfl
theorem ltL20000 : (20000 : Int64) = lN 20000 := rfl
theorem ltL999999 : (999999 : Int64) = lN 999999 := rfl
theorem ltL1000000 : (1000000 : Int64) = lN 1000000 := rfl
theorem ltL48 : (48 : Int64) = lN 48 := rfl
theorem ltL57 : (57 : Int64) = lN 57 := rfl
theorem ltL59 : (59 : Int64) = lN 59 := rfl

theorem q_eq {a b : Nat} (ha : a < 2147483648) (hb : b < 2147483648) : (nI a = nI b) = (a = b) := propext (nI_eq ha hb)
theorem q_le {a b : Nat} (ha : a < 2147483648) (hb : b < 2147483648) : (nI a ≤ nI b) = (a ≤ b) := propext (nI_leI ha hb)
theorem q_lt {a b : Nat} (ha : a < 2147483648) (hb : b < 2147483648) : (nI a < nI b) = (a < b) := propext (nI_ltI ha hb)
theorem q_in {a n : Nat} (ha : a < 2147483648) (hn : n < 2147483648) : vp_in (nI a) n = (a < n) := propext ⟨fun h => by
  have h1 := (vp_in_iff.mp h).2
  rw [nI_toInt ha] at h1
  omega, fun h => vp_in_nI h hn⟩
/-- how far a glove of a kind goes -/
def gA (k h w : Nat) : Nat :=
  if k = 1 then (if w = 0 then 2 else 1) else if k = 2 then (if 3 ≤ w then 0 else 1)
  else if k = 3 then (if h % 2 = 0 then 2 * (if w = 0 then 2 else 1) else (if w = 0 then 2 else 1))
  else if k = 4 then (if h % 5 = 0 then 4 else 1)
  else if k = 5 then (if h % 2 = 0 then 2 * (if w = 0 then 2 else 1) else (if w = 0 then 2 else 1)) - w else 1
/-- how many a crossing of a kind lets over -/
def lA (k h n : Nat) : Nat :=
  if k = 1 then (if h % 2 = 0 then 2 else 0) - 1 else if k = 2 then (if h % 2 = 0 then 2 else 0) + n / 2
  else if k = 3 then ((if h % 2 = 0 then 2 else 0) - 1) + (if 4 ≤ n then 1 else 0)
  else if k = 4 then (if 6 ≤ h % 8 then n else (if h % 2 = 0 then 2 else 0))
  else if k = 5 then (if h % 3 = 0 then 0 else (if h % 2 = 0 then 2 else 0) + n / 2) else (if h % 2 = 0 then 2 else 0)
theorem gA_le {k h w : Nat} : gA k h w ≤ 4 := by
  unfold gA
  repeat' split
  all_goals omega
theorem lA_le {k h n : Nat} (hn : n ≤ 8) : lA k h n ≤ 8 := by
  unfold lA
  repeat' split
  all_goals omega
/-- within, by whole numbers -/
def okI (x : Int32) (lo hi : Int) : Prop := lo ≤ x.toInt ∧ x.toInt ≤ hi
theorem okI_nI {j n : Nat} (hj : j < 2147483648) : okI (nI j) 0 n ↔ j ≤ n := by
  unfold okI
  rw [nI_toInt hj]
  omega
theorem okI_ex {x : Int32} {a b : Nat} (h : okI x a b) : ∃ j : Nat, a ≤ j ∧ j ≤ b ∧ x = nI j := by
  refine ⟨x.toInt.toNat, ?_, ?_, ?_⟩
  · have := h.1; omega
  · have := h.2; omega
  · apply Int32.toInt_inj.mp
    have h1 := h.1
    have h2 : x.toInt < 2147483648 := Int32.toInt_lt x
    rw [nI_toInt (by omega)]
    omega
theorem v_within {x lo hi : Int32} {σ : St} {Q : Int32 → St → Prop} (h1 : okI x lo.toInt hi.toInt → Q 1 σ) (h0 : ¬ okI x lo.toInt hi.toInt → Q 0 σ) : V_X10_within x lo hi σ Q := by
  unfold V_X10_within B_X10_within_e
  refine ⟨fun c => h0 (fun h => ?_), fun c => ⟨fun d => h0 (fun h => ?_), fun d => h1 ⟨?_, ?_⟩⟩⟩
  · have := Int32.lt_iff_toInt_lt.mp c
    have := h.1
    omega
  · have := Int32.lt_iff_toInt_lt.mp d
    have := h.2
    omega
  · exact Int32.le_iff_toInt_le.mp (Int32.not_lt.mp c)
  · exact Int32.le_iff_toInt_le.mp (Int32.not_lt.mp d)
theorem lg_lt0 {x y : Int64} : lg_cmp x y < 0 ↔ x.toInt < y.toInt := by
  unfold lg_cmp
  by_cases h : x > y
  · rw [if_pos h]
    have := Int64.lt_iff_toInt_lt.mp h
    exact ⟨fun q => absurd q (by decide), fun q => absurd q (by omega)⟩
  · rw [if_neg h]
    have h2 := Int64.le_iff_toInt_le.mp (Int64.not_lt.mp h)
    by_cases e : x = y
    · rw [if_pos e]; subst e
      exact ⟨fun q => absurd q (by decide), fun q => absurd q (by omega)⟩
    · rw [if_neg e]
      refine ⟨fun _ => ?_, fun _ => by decide⟩
      have : x.toInt ≠ y.toInt := fun q => e (Int64.toInt_inj.mp q)
      omega
theorem lg_gt0 {x y : Int64} : 0 < lg_cmp x y ↔ y.toInt < x.toInt := by
  unfold lg_cmp
  by_cases h : x > y
  · rw [if_pos h]
    exact ⟨fun _ => Int64.lt_iff_toInt_lt.mp h, fun _ => by decide⟩
  · rw [if_neg h]
    have h2 := Int64.le_iff_toInt_le.mp (Int64.not_lt.mp h)
    by_cases e : x = y
    · rw [if_pos e]
      exact ⟨fun q => absurd q (by decide), fun q => absurd q (by omega)⟩
    · rw [if_neg e]
      exact ⟨fun q => absurd q (by decide), fun q => absurd q (by omega)⟩
theorem v_in {x : Int32} {lo hi : Int64} {σ : St} {Q : Int32 → St → Prop} (h1 : okI x lo.toInt hi.toInt → Q 1 σ) (h0 : ¬ okI x lo.toInt hi.toInt → Q 0 σ) : V_X11_in x.toInt64 lo hi σ Q := by
  have e : x.toInt64.toInt = x.toInt := Int32.toInt_toInt64 x
  unfold V_X11_in B_X11_in_e okI at *
  rw [lg_lt0, lg_gt0, e]
  exact ⟨fun c => h0 (fun h => by omega), fun c => ⟨fun d => h0 (fun h => by omega), fun d => h1 (by omega)⟩⟩

theorem v_within1 {x lo hi : Int32} {σ : St} {Q : Int32 → St → Prop} (h : okI x lo.toInt hi.toInt) (q : Q 1 σ) : V_X10_within x lo hi σ Q := v_within (fun _ => q) (fun n => absurd h n)
theorem v_within0 {x lo hi : Int32} {σ : St} {Q : Int32 → St → Prop} (h : ¬ okI x lo.toInt hi.toInt) (q : Q 0 σ) : V_X10_within x lo hi σ Q := v_within (fun n => absurd n h) (fun _ => q)
theorem v_in1 {x : Int32} {lo hi : Int64} {σ : St} {Q : Int32 → St → Prop} (h : okI x lo.toInt hi.toInt) (q : Q 1 σ) : V_X11_in x.toInt64 lo hi σ Q := v_in (fun _ => q) (fun n => absurd h n)
theorem v_in0 {x : Int32} {lo hi : Int64} {σ : St} {Q : Int32 → St → Prop} (h : ¬ okI x lo.toInt hi.toInt) (q : Q 0 σ) : V_X11_in x.toInt64 lo hi σ Q := v_in (fun n => absurd n h) (fun _ => q)
set_option maxHeartbeats 4000000 in
set_option maxRecDepth 100000 in
theorem v_spikesGone {k h w : Nat} (hk : k ≤ 5) (hh : h < 2147483648) (hw : w ≤ 4) {σ : St} {Q : Int32 → St → Prop} (hq : Q (nI (gA k h w)) σ) : V_X1_spikesGone (nI k) (nI h) (nI w) σ Q := by
  unfold V_X1_spikesGone B_X1_spikesGone_e
  have key : ∀ L : Nat, L = (if w = 0 then 2 else 1) → R_X1_spikesGone (nI k) (nI h) (nI w) Q 13 [nI 1, nI L] [] σ := by
    intro L eL
    have hL : L ≤ 2 := by split at eL <;> omega
    refine i_X1_spikesGone_13 _ _ _ _ _ _ _ ?_
    unfold B_X1_spikesGone_13
    have key2 : ∀ M : Nat, M = (if h % 2 = 0 then 2 * L else L) → R_X1_spikesGone (nI k) (nI h) (nI w) Q 30 [nI 1, nI L, nI M] [] σ := by
      intro M eM
      have hM : M ≤ 4 := by split at eM <;> omega
      refine i_X1_spikesGone_30 _ _ _ _ _ _ _ _ ?_
      unfold B_X1_spikesGone_30
      have fin : ∀ n, gA k h w = n → Q (nI n) σ := fun n e => e ▸ hq
      simp (disch := omega) only [q_eq, q_le, q_lt, nI_add, pk_sub, pk_mul, pk_div, pk_rem, nI_clamp, q_in, lit0, lit1, lit2, lit3, lit4, lit5, lit6, lit7, lit8, lit9, lit10, lit11, lit12, lit13, lit14, lit15, lit16, lit17, lit18, lit19, lit20, lit21, lit22, lit23, lit24, lit30, lit31, lit32, lit43, lit53, lit60, lit63, lit72, lit77, lit97, lit99, lit100, lit101, lit122, lit127, lit128, lit150, lit181, lit256, lit362, lit9999, lit20000, lit999999, lit1000000, lit48, lit57, lit59]
      refine ⟨fun e => fin _ ?_, fun e1 => ⟨fun e => ⟨fun c => fin _ ?_, fun c => fin _ ?_⟩, fun e2 => ⟨fun e => fin _ ?_, fun e3 => ⟨fun e => ⟨fun c => fin _ ?_, fun c => fin _ ?_⟩, fun e4 => ⟨fun e => ⟨fun c => fin _ ?_, fun c => ?_⟩, fun e5 => fin _ ?_⟩⟩⟩⟩⟩
      case refine_9 => 
        rw [pk_sub (by omega)]
        refine fin _ ?_
        simp [gA, e, eL, eM]
      all_goals (simp [gA, *]; try omega)
    simp (disch := omega) only [q_eq, q_le, q_lt, nI_add, pk_sub, pk_mul, pk_div, pk_rem, nI_clamp, q_in, lit0, lit1, lit2, lit3, lit4, lit5, lit6, lit7, lit8, lit9, lit10, lit11, lit12, lit13, lit14, lit15, lit16, lit17, lit18, lit19, lit20, lit21, lit22, lit23, lit24, lit30, lit31, lit32, lit43, lit53, lit60, lit63, lit72, lit77, lit97, lit99, lit100, lit101, lit122, lit127, lit128, lit150, lit181, lit256, lit362, lit9999, lit20000, lit999999, lit1000000, lit48, lit57, lit59]
    exact ⟨fun c => key2 L (by rw [if_neg c]), fun c => key2 (2 * L) (by rw [if_pos c])⟩
  simp (disch := omega) only [q_eq, q_le, q_lt, nI_add, pk_sub, pk_mul, pk_div, pk_rem, nI_clamp, q_in, lit0, lit1, lit2, lit3, lit4, lit5, lit6, lit7, lit8, lit9, lit10, lit11, lit12, lit13, lit14, lit15, lit16, lit17, lit18, lit19, lit20, lit21, lit22, lit23, lit24, lit30, lit31, lit32, lit43, lit53, lit60, lit63, lit72, lit77, lit97, lit99, lit100, lit101, lit122, lit127, lit128, lit150, lit181, lit256, lit362, lit9999, lit20000, lit999999, lit1000000, lit48, lit57, lit59]
  exact ⟨fun c => key 1 (by rw [if_neg c]), fun c => key 2 (by rw [if_pos c])⟩
