/-! what may be undone, so many times -/
def UD : Nat → (Nat → Nat) → (Nat → Nat) → Prop
  | 0, a, b => E4 a b
  | d + 1, a, b => 0 < a 5 ∧ UD d (ub a) b
def UT (d : Nat) (a b : Nat → Nat) : Prop := E4 a b ∧ d ≤ a 5 ∧ d ≤ b 5 ∧ ∀ j, j < d → ∀ k, k < 10 → a (101 + 10 * (a 5 - 1 - j) + k) = b (101 + 10 * (b 5 - 1 - j) + k)
theorem UT_ub {d : Nat} {a b : Nat → Nat} (h : UT (d + 1) a b) : UT d (ub a) (ub b) := by
  obtain ⟨h1, h2, h3, h4⟩ := h
  refine ⟨fun i hi h5 => ?_, by rw [ub_5]; omega, by rw [ub_5]; omega, fun j hj k hk => ?_⟩
  · by_cases c : 6 ≤ i ∧ i < 16
    · have := h4 0 (by omega) (i - 6) (by omega)
      rw [(by omega : i = 6 + (i - 6)), ub_k (by omega), ub_k (by omega)]
      exact this
    · rw [ub_o h5 c, ub_o h5 c]
      exact h1 i hi h5
  · have := h4 (j + 1) (by omega) k hk
    rw [ub_5, ub_5, ub_o (by omega) (by omega), ub_o (by omega) (by omega), (by omega : a 5 - 1 - 1 - j = a 5 - 1 - (j + 1)), (by omega : b 5 - 1 - 1 - j = b 5 - 1 - (j + 1))]
    exact this
theorem UT_UD {c : Nat → Nat} : ∀ d a b, UT d a b → UD d b c → UD d a c
  | 0, a, b => fun h1 h2 => h1.1.tr h2
  | d + 1, a, b => fun h1 h2 => ⟨by have := h1.2.1; omega, UT_UD d (ub a) (ub b) (UT_ub h1) h2.2⟩
theorem UD_len {c : Nat → Nat} : ∀ d a, UD d a c → d ≤ a 5
  | 0, a => fun _ => Nat.zero_le _
  | d + 1, a => fun h => by
    have h1 := UD_len d (ub a) h.2
    have h2 := h.1
    rw [ub_5] at h1
    omega
theorem UD_op {d : Nat} {A X c : Nat → Nat} (h : UD d A c) (hd : d ≤ 7) (h8 : A 5 ≤ 8) (hX5 : X 5 = svn A) (hp : ∀ i, 101 ≤ i → X i = sv A i) (ho : ∀ i, i < 43 → i ≠ 5 → ¬ (6 ≤ i ∧ i < 16) → X i = A i) : UD (d + 1) X c := by
  have hl := UD_len d A h
  have hs : svn A = if A 5 = 8 then 8 else A 5 + 1 := rfl
  have h1 : 1 ≤ svn A := by rw [hs]; split <;> omega
  refine ⟨by omega, UT_UD d (ub X) A ⟨fun i hi h5 => ?_, ?_, hl, fun j hj k hk => ?_⟩ h⟩
  · by_cases e : 6 ≤ i ∧ i < 16
    · rw [(by omega : i = 6 + (i - 6)), ub_k (by omega), hX5, hp _ (by omega)]
      exact sv_new (by omega)
    · rw [ub_o h5 e]
      exact ho i hi h5 e
  · rw [ub_5, hX5, hs]
    split <;> omega
  · have hr : svn A - 1 - 1 - j < svn A - 1 := by
      rw [hs]
      split <;> omega
    rw [ub_5, ub_o (by omega) (by omega), hX5, hp _ (by omega), sv_old h8 hr hk]
    congr 1
    rw [hs]
    split <;> omega
theorem UD_hs {d m : Nat} {A c : Nat → Nat} (h : UD d A c) (hd : d ≤ 7) (h8 : A 5 ≤ 8) (h0 : A 0 ≤ 7) : UD (d + 1) (hsA A m) c := by
  have e0 : sv A 0 = A 0 := sv_lo (by omega) (by omega)
  refine UD_op h hd h8 ?_ (fun i hi => ?_) (fun i hi h5 h6 => ?_)
  · unfold hsA
    rw [it_tl (by omega) (by omega), sv_5]
  · unfold hsA
    rw [it_tl (by omega) (by omega)]
  · unfold hsA
    rw [it_tl (by omega) (by omega), sv_lo (by omega) h5]
theorem UD_tn {d k : Nat} {A c : Nat → Nat} (h : UD d A c) (hd : d ≤ 7) (h8 : A 5 ≤ 8) : UD (d + 1) (tn A k) c := by
  refine UD_op h hd h8 ?_ (fun i hi => ?_) (fun i hi h5 h6 => ?_)
  · unfold tn
    rw [upN_n (by omega), sv_5]
  · unfold tn
    rw [upN_n (by omega)]
  · unfold tn
    rw [upN_n (by omega), sv_lo (by omega) h5]
theorem hs_E4 {m : Nat} {A : Nat → Nat} (h0 : A 0 ≤ 7) (h15 : A 15 + m ≤ 9999) : E4 (hsA A m) (it m A) := by
  have e15 : sv A 15 = A 15 := sv_lo (by omega) (by omega)
  have e0 : sv A 0 = A 0 := sv_lo (by omega) (by omega)
  unfold hsA
  rw [e15, (by omega : min m (9999 - A 15) = m)]
  exact E4_it E4_sv (by omega) m
