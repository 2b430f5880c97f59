section O4c
variable {σ τ : St} {a1 a2 a3 a4 : Int32}
set_option maxHeartbeats 4000000 in
set_option maxRecDepth 100000 in
theorem m_begin {h n : Nat} {a : Nat → Nat} (hn : 101 ≤ n) (hn2 : n < 2147483648) {Q : St → Prop} (hq : ∀ row : Nat → Int32, (∀ i, i < 101 → row i = 0) → (∀ i, 101 ≤ i → row i = σ h i) → Q (us σ h row)) : V_X11_begin h n σ Q := by
  unfold V_X11_begin B_X11_begin_e
  have loop : ∀ d i (row : Nat → Int32), i + d = 101 → (∀ j, j < i → row j = 0) → (∀ j, 101 ≤ j → row j = σ h j) → R_X11_begin h n Q 2 [nI i] [] (us σ h row) := by
    intro d
    induction d with
    | zero =>
      intro i row hi hr hr2
      refine i_X11_begin_2 _ _ _ _ _ ?_
      unfold B_X11_begin_2
      exact ⟨fun _ => hq row (fun j hj => hr j (by omega)) hr2, fun c => absurd (by rw [show (101 : Int32) = nI 101 from rfl, q_le (by omega) (by omega)]; omega) c⟩
    | succ d ih =>
      intro i row hi hr hr2
      refine i_X11_begin_2 _ _ _ _ _ ?_
      unfold B_X11_begin_2
      simp (disch := omega) only [q_m1, q_m1n, q_m1a, q_eq, q_le, q_lt, nI_add, pk_sub, pk_mul, pk_div, pk_rem, nI_clamp, q_in, zl0, zl1, zl2, zl3, zl4, zl5, zl6, zl7, zl8, zl9, zl10, zl11, zl12, zl13, zl14, zl15, zl16, zl17, zl18, zl19, zl20, zl21, zl22, zl23, zl24, zl25, zl26, zl27, zl28, zl29, zl30, zl31, zl32, zl36, zl37, zl38, zl40, zl42, zl43, zl44, zl48, zl53, zl54, zl57, zl59, zl60, zl61, zl63, zl64, zl70, zl71, zl72, zl77, zl78, zl90, zl97, zl98, zl99, zl100, zl101, zl102, zl106, zl111, zl122, zl127, zl128, zl150, zl181, zl256, zl362, zl9999, zl999999, zl1000000]
      refine ⟨fun c => absurd c (by omega), fun _ => ⟨by omega, fun s1 f1 => ?_⟩⟩
      subst f1
      rw [us_us, us_same]
      refine ih (i + 1) _ (by omega) (fun j hj => ?_) (fun j hj => by rw [pk_un (by omega)]; exact hr2 j hj)
      unfold upd
      by_cases e : j = i
      · rw [if_pos e]; rfl
      · rw [if_neg e]; exact hr j (by omega)
  have := loop 101 0 (σ h) (by omega) (fun j hj => absurd hj (by omega)) (fun _ _ => rfl)
  rw [us_self] at this
  exact this
end O4c
