section CP
variable {σ : St} {h : Nat} {a : Nat → Nat}
theorem va_cpy0 {f g : Nat → Int32} {n j : Nat} (h : j < n) : va_cpy f g 0 0 n j = f j := by
  rw [pk_cpy_in (Nat.zero_le _) (by omega)]
  congr 1
  omega
set_option maxHeartbeats 4000000 in
set_option maxRecDepth 100000 in
theorem s_copy {h0 h1 : Nat} (H : StR σ h1 a) (h7 : a 0 ≤ 7) (h3 : a 1 ≤ 3) (hd : h0 + 8 < h1 ∨ h1 + 8 < h0) {Q : St → Prop} (hq : ∀ σ', StR σ' h0 a → Fr σ σ' h0 → Q σ') : V_X8_copy h0 h1 σ Q := by
  obtain ⟨r0, r1, r14, r15, rw, rk, rm, rs, rg, rb, rh⟩ := H
  unfold V_X8_copy B_X8_copy_e
  intro s1 e1 s2 e2 s3 e3 s4 e4 s5 e5 s6 e6 s7 e7 s8 e8 s9 e9 s10 e10 s11 e11
  subst e1; subst e2; subst e3; subst e4; subst e5; subst e6; subst e7; subst e8; subst e9; subst e10; subst e11
  refine hq _ ?_ (fun q hqq => ?_)
  · unfold StR
    simp (disch := omega) only [us_same, us_ne, pk_us, pk_un]
    refine ⟨r0, r1, r14, r15, fun i hi => ?_, fun g hg => ?_, fun g hg _ => ?_, fun g hg => ?_, fun k hk => ?_, fun k hk => ?_, fun s hs => ?_⟩
    · rw [va_cpy0 (by omega)]; exact rw i hi
    · rw [va_cpy0 (by omega)]; exact rk g hg
    · rw [va_cpy0 (by omega)]; exact rm g hg (by omega)
    · rw [va_cpy0 (by omega)]; exact rs g hg
    · rw [va_cpy0 (by omega)]; exact rg k hk
    · rw [va_cpy0 (by omega)]; exact rb k hk
    · rw [va_cpy0 (by omega)]; exact rh s hs
  · simp (disch := omega) only [us_same, us_ne]
set_option maxHeartbeats 4000000 in
set_option maxRecDepth 100000 in
theorem s_empty {a' : Nat → Nat} (e0 : a' 0 = 0) (e1 : a' 1 = 0) (e14 : a' 14 = 0) (e15 : a' 15 = 0) (ew : ∀ i, i < 6 → a' (16 + i) = 0) {Q : St → Prop} (hq : ∀ σ', StR σ' h a' → Fr σ σ' h → Q σ') : V_X8_empty h σ Q := by
  unfold V_X8_empty B_X8_empty_e
  have eb : ∀ s, bh a' s = 0 := fun s => bh_none (by omega) (fun k hk => absurd hk (by omega))
  have loop2 : ∀ d i (σ1 : St), i + d = 24 → (∀ j, j < 6 → σ1 (h + 1) j = 0) → (∀ j, j < i → σ1 (h + 7) j = 0) → Fr σ σ1 h → R_X8_empty h Q 23 [nI i] [] σ1 := by
    intro d
    induction d with
    | zero =>
      intro i σ1 hi hw hb hf
      refine i_X8_empty_23 _ _ _ _ ?_
      unfold B_X8_empty_23
      refine ⟨fun _ s1 f1 s2 f2 s3 f3 s4 f4 => ?_, fun c => absurd (by rw [show (23 : Int32) = nI 23 from rfl, q_lt (by omega) (by omega)]; omega) c⟩
      subst f1; subst f2; subst f3; subst f4
      refine hq _ ?_ (fun q hqq => ?_)
      · unfold StR
        simp (disch := omega) only [us_same, us_ne, pk_us, pk_un]
        refine ⟨by rw [e0]; rfl, by rw [e1]; rfl, by rw [e14]; rfl, by rw [e15]; rfl, fun j hj => by rw [hw j hj, ew j hj]; rfl, fun g hg => absurd hg (by omega), fun g hg => absurd hg (by omega), fun g hg => absurd hg (by omega), fun g hg => absurd hg (by omega), fun g hg => absurd hg (by omega), fun s hs => by rw [hb s (by omega), eb]; rfl⟩
      · simp (disch := omega) only [us_same, us_ne]
        exact hf q hqq
    | succ d ih =>
      intro i σ1 hi hw hb hf
      refine i_X8_empty_23 _ _ _ _ ?_
      unfold B_X8_empty_23
      simp (disch := omega) only [q_m1, q_m1n, q_m1a, q_eq, q_le, q_lt, nI_add, pk_sub, pk_mul, pk_div, pk_rem, nI_clamp, q_in, zl0, zl1, zl2, zl3, zl4, zl5, zl6, zl7, zl8, zl9, zl10, zl11, zl12, zl13, zl14, zl15, zl16, zl17, zl18, zl19, zl20, zl21, zl22, zl23, zl24, zl25, zl26, zl27, zl28, zl29, zl30, zl31, zl32, zl36, zl37, zl38, zl40, zl42, zl43, zl44, zl48, zl53, zl54, zl57, zl59, zl60, zl61, zl63, zl64, zl70, zl71, zl72, zl77, zl78, zl90, zl97, zl98, zl99, zl100, zl101, zl102, zl106, zl111, zl122, zl127, zl128, zl150, zl181, zl256, zl362, zl9999, zl999999, zl1000000]
      refine ⟨fun c => absurd c (by omega), fun _ => ⟨by omega, fun s1 f1 => ?_⟩⟩
      subst f1
      refine ih (i + 1) _ (by omega) (fun j hj => by rw [us_ne (by omega)]; exact hw j hj) (fun j hj => ?_) (fun q hqq => by rw [us_ne (by omega)]; exact hf q hqq)
      rw [us_same]
      unfold upd
      by_cases e : j = i
      · rw [if_pos e]; rfl
      · rw [if_neg e]; exact hb j (by omega)
  have loop1 : ∀ d i (σ1 : St), i + d = 6 → (∀ j, j < i → σ1 (h + 1) j = 0) → Fr σ σ1 h → R_X8_empty h Q 2 [nI i] [] σ1 := by
    intro d
    induction d with
    | zero =>
      intro i σ1 hi hw hf
      refine i_X8_empty_2 _ _ _ _ ?_
      unfold B_X8_empty_2
      refine ⟨fun _ => loop2 24 0 σ1 (by omega) (fun j hj => hw j (by omega)) (fun j hj => absurd hj (by omega)) hf, fun c => absurd (by rw [show (6 : Int32) = nI 6 from rfl, q_le (by omega) (by omega)]; omega) c⟩
    | succ d ih =>
      intro i σ1 hi hw hf
      refine i_X8_empty_2 _ _ _ _ ?_
      unfold B_X8_empty_2
      simp (disch := omega) only [q_m1, q_m1n, q_m1a, q_eq, q_le, q_lt, nI_add, pk_sub, pk_mul, pk_div, pk_rem, nI_clamp, q_in, zl0, zl1, zl2, zl3, zl4, zl5, zl6, zl7, zl8, zl9, zl10, zl11, zl12, zl13, zl14, zl15, zl16, zl17, zl18, zl19, zl20, zl21, zl22, zl23, zl24, zl25, zl26, zl27, zl28, zl29, zl30, zl31, zl32, zl36, zl37, zl38, zl40, zl42, zl43, zl44, zl48, zl53, zl54, zl57, zl59, zl60, zl61, zl63, zl64, zl70, zl71, zl72, zl77, zl78, zl90, zl97, zl98, zl99, zl100, zl101, zl102, zl106, zl111, zl122, zl127, zl128, zl150, zl181, zl256, zl362, zl9999, zl999999, zl1000000]
      refine ⟨fun c => absurd c (by omega), fun _ => ⟨by omega, fun s1 f1 => ?_⟩⟩
      subst f1
      refine ih (i + 1) _ (by omega) (fun j hj => ?_) (fun q hqq => by rw [us_ne (by omega)]; exact hf q hqq)
      rw [us_same]
      unfold upd
      by_cases e : j = i
      · rw [if_pos e]; rfl
      · rw [if_neg e]; exact hw j (by omega)
  exact loop1 6 0 σ (by omega) (fun j hj => absurd hj (by omega)) (fun _ _ => rfl)
set_option maxHeartbeats 4000000 in
set_option maxRecDepth 100000 in
theorem m_layHand (hR : RowN σ 1 181 a) {Q : St → Prop} (hq : ∀ row : Nat → Int32, (∀ i, i < 43 → row i = nI (a i)) → Q (us σ 5 row)) : V_X11_layHand σ Q := by
  unfold V_X11_layHand B_X11_layHand_e
  have loop : ∀ d i (row : Nat → Int32), i + d = 43 → (∀ j, j < i → row j = nI (a j)) → R_X11_layHand Q 2 [nI i] [] (us σ 5 row) := by
    intro d
    induction d with
    | zero =>
      intro i row hi hr
      refine i_X11_layHand_2 _ _ _ ?_
      unfold B_X11_layHand_2
      exact ⟨fun _ => hq row (fun j hj => hr j (by omega)), fun c => absurd (by rw [show (43 : Int32) = nI 43 from rfl, q_le (by omega) (by omega)]; omega) c⟩
    | succ d ih =>
      intro i row hi hr
      refine i_X11_layHand_2 _ _ _ ?_
      unfold B_X11_layHand_2
      simp (disch := omega) only [q_m1, q_m1n, q_m1a, q_eq, q_le, q_lt, nI_add, pk_sub, pk_mul, pk_div, pk_rem, nI_clamp, q_in, zl0, zl1, zl2, zl3, zl4, zl5, zl6, zl7, zl8, zl9, zl10, zl11, zl12, zl13, zl14, zl15, zl16, zl17, zl18, zl19, zl20, zl21, zl22, zl23, zl24, zl25, zl26, zl27, zl28, zl29, zl30, zl31, zl32, zl36, zl37, zl38, zl40, zl42, zl43, zl44, zl48, zl53, zl54, zl57, zl59, zl60, zl61, zl63, zl64, zl70, zl71, zl72, zl77, zl78, zl90, zl97, zl98, zl99, zl100, zl101, zl102, zl106, zl111, zl122, zl127, zl128, zl150, zl181, zl256, zl362, zl9999, zl999999, zl1000000]
      refine ⟨fun c => absurd c (by omega), fun _ => ⟨by omega, by omega, fun s1 f1 => ?_⟩⟩
      subst f1
      rw [us_us, us_ne (j := 1) (by omega), us_same]
      refine ih (i + 1) _ (by omega) (fun j hj => ?_)
      unfold upd
      by_cases e : j = i
      · rw [if_pos e, e]; exact hR i (by omega)
      · rw [if_neg e]; exact hr j (by omega)
  have := loop 43 0 (σ 5) (by omega) (fun j hj => absurd hj (by omega))
  rw [us_self] at this
  exact this
set_option maxHeartbeats 4000000 in
set_option maxRecDepth 100000 in
theorem m_goAhead (hR : RowN σ 5 43 a) (hB : Bd a) {m : Nat} (hm : a 15 + m < 1000000) {Q : St → Prop} (hq : ∀ row : Nat → Int32, (∀ i, i < 43 → row i = nI (it m a i)) → Q (us σ 5 row)) : V_X11_goAhead (nI m) σ Q := by
  unfold V_X11_goAhead B_X11_goAhead_e
  have loop : ∀ d i (row : Nat → Int32), i + d = m → (∀ j, j < 43 → row j = nI (it i a j)) → R_X11_goAhead (nI m) Q 2 [nI i] [] (us σ 5 row) := by
    intro d
    induction d with
    | zero =>
      intro i row hi hr
      refine i_X11_goAhead_2 _ _ _ _ ?_
      unfold B_X11_goAhead_2
      rw [(by omega : i = m)] at *
      exact ⟨fun _ => hq row hr, fun c => absurd (by rw [q_le (by omega) (by omega)]; omega) c⟩
    | succ d ih =>
      intro i row hi hr
      refine i_X11_goAhead_2 _ _ _ _ ?_
      unfold B_X11_goAhead_2
      refine ⟨fun c => absurd (by rw [q_le (by omega) (by omega)] at c; exact c) (by omega), fun _ => m_goHour (a := it i a) (fun j hj => by rw [us_same]; exact hr j hj) (by omega) (by omega) (Bd_it hB i (by omega)) (fun row' hr' => ?_)⟩
      rw [us_us, nI_1]
      exact ih (i + 1) row' (by omega) (fun j hj => by rw [hr' j hj, it_succ])
  have := loop m 0 (σ 5) (by omega) hR
  rw [us_self] at this
  exact this
end CP
