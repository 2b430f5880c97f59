section P4
variable {L : Nat} {xs : Nat → Int32} {A R : Nat → Nat} {ρ : Nat → Nat → Int32}
set_option maxHeartbeats 4000000 in
set_option maxRecDepth 100000 in
theorem z_1570 {s : St} {A' : Nat → Nat} {t : Int32} (C : CT L A R ρ) (H : LV s A' A 1 ρ) : R_L_law L xs 1570 [nI (A 0), nI (A 1), nI (A 15), nI (oA A), nI (wA A), nI (sA' A), t, t] [] s := by
  refine i_L_law_1570 _ ?_
  unfold B_L_law_1570
  exact fr_f rfl (l_from H (fun s1 H1 => br_t rfl (z_1584 C H1 E4.rf)))
set_option maxHeartbeats 4000000 in
set_option maxRecDepth 100000 in
theorem z_1506 {s : St} {A' : Nat → Nat} {c g m M p : Nat} (C : CT L A R ρ) (H : LV s A' A 1 ρ) (E : E4 A' A) (h6 : A 0 < 7) (hc : c ≤ 5) (hg : g < A 0) (hm : m ≤ 30) (hp : p < 23) (hM : M < 2 ^ 23) (hb : ∀ j, M.testBit j = true ↔ j < 23 ∧ it m (ag A' c 1 j) (6 + A' 0) = it m (ag A' c 1 j) (6 + g)) : R_L_law L xs 1506 [nI (A 0), nI (A 1), nI (A 15), nI (oA A), nI (wA A), nI (sA' A), nI c, nI g, nI m, nI M, nI p] [] s := by
  refine i_L_law_1506 _ ?_
  unfold B_L_law_1506
  have hw := H.wf
  have h7 := hw.2.1
  have h15 := C.2.2.2.2.1
  have e0 : A' 0 = A 0 := E 0 (by omega) (by omega)
  have e15 : A' 15 = A 15 := E 15 (by omega) (by omega)
  have e23 : (2 : Nat) ^ 23 = 8388608 := by decide
  rw [e23] at hM
  refine br_f (by rw [show (0 : Int32) = nI 0 from rfl, q_lt (by omega) (by omega)]; omega) (br_f (by rw [show (8388608 : Int32) = nI 8388608 from rfl, q_le (by omega) (by omega)]; omega) ?_)
  refine l_glove (m := 1) H hc (by omega) (by omega) (by omega) (by omega) (fun s1 H1 => fr_f (by rw [e0]) ?_)
  have E5 : E4 (upN (ag A' c 1 p) 5 0) (ag A' c 1 p) := E4_5
  have z0 : upN (ag A' c 1 p) 5 0 0 = A' 0 + 1 := by rw [upN_n (by omega), ag_0]
  have z15 : upN (ag A' c 1 p) 5 0 15 = A' 15 := by rw [upN_n (by omega), ag_o (by omega) (by omega) (by omega) (by omega)]
  refine l_where H1 (by omega) (by omega) (fun s2 H2 => l_where H2 (by omega) (by omega) (fun s3 H3 => ?_))
  have b1 := it_b (m := m) H1.wf.1 (show A 0 < upN (ag A' c 1 p) 5 0 0 by omega) (by omega)
  have b2 := it_b (m := m) H1.wf.1 (show g < upN (ag A' c 1 p) 5 0 0 by omega) (by omega)
  rw [q_eq (by omega) (by omega)]
  have i1 := E4_it E5 (by omega) m (6 + A 0) (by omega) (by omega)
  have i2 := E4_it E5 (by omega) m (6 + g) (by omega) (by omega)
  rw [i1, i2]
  have hbp := hb p
  rw [tb_div, e0] at hbp
  have hm2 := Nat.mod_lt (M / 2 ^ p) (show 0 < 2 by omega)
  refine ⟨fun q => i_L_law_1554 _ ?_, fun q => i_L_law_1554 _ ?_⟩
  · unfold B_L_law_1554
    rw [q_bit (by omega) (by omega)]
    refine fr_t (fun e => ?_) (z_1570 C H3)
    rw [show (1 : Int32) = nI 1 from rfl, q_eq (by omega) (by omega)] at e
    exact q (hbp.mp e).2
  · unfold B_L_law_1554
    rw [q_bit (by omega) (by omega)]
    refine fr_f ?_ (z_1570 C H3)
    rw [hbp.mpr ⟨hp, q⟩]
    rfl
set_option maxHeartbeats 4000000 in
set_option maxRecDepth 100000 in
theorem z_1461 {A' : Nat → Nat} {c g m M : Nat} (C : CT L A R ρ) (E : E4 A' A) (h6 : A 0 < 7) (hc : c ≤ 5) (hg : g < A 0) (hm : m ≤ 30) (hM : M < 2 ^ 23) (hb : ∀ j, M.testBit j = true ↔ j < 23 ∧ it m (ag A' c 1 j) (6 + A' 0) = it m (ag A' c 1 j) (6 + g)) : ∀ (d j p : Nat) (s : St), LV s A' A 1 ρ → p < 23 → j + d = 23 → R_L_law L xs 1461 [nI (A 0), nI (A 1), nI (A 15), nI (oA A), nI (wA A), nI (sA' A), nI c, nI g, nI m, nI M, nI p, nI j] [] s := by
  intro d
  induction d with
  | zero =>
    intro j p s H hp hj
    refine i_L_law_1461 _ ?_
    unfold B_L_law_1461
    exact br_t (by rw [show (23 : Int32) = nI 23 from rfl, q_le (by omega) (by omega)]; omega) (z_1506 C H E h6 hc hg hm hp hM hb)
  | succ d ih =>
    intro j p s H hp hj
    refine i_L_law_1461 _ ?_
    unfold B_L_law_1461
    refine br_f (by rw [show (23 : Int32) = nI 23 from rfl, q_le (by omega) (by omega)]; omega) (l_cell (j := 22) rfl C.1 (by omega) (fun v => l_up (n := 3) rfl (by omega) (by omega) (fun r hr => ?_)))
    refine ⟨fun _ => z_1506 C H E h6 hc hg hm hp hM hb, fun _ => ⟨fun _ => z_1506 C H E h6 hc hg hm hp hM hb, fun _ v3 e3 => ?_⟩⟩
    rw [nI_1, show (23 : Int32) = nI 23 from rfl, pk_rem (by omega) (by omega) (by omega)] at e3
    subst e3
    rw [nI_1]
    exact ih (j + 1) _ s H (Nat.mod_lt _ (by omega)) (by omega)
set_option maxHeartbeats 4000000 in
set_option maxRecDepth 100000 in
theorem z_1383 {s : St} {A' : Nat → Nat} (C : CT L A R ρ) (H : LV s A' A 1 ρ) (E : E4 A' A) : R_L_law L xs 1383 [nI (A 0), nI (A 1), nI (A 15), nI (oA A), nI (wA A), nI (sA' A)] [] s := by
  refine i_L_law_1383 _ ?_
  unfold B_L_law_1383
  have h7 := H.wf.2.1
  have e0 : A' 0 = A 0 := E 0 (by omega) (by omega)
  rw [show (0 : Int32) = nI 0 from rfl, show (7 : Int32) = nI 7 from rfl, q_le (by omega) (by omega), q_le (by omega) (by omega)]
  refine ⟨fun _ => z_1584 C H E, fun c1 => ⟨fun _ => z_1584 C H E, fun c2 => ?_⟩⟩
  refine l_cell (j := 18) rfl C.1 (by omega) (fun v => l_up (n := 6) rfl (by omega) (by omega) (fun c hc => ?_))
  refine l_cell (j := 19) rfl C.1 (by omega) (fun v => l_up (n := A 0) rfl (by omega) (by omega) (fun g hg => ?_))
  refine l_cell (j := 20) rfl C.1 (by omega) (fun v => l_up (n := 20) rfl (by omega) (by omega) (fun m hm => ?_))
  rw [show (1 : Int32) + nI m = nI (1 + m) from nI_add 1 m]
  refine l_drop H (by omega) (by omega) (by omega) (by omega) (fun s1 H1 => ?_)
  obtain ⟨M, h1, h2, h3⟩ := mt_b (A := A') (k := c) (g := g) (m := 1 + m) 23 (by omega)
  rw [h2]
  refine l_cell (j := 21) rfl C.1 (by omega) (fun v => l_up (n := 23) rfl (by omega) (by omega) (fun p hp => ?_))
  exact z_1461 C E (by omega) (by omega) hg (by omega) h1 h3 23 0 p s1 H1 hp (by omega)
set_option maxHeartbeats 4000000 in
set_option maxRecDepth 100000 in
theorem z_1372 {s : St} {A' : Nat → Nat} (C : CT L A R ρ) (H : LV s A' A 1 ρ) : R_L_law L xs 1372 [nI (A 0), nI (A 1), nI (A 15), nI (oA A), nI (wA A), nI (sA' A)] [] s := by
  refine i_L_law_1372 _ ?_
  unfold B_L_law_1372
  exact l_from H (fun s1 H1 => br_t rfl (z_1383 C H1 E4.rf))
/-! what is to be shut -/
theorem xb_1 : ∀ m, m < 8 → ∀ k, k < 3 → (m ^^^ 2 ^ k) / 2 ^ k % 2 ≠ m / 2 ^ k % 2 ∧ ∀ j, j < 3 → j ≠ k → (m ^^^ 2 ^ k) / 2 ^ j % 2 = m / 2 ^ j % 2 := by decide +kernel
theorem xb_2 : ∀ q, q < 4 → ∀ m, m < 8 → ∀ k, k < 3 → m < 2 ^ q → k < q → m ^^^ 2 ^ k < 2 ^ q := by decide +kernel
theorem xb_3 {q m b : Nat} (hq : q < 4) (hm : m < 2 ^ q) (hb : b < 2 ^ q) (h : ∀ j, j < q → m / 2 ^ j % 2 = b / 2 ^ j % 2) : m = b := by
  rcases (by omega : q = 0 ∨ q = 1 ∨ q = 2 ∨ q = 3) with rfl | rfl | rfl | rfl
  · omega
  · have h0 : m / 1 % 2 = b / 1 % 2 := h 0 (by omega)
    omega
  · have h0 : m / 1 % 2 = b / 1 % 2 := h 0 (by omega)
    have h1 : m / 2 % 2 = b / 2 % 2 := h 1 (by omega)
    omega
  · have h0 : m / 1 % 2 = b / 1 % 2 := h 0 (by omega)
    have h1 : m / 2 % 2 = b / 2 % 2 := h 1 (by omega)
    have h2 : m / 4 % 2 = b / 4 % 2 := h 2 (by omega)
    omega
theorem p2_q {q : Nat} (h : q ≤ 3) : 2 ^ q ≤ 8 := by
  have := Nat.pow_le_pow_right (show 0 < 2 by omega) h
  exact this
set_option maxHeartbeats 4000000 in
set_option maxRecDepth 100000 in
theorem z_1343 {s : St} {X : Nat → Nat} {m b : Nat} (C : CT L A R ρ) (H : LV s X A 1 ρ) (hX : ∀ i, i < 43 → i ≠ 5 → i ≠ 14 → X i = A i) (h14 : X 14 = b) (hb : b < 8) (hm1 : 1 ≤ m) (hm : m ≤ 60) (hp' : hp A m b = true) : R_L_law L xs 1343 [nI (A 0), nI (A 1), nI (A 15), nI (oA A), nI (wA A), nI (sA' A), nI m, nI b] [] s := by
  refine i_L_law_1343 _ ?_
  unfold B_L_law_1343
  have h7 := H.wf.2.1
  have h15 := C.2.2.2.2.1
  have e0 : X 0 = A 0 := hX 0 (by omega) (by omega) (by omega)
  have e15 : X 15 = A 15 := hX 15 (by omega) (by omega) (by omega)
  refine br_f (by rw [show (0 : Int32) = nI 0 from rfl, q_lt (by omega) (by omega)]; omega) ?_
  refine l_count (w := 5) H (Or.inr (Or.inr (Or.inr (Or.inr ⟨rfl, rfl⟩)))) (fun s1 H1 => l_bits hb (fr_f (by rw [h14]) ?_))
  refine l_hours H1 hm1 hm (fun s2 H2 => fr_f (congrArg nI ?_) (z_1372 C H2))
  have E1 := hs_E4 (A := X) (m := m) h7 (by omega)
  have E2 : E4 X (upN A 14 b) := fun i hi h5 => by
    by_cases z : i = 14
    · subst z; rw [upN_s]; exact h14
    · rw [upN_n z]; exact hX i hi h5 z
  have E3' := E1.tr (E4_it E2 (by omega) m)
  rw [e0, E4_cnt E3' 23 (A 0) (by omega)]
  exact of_decide_eq_true hp'
set_option maxHeartbeats 4000000 in
set_option maxRecDepth 100000 in
theorem z_1290 {m b : Nat} (C : CT L A R ρ) (hq3 : A 1 ≤ 3) (hbq : b < 2 ^ A 1) (hm1 : 1 ≤ m) (hm : m ≤ 60) (hp' : hp A m b = true) : ∀ (d k : Nat) (X : Nat → Nat) (s : St), LV s X A 1 ρ → (∀ i, i < 43 → i ≠ 5 → i ≠ 14 → X i = A i) → X 14 < 2 ^ A 1 → (∀ j, j < k → X 14 / 2 ^ j % 2 = b / 2 ^ j % 2) → k + d = A 1 → R_L_law L xs 1290 [nI (A 0), nI (A 1), nI (A 15), nI (oA A), nI (wA A), nI (sA' A), nI m, nI b, nI k] [] s := by
  have p8 := p2_q hq3
  intro d
  induction d with
  | zero =>
    intro k X s H hX h14 hbit hk
    refine i_L_law_1290 _ ?_
    unfold B_L_law_1290
    refine br_t (by rw [q_le (by omega) (by omega)]; omega) (z_1343 C H hX ?_ (by omega) hm1 hm hp')
    exact xb_3 (by omega) h14 hbq (fun j hj => hbit j (by omega))
  | succ d ih =>
    intro k X s H hX h14 hbit hk
    refine i_L_law_1290 _ ?_
    unfold B_L_law_1290
    have e1 : X 1 = A 1 := hX 1 (by omega) (by omega) (by omega)
    refine br_f (by rw [q_le (by omega) (by omega)]; omega) (br_f (by rw [show (0 : Int32) = nI 0 from rfl, q_lt (by omega) (by omega)]; omega) ?_)
    refine l_ab2 H (by omega) (fun s1 H1 => ?_)
    have m1 := Nat.mod_lt (X 14 / 2 ^ k) (show 0 < 2 by omega)
    have m2 := Nat.mod_lt (b / 2 ^ k) (show 0 < 2 by omega)
    rw [q_bit (by omega) (by omega), q_eq (by omega) (by omega)]
    refine ⟨fun c => ?_, fun c => ?_⟩
    · rw [nI_1]
      refine ih (k + 1) X s1 H1 hX h14 (fun j hj => ?_) (by omega)
      by_cases z : j = k
      · subst z; exact c
      · exact hbit j (by omega)
    · have et : tn X k 14 = X 14 ^^^ 2 ^ k := by unfold tn; rw [upN_s, sv_lo (by omega) (by omega)]
      obtain ⟨x1, x2⟩ := xb_1 (X 14) (by omega) k (by omega)
      have m3 := Nat.mod_lt ((X 14 ^^^ 2 ^ k) / 2 ^ k) (show 0 < 2 by omega)
      refine l_shuts H1 (by omega) (fun s2 H2 => ?_)
      have ek : tn X k 14 / 2 ^ k % 2 = b / 2 ^ k % 2 := by rw [et]; omega
      rw [ek]
      refine br_t rfl ?_
      rw [nI_1]
      refine ih (k + 1) _ s2 H2 (fun i hi h5 h14' => ?_) ?_ (fun j hj => ?_) (by omega)
      · unfold tn
        rw [upN_n h14', sv_lo (by omega) h5]
        exact hX i hi h5 h14'
      · rw [et]
        exact xb_2 (A 1) (by omega) _ (by omega) k (by omega) h14 (by omega)
      · by_cases z : j = k
        · subst z; exact ek
        · rw [et, x2 j (by omega) z]
          exact hbit j (by omega)
theorem m1_lt {s : Nat} (hs : s < 2147483648) : (-1 : Int32) < nI s := Int32.lt_iff_toInt_lt.mpr (by
  rw [nI_toInt hs, show (-1 : Int32).toInt = -1 from by decide]
  omega)
set_option maxHeartbeats 4000000 in
set_option maxRecDepth 100000 in
theorem z_1247 {s : St} (C : CT L A R ρ) (H : LV s A A 1 ρ) : R_L_law L xs 1247 [nI (A 0), nI (A 1), nI (A 15), nI (oA A), nI (wA A), nI (sA' A)] [] s := by
  refine i_L_law_1247 _ ?_
  unfold B_L_law_1247
  have hw := H.wf
  have h3 := hw.1.2.1
  have p8 := p2_q h3
  have p0 : 0 < 2 ^ A 1 := Nat.pow_pos (by omega)
  have h14 : A 14 < 2 ^ A 1 := C.2.2.1.2.2.2.2.2.2.2.2
  refine l_cell (j := 17) rfl C.1 (by omega) (fun v => l_up (n := 60) rfl (by omega) (by omega) (fun m hm => ?_))
  rw [show (1 : Int32) + nI m = nI (1 + m) from nI_add 1 m]
  refine l_hold H (by omega) (by omega) (fun s1 H1 => ?_)
  rw [q_shl (by omega)]
  rcases hb_ok (p := hp A (1 + m)) p8 (2 ^ A 1) 0 9 (Or.inl rfl) (by omega) with e | ⟨e1, e2⟩
  · rw [e, show ov 9 = -1 from rfl]
    refine br_f (by decide) (br_t (m1_lt (by omega)) (i_L_law_1290 _ ?_))
    unfold B_L_law_1290
    have k : R_L_law L xs 1343 [nI (A 0), nI (A 1), nI (A 15), nI (oA A), nI (wA A), nI (sA' A), nI (1 + m), -1] [] s1 := by
      refine i_L_law_1343 _ ?_
      unfold B_L_law_1343
      exact br_t (by decide) (z_1372 C H1)
    exact ⟨fun _ => k, fun _ => br_t (by decide) k⟩
  · generalize hb (hp A (1 + m)) (2 ^ A 1) 0 9 = b at *
    have eb : ov b = nI b := by unfold ov; rw [if_neg (by omega)]
    rw [eb]
    refine br_f (by rw [show (-1 : Int32) = -nI 1 from rfl]; exact Int32.not_lt.mpr (Int32.le_of_lt (m1_lt (by omega)))) (br_t (by rw [q_lt (by omega) (by omega)]; exact e1) ?_)
    exact z_1290 C h3 e1 (by omega) (by omega) e2 (A 1) 0 A s1 H1 (fun i _ _ _ => rfl) h14 (fun j hj => absurd hj (by omega)) (by omega)
end P4
