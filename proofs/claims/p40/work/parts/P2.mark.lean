/-- what the law knows all along -/
def CT (L : Nat) (A R : Nat → Nat) (ρ : Nat → Nat → Int32) : Prop := L ≤ 260 ∧ RR (ρ 81) R ∧ FX A R ∧ RO R ∧ A 15 ≤ 4 ∧ ∀ g, g < A 0 → ρ 82 g = nI (A (6 + g))
section P8
variable {L : Nat} {xs : Nat → Int32} {A R : Nat → Nat} {ρ : Nat → Nat → Int32}
theorem nI_64 {n : Nat} (h : n < 2147483648) : (nI n).toInt64.toInt = (n : Int) := by rw [Int32.toInt_toInt64, nI_toInt (by omega)]
set_option maxHeartbeats 4000000 in
set_option maxRecDepth 100000 in
theorem z_2109 {s : St} {A' : Nat → Nat} (C : CT L A R ρ) (H : LV s A' A 1 ρ) (E : E4 A' A) : R_L_law L xs 2109 [nI (A 0), nI (A 15), nI (oA A), nI (wA A), nI (sA' A)] [] s := by
  refine i_L_law_2109 _ ?_
  unfold B_L_law_2109
  exact l_cell (j := 33) rfl C.1 (by omega) (fun v => l_up (n := 9) rfl (by omega) (by omega) (fun r hr => z_2128 C.1 C.2.2.2.2.2 (by omega) r 0 0 A' s H E (by omega) (by omega)))
set_option maxHeartbeats 4000000 in
set_option maxRecDepth 100000 in
theorem z_2064 {s : St} {A' : Nat → Nat} (C : CT L A R ρ) (H : LV s A' A 1 ρ) (E : E4 A' A) : R_L_law L xs 2064 [nI (A 0), nI (A 15), nI (oA A), nI (wA A), nI (sA' A)] [] s := by
  refine i_L_law_2064 _ ?_
  unfold B_L_law_2064
  have hw := H.wf
  have h7 := hw.2.1
  have e0 : A' 0 = A 0 := E 0 (by omega) (by omega)
  have e15 : A' 15 = A 15 := E 15 (by omega) (by omega)
  have h4 := C.2.2.2.2.1
  have eo : cnt A' 23 (A' 0) = oA A := by rw [e0]; exact E4_cnt E _ _ (by omega)
  refine l_cell (j := 32) rfl C.1 (by omega) (fun v => l_up (n := 1000000) rfl (by omega) (by omega) (fun r hr => ?_))
  refine l_winters (m := 40) H (by omega) (by omega) (fun s1 H1 => ?_)
  have c1 := cnt_le (a := wst 40 r A') (s := 23) (A' 0)
  have c2 : cnt A' 23 (A' 0) ≤ cnt (wst 40 r A') 23 (A' 0) := cnt_mo _ (fun g hg h => wst_23 40 r A' hw.1 h7 hg (by omega) h)
  refine br_f (by rw [q_lt (by omega) (by omega)]; omega) (br_f (by rw [q_lt (by omega) (by omega)]; omega) ?_)
  refine l_winters (n := 5) (m := 0) H1 (by omega) (by omega) (fun s2 H2 => br_t ?_ (z_2109 C H2 E))
  show nI (cnt A' 23 (A' 0)) = nI (oA A)
  rw [eo]
set_option maxHeartbeats 4000000 in
set_option maxRecDepth 100000 in
theorem z_1971 {s : St} {A' : Nat → Nat} (C : CT L A R ρ) (H : LV s A' A 1 ρ) (E : E4 A' A) : R_L_law L xs 1971 [nI (A 0), nI (A 15), nI (oA A), nI (wA A), nI (sA' A)] [] s := by
  refine i_L_law_1971 _ ?_
  unfold B_L_law_1971
  have hw := H.wf
  have h7 := hw.2.1
  have e0 : A' 0 = A 0 := E 0 (by omega) (by omega)
  have g0 := gi_le (A := A') (w := 0) (A' 0)
  have g4 := gi_le (A := A') (w := 4) (A' 0)
  have gc : ∀ x, Nat.gcd 10 (10 * x) = 10 := fun x => Nat.gcd_eq_left (Nat.dvd_mul_right 10 x)
  refine l_rain (a := 0) H (by omega) (fun N eN hN s1 H1 => fr_f rfl ?_)
  have eN' : N = 10 * gi A' 0 (A' 0) := by rw [eN]; omega
  have k1 : 10 / Nat.gcd 10 N = 1 := by rw [eN', gc]
  have k2 : N / Nat.gcd 10 N = gi A' 0 (A' 0) := by rw [eN', gc]; omega
  rw [k1, k2] at H1
  refine l_part1 H1 (fun s2 H2 => fr_f (by rw [lg_eq0, nI_64 (by omega)]; rfl) ?_)
  refine l_part0 H2 (fun s3 H3 => br_f (by rw [lg_lt0, nI_64 (by omega), show (0 : Int64).toInt = 0 from by decide]; omega) ?_)
  refine l_part0 H3 (fun s4 H4 => br_f (by rw [lg_gt0, nI_64 (by omega), show (4 : Int32) * nI (A 0) = nI (4 * A 0) from pk_mul 4 _, nI_64 (by omega)]; omega) ?_)
  refine l_rain (a := 10) H4.lv (by omega) (fun N2 eN2 hN2 s5 H5 => fr_f rfl ?_)
  have eN2' : N2 = 10 * gi A' 4 (A' 0) := by rw [eN2]; omega
  have k3 : 10 / Nat.gcd 10 N2 = 1 := by rw [eN2', gc]
  rw [k3] at H5
  refine l_part1 H5 (fun s6 H6 => fr_f (by rw [lg_eq0, nI_64 (by omega)]; rfl) ?_)
  refine l_cell (j := 31) rfl C.1 (by omega) (fun v => l_up (n := 11) rfl (by omega) (by omega) (fun r hr => ?_))
  refine l_rain H6.lv (by omega) (fun N3 eN3 hN3 s9 H9 => fr_f rfl ?_)
  have hd : N3 / Nat.gcd 10 N3 ≤ N3 := Nat.div_le_self _ _
  generalize N3 / Nat.gcd 10 N3 = P3 at *
  refine l_part0 H9 (fun s10 H10 => br_t ?_ (z_2064 C H10.lv E))
  rw [Int32.le_iff_toInt_le]
  have h1 := lg_lt0 (x := (nI P3).toInt64) (y := 0)
  rw [nI_64 (by omega), show (0 : Int64).toInt = 0 from by decide, Int32.lt_iff_toInt_lt] at h1
  have : ¬ (lg_cmp (nI P3).toInt64 0).toInt < (0 : Int32).toInt := fun c => by
    have := h1.mp c
    omega
  omega
set_option maxHeartbeats 4000000 in
set_option maxRecDepth 100000 in
theorem z_1879 (C : CT L A R ρ) : ∀ (d k : Nat) (A' : Nat → Nat) (s : St), LV s A' A 1 ρ → E4 A' A → k + d = A 1 → R_L_law L xs 1879 [nI (A 0), nI (A 1), nI (A 15), nI (oA A), nI (wA A), nI (sA' A), nI k] [] s := by
  intro d
  induction d with
  | zero =>
    intro k A' s H E hk
    refine i_L_law_1879 _ ?_
    unfold B_L_law_1879
    have h3 := H.wf.1.2.1
    have e1 : A' 1 = A 1 := E 1 (by omega) (by omega)
    exact br_t (by rw [q_le (by omega) (by omega)]; omega) (z_1971 C H E)
  | succ d ih =>
    intro k A' s H E hk
    refine i_L_law_1879 _ ?_
    unfold B_L_law_1879
    have hw := H.wf
    have h3 := hw.1.2.1
    have h7 := hw.2.1
    have e0 : A' 0 = A 0 := E 0 (by omega) (by omega)
    have e1 : A' 1 = A 1 := E 1 (by omega) (by omega)
    have e4 : A' 4 = A 4 := E 4 (by omega) (by omega)
    have e15 : A' 15 = A 15 := E 15 (by omega) (by omega)
    obtain ⟨hL, hf, ⟨x0, x1, xw, xg, xk, x2, x3, x4, x14⟩, hR, h15, -⟩ := id C
    obtain ⟨y1, y2⟩ := xk k (by omega)
    have e37 : A' (37 + k) = R (33 + k) := by rw [E (37 + k) (by omega) (by omega)]; exact y1
    have q5 := (hR.2.2.2.2 k (by omega)).1
    have hcl : hc A' k ≤ A' 0 := cnt_le _
    refine br_f (by rw [q_le (by omega) (by omega)]; omega) (l_ab3 H (by omega) (fun s1 H1 => ?_))
    rw [show (0 : Int32) = nI 0 from rfl, q_le (by omega) (by omega)]
    refine ⟨fun _ => by rw [nI_1]; exact ih (k + 1) A' s1 H1 E (by omega), fun c => ?_⟩
    refine l_ab4 H1 (by omega) (fun s2 H2 => ?_)
    rw [if_neg (by omega), e37, e15, show (100 : Int32) = nI 100 from rfl, pk_rem (by omega) (by omega) (by omega), (by omega : A 15 % 100 = A 15)]
    have hv : lA (R (33 + k)) (A 15) (hc A' k) ≤ 8 := lA_le (by omega)
    refine l_mark H2 (by omega) (by omega) (by omega) (by omega) (by omega) (by omega) (fun s3 H3 => ?_)
    rw [e4, x4]
    refine fr_f rfl ?_
    have d4 : f4 A' 4 77 k (A 15) (hc A' k) (lA (R (33 + k)) (A 15) (hc A' k)) 4 = 1 := by unfold f4; rw [upN_s, e4, x4]
    have o : ∀ i, i < 77 → i ≠ 4 → f4 A' 4 77 k (A 15) (hc A' k) (lA (R (33 + k)) (A 15) (hc A' k)) i = A' i := fun i h1 h2 => by
      unfold f4
      rw [upN_n h2, upN_n (by omega), upN_n (by omega), upN_n (by omega), upN_n (by omega)]
    have z4 : A' 4 = 0 := by rw [e4, x4]
    have d77 : f4 A' 4 77 k (A 15) (hc A' k) (lA (R (33 + k)) (A 15) (hc A' k)) 77 = k := by unfold f4; rw [z4, upN_n (by omega), upN_n (by omega), upN_n (by omega), upN_n (by omega), upN_s]
    have d78 : f4 A' 4 77 k (A 15) (hc A' k) (lA (R (33 + k)) (A 15) (hc A' k)) (77 + 1) = A 15 := by unfold f4; rw [z4, upN_n (by omega), upN_n (by omega), upN_n (by omega), upN_s]
    have d79 : f4 A' 4 77 k (A 15) (hc A' k) (lA (R (33 + k)) (A 15) (hc A' k)) (77 + 2) = hc A' k := by unfold f4; rw [z4, upN_n (by omega), upN_n (by omega), upN_s]
    have d80 : f4 A' 4 77 k (A 15) (hc A' k) (lA (R (33 + k)) (A 15) (hc A' k)) (77 + 3) = lA (R (33 + k)) (A 15) (hc A' k) := by unfold f4; rw [z4, upN_n (by omega), upN_s]
    generalize f4 A' 4 77 k (A 15) (hc A' k) (lA (R (33 + k)) (A 15) (hc A' k)) = X at *
    have eX0 : X 0 = A' 0 := o 0 (by omega) (by omega)
    have eX1 : X 1 = A' 1 := o 1 (by omega) (by omega)
    obtain ⟨M, m1, m2, m3⟩ := km_b (A := X) (base := 77) (w := 0) (who := k) (n := X 4) 6 (by omega)
    have hbit := m3 (R (33 + k)) (by omega) (by rw [d4]; exact fl_1 d77 d78 d79 d80 rfl)
    refine l_kinds H3 (by omega) (fun s4 H4 => ?_)
    rw [m2, H4.ro (j := 81) (by omega), show (33 : Int32) + nI k = nI (33 + k) from nI_add 33 k, nI_clamp (by omega), hf (33 + k) (by omega)]
    refine ⟨vp_in_nI (by omega) (by omega), fr_f (bit_1 (by omega) (by omega) hbit) ?_⟩
    refine l_ask H4 (by omega) m1 m2 (fun s5 H5 => ?_)
    obtain ⟨g1, t, t1, t2, t3⟩ := rh_ok (M := M) (w := 0) (lo := 1) (n := 6) (H := 23) (j := R (33 + k)) (by omega) (by omega) (by omega) hbit
    rw [t3]
    refine br_f (by rw [show (1 : Int32) = nI 1 from rfl, q_lt (by omega) (by omega)]; omega) ?_
    refine l_forget (w := 2) H5 (by omega) (fun s6 H6 => ?_)
    rw [show X (2 + 2) = 1 from d4]
    refine br_t rfl ?_
    rw [nI_1]
    refine ih (k + 1) _ s6 H6 (fun i hi h5 => ?_) (by omega)
    by_cases z : i = 4
    · subst z
      rw [x4]
      exact upN_s
    · rw [upN_n (by omega), o i (by omega) z]
      exact E i hi h5
set_option maxHeartbeats 4000000 in
set_option maxRecDepth 100000 in
theorem z_1876 {s : St} {A' : Nat → Nat} (C : CT L A R ρ) (H : LV s A' A 1 ρ) (E : E4 A' A) : R_L_law L xs 1876 [nI (A 0), nI (A 1), nI (A 15), nI (oA A), nI (wA A), nI (sA' A)] [] s := by
  refine i_L_law_1876 _ ?_
  unfold B_L_law_1876
  exact z_1879 C (A 1) 0 A' s H E (by omega)
end P8
