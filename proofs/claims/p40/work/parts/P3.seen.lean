section P3
variable {L : Nat} {xs : Nat → Int32} {A R : Nat → Nat} {ρ : Nat → Nat → Int32}
set_option maxHeartbeats 4000000 in
set_option maxRecDepth 100000 in
theorem z_1790 {s : St} {A' : Nat → Nat} {g : Nat} (hg : g < A 0) (C : CT L A R ρ) (H : LV s A' A 1 ρ) (E : E4 A' A) : R_L_law L xs 1790 [nI (A 0), nI (A 1), nI (A 15), nI (oA A), nI (wA A), nI (sA' A), nI g] [] s := by
  refine i_L_law_1790 _ ?_
  unfold B_L_law_1790
  have hw := H.wf
  have h7 := hw.2.1
  have e0 : A' 0 = A 0 := E 0 (by omega) (by omega)
  refine l_lady H (by omega) (Int32.le_refl _) (fun s1 H1 => ?_)
  have ea : ld (vs A' g 31) (-1) 100 0 0 = nI (lcm' (vs A' g 31) 100 0) := (ld_all (m := vs A' g 31) 100 0 0 (by omega)).trans (by rw [Nat.zero_add])
  have hl : lcm' (vs A' g 31) 100 0 ≤ 100 := lcm_le 100 0
  have en : ∀ w, w < 1000 → lcm' (vs A' g 31) 100 0 ≤ w → ld (vs A' g 31) (nI w) 100 0 0 = -5 := fun w h1 h2 => ld_no (m := vs A' g 31) h1 100 0 0 (by omega)
  have et : ∀ w v, v < 1000 → w ≤ v → v < lcm' (vs A' g 31) 100 0 → ∃ y z, y ≤ z ∧ z < 0 + 100 ∧ ld (vs A' g 31) (nI w) 100 0 0 = nI y ∧ ld (vs A' g 31) (nI v) 100 0 0 = nI z := fun w v h1 h2 h3 => ld_two (m := vs A' g 31) h1 h2 100 0 0 (by omega) (by omega)
  rw [ea]
  generalize lcm' (vs A' g 31) 100 0 = c at *
  refine br_f (by rw [show (0 : Int32) = nI 0 from rfl, q_lt (by omega) (by omega)]; omega) (br_f (by rw [show (100 : Int32) = nI 100 from rfl, q_lt (by omega) (by omega)]; omega) ?_)
  refine l_lady H1 (by omega) (m1_le (by omega)) (fun s2 H2 => fr_f (en c (by omega) (by omega)) ?_)
  by_cases z : c = 0
  · exact br_t (by rw [z]; decide) (z_1876 C H2 E)
  · obtain ⟨y, u, h1, h2, h3, h4⟩ := et 0 (c - 1) (by omega) (by omega) (by omega)
    have e1 : nI c - 1 = nI (c - 1) := pk_sub (b := 1) (by omega)
    have h3' : ld (vs A' g 31) 0 100 0 0 = nI y := h3
    refine br_f (by rw [show (0 : Int32) = nI 0 from rfl, q_le (by omega) (by omega)]; omega) ?_
    refine l_lady H2 (by omega) (by decide) (fun s3 H3 => ?_)
    rw [h3', e1]
    refine br_f (by rw [show (0 : Int32) = nI 0 from rfl, q_lt (by omega) (by omega)]; omega) ?_
    refine l_lady H3 (by omega) (m1_le (by omega)) (fun s4 H4 => l_lady H4 (by omega) (by decide) (fun s5 H5 => ?_))
    rw [h4, h3']
    refine br_f (by rw [q_lt (by omega) (by omega)]; omega) (l_lady H5 (by omega) (m1_le (by omega)) (fun s6 H6 => ?_))
    rw [h4]
    exact br_t (by rw [show (99 : Int32) = nI 99 from rfl, q_le (by omega) (by omega)]; omega) (z_1876 C H6 E)
set_option maxHeartbeats 4000000 in
set_option maxRecDepth 100000 in
theorem z_1719 {s : St} {A' : Nat → Nat} {g : Nat} (hg : g < A 0) (C : CT L A R ρ) (H : LV s A' A 1 ρ) (E : E4 A' A) : R_L_law L xs 1719 [nI (A 0), nI (A 1), nI (A 15), nI (oA A), nI (wA A), nI (sA' A), nI g] [] s := by
  refine i_L_law_1719 _ ?_
  unfold B_L_law_1719
  have hw := H.wf
  have h7 := hw.2.1
  have e0 : A' 0 = A 0 := E 0 (by omega) (by omega)
  have e3 : A' 3 = A 3 := E 3 (by omega) (by omega)
  have e15 : A' 15 = A 15 := E 15 (by omega) (by omega)
  obtain ⟨hL, hf, ⟨x0, x1, xw, xg, xk, x2, x3, x4, x14⟩, hR, h15, -⟩ := id C
  have m6 : A 15 % 6 < 6 := Nat.mod_lt _ (by omega)
  obtain ⟨y1, y2⟩ := xg g (by omega)
  have e22 : A' (22 + g) = R (10 + g) := by rw [E (22 + g) (by omega) (by omega)]; exact y1
  have e16 : A' (16 + A 15 % 6) = R (4 + A 15 % 6) := by rw [E _ (by omega) (by omega)]; exact xw _ m6
  have q5 := (hR.2.2.2.1 g (by omega)).1
  have qw := hR.2.2.1 _ m6
  have eg : gon A' g = gA (R (10 + g)) (A 15) (R (4 + A 15 % 6)) := by unfold gon; rw [e15, e22, e16]
  have hgo : gA (R (10 + g)) (A 15) (R (4 + A 15 % 6)) ≤ 4 := gA_le
  have e6 : nI (A 15) - nI (A 15) / 6 * 6 = nI (A 15 % 6) := pk_rem (d := 6) (by omega) (by omega) (by omega)
  have e100 : nI (A 15) - nI (A 15) / 100 * 100 = nI (A 15) := by
    rw [show (100 : Int32) = nI 100 from rfl, pk_rem (by omega) (by omega) (by omega), (by omega : A 15 % 100 = A 15)]
  rw [e6, e100, show (4 : Int32) + nI (A 15 % 6) = nI (4 + A 15 % 6) from nI_add 4 _, nI_clamp (by omega), H.ro (j := 81) (by omega), hf (4 + A 15 % 6) (by omega)]
  refine ⟨vp_in_nI (by omega) (by omega), l_of4 H (by omega) (fun s1 H1 => ?_)⟩
  rw [eg]
  refine l_note H1 (by omega) (by omega) qw (by omega) (by omega) (fun s2 H2 => ?_)
  have z3 : A' 3 = 0 := by rw [e3, x3]
  rw [z3]
  refine fr_f rfl ?_
  have d4 : f4 A' 3 53 g (A 15) (R (4 + A 15 % 6)) (gA (R (10 + g)) (A 15) (R (4 + A 15 % 6))) 3 = 1 := by unfold f4; rw [upN_s, z3]
  have o : ∀ i, i < 53 → i ≠ 3 → f4 A' 3 53 g (A 15) (R (4 + A 15 % 6)) (gA (R (10 + g)) (A 15) (R (4 + A 15 % 6))) i = A' i := fun i h1 h2 => by
    unfold f4
    rw [upN_n h2, upN_n (by omega), upN_n (by omega), upN_n (by omega), upN_n (by omega)]
  have d0 : f4 A' 3 53 g (A 15) (R (4 + A 15 % 6)) (gA (R (10 + g)) (A 15) (R (4 + A 15 % 6))) 53 = g := by unfold f4; rw [z3, upN_n (by omega), upN_n (by omega), upN_n (by omega), upN_n (by omega), upN_s]
  have d1 : f4 A' 3 53 g (A 15) (R (4 + A 15 % 6)) (gA (R (10 + g)) (A 15) (R (4 + A 15 % 6))) (53 + 1) = A 15 := by unfold f4; rw [z3, upN_n (by omega), upN_n (by omega), upN_n (by omega), upN_s]
  have d2 : f4 A' 3 53 g (A 15) (R (4 + A 15 % 6)) (gA (R (10 + g)) (A 15) (R (4 + A 15 % 6))) (53 + 2) = R (4 + A 15 % 6) := by unfold f4; rw [z3, upN_n (by omega), upN_n (by omega), upN_s]
  have d3 : f4 A' 3 53 g (A 15) (R (4 + A 15 % 6)) (gA (R (10 + g)) (A 15) (R (4 + A 15 % 6))) (53 + 3) = gA (R (10 + g)) (A 15) (R (4 + A 15 % 6)) := by unfold f4; rw [z3, upN_n (by omega), upN_s]
  generalize f4 A' 3 53 g (A 15) (R (4 + A 15 % 6)) (gA (R (10 + g)) (A 15) (R (4 + A 15 % 6))) = X at *
  have eX0 : X 0 = A' 0 := o 0 (by omega) (by omega)
  obtain ⟨M, m1, m2, m3⟩ := km_b (A := X) (base := 53) (w := 1) (who := g) (n := X 3) 6 (by omega)
  have hbit := m3 (R (10 + g)) (by omega) (by rw [d4]; exact fl_1 d0 d1 d2 d3 rfl)
  refine l_is H2 (by omega) (fun s3 H3 => ?_)
  rw [m2, H3.ro (j := 81) (by omega), show (10 : Int32) + nI g = nI (10 + g) from nI_add 10 g, nI_clamp (by omega), hf (10 + g) (by omega)]
  refine ⟨vp_in_nI (by omega) (by omega), fr_f (bit_1 (by omega) (by omega) hbit) ?_⟩
  refine l_look H3 (by omega) m1 m2 (fun s4 H4 => ?_)
  obtain ⟨g1, t, t1, t2, t3⟩ := rh_ok (M := M) (w := 1) (lo := 0) (n := 4) (H := 9) (j := R (10 + g)) (by omega) (by omega) (by omega) hbit
  rw [t3]
  refine br_f (by rw [show (0 : Int32) = nI 0 from rfl, q_lt (by omega) (by omega)]; omega) ?_
  refine l_forget (w := 1) H4 (by omega) (fun s5 H5 => ?_)
  rw [show X (2 + 1) = 1 from d4]
  refine br_t rfl (z_1790 hg C H5 (fun i hi h5 => ?_))
  by_cases z : i = 3
  · subst z
    rw [x3]
    exact upN_s
  · rw [upN_n (by omega), o i (by omega) z]
    exact E i hi h5
set_option maxHeartbeats 4000000 in
set_option maxRecDepth 100000 in
theorem z_1616 {g N : Nat} (hg : g < A 0) (hN : N ≤ 5) (C : CT L A R ρ) : ∀ (d j : Nat) (A' : Nat → Nat) (s : St), LV s A' A 1 ρ → E3 A' A → A' 2 = j → (∀ i, i < j → okS A' i g) → j + d = N → R_L_law L xs 1616 [nI (A 0), nI (A 1), nI (A 15), nI (oA A), nI (wA A), nI (sA' A), nI g, nI N, nI j] [] s := by
  have x2 := C.2.2.1.2.2.2.2.2.1
  intro d
  induction d with
  | zero =>
    intro j A' s H E a2 hok hj
    refine i_L_law_1616 _ ?_
    unfold B_L_law_1616
    have hw := H.wf
    have h7 := hw.2.1
    have e0 : A' 0 = A 0 := E 0 (by omega) (by omega) (by omega)
    refine br_t (by rw [q_le (by omega) (by omega)]; omega) ?_
    refine l_tell H (fun M s1 hM H1 => ?_)
    obtain ⟨t, t1, t2⟩ := tf_go (A := A') (M := M) (g := g) h7 (by omega) ((hM g).mpr ⟨by omega, fun i hi => hok i (by omega)⟩)
    rw [t2]
    refine br_f (by rw [show (0 : Int32) = nI 0 from rfl, q_lt (by omega) (by omega)]; omega) ?_
    refine l_tell H1 (fun M2 s2 hM2 H2 => ?_)
    obtain ⟨u, u1, u2⟩ := tf_go (A := A') (M := M2) (g := g) h7 (by omega) ((hM2 g).mpr ⟨by omega, fun i hi => hok i (by omega)⟩)
    rw [u2]
    refine br_f (by rw [show (20 : Int32) = nI 20 from rfl, q_lt (by omega) (by omega)]; omega) ?_
    refine l_forget (w := 0) H2 (by omega) (fun s3 H3 => fr_f (by rw [show A' (2 + 0) = N from by rw [Nat.add_zero, a2]; omega]) ?_)
    have E' : E4 (upN A' (2 + 0) 0) A := fun i hi h5 => by
      by_cases z : i = 2
      · subst z
        rw [x2]
        exact upN_s
      · rw [upN_n (by omega)]
        exact E i hi h5 z
    refine l_which H3 (fun M3 s4 hM3 H4 => fr_f ?_ (z_1719 hg C H4 E'))
    have p7 : 0 < 2 ^ A 0 := Nat.pow_pos (by omega)
    rw [q_shl (by omega), show nI (2 ^ A 0) - 1 = nI (2 ^ A 0 - 1) from pk_sub (b := 1) (by omega)]
    refine congrArg nI (tb_eq (fun i => ?_))
    rw [hM3 i, tb_all]
    have z0 : upN A' (2 + 0) 0 0 = A 0 := by rw [upN_n (by omega), e0]
    have z2 : upN A' (2 + 0) 0 2 = 0 := upN_s
    rw [z0, z2]
    exact ⟨fun h => h.1, fun h => ⟨h, fun q hq => absurd hq (by omega)⟩⟩
  | succ d ih =>
    intro j A' s H E a2 hok hj
    refine i_L_law_1616 _ ?_
    unfold B_L_law_1616
    have hw := H.wf
    have h7 := hw.2.1
    have h15 := C.2.2.2.2.1
    have e0 : A' 0 = A 0 := E 0 (by omega) (by omega) (by omega)
    have e15 : A' 15 = A 15 := E 15 (by omega) (by omega) (by omega)
    refine br_f (by rw [q_le (by omega) (by omega)]; omega) (l_cell (nI_add 25 j) C.1 (by omega) (fun v => l_up (n := 61) rfl (by omega) (by omega) (fun r hr => ?_)))
    refine l_where H (by omega) (by omega) (fun s1 H1 => ?_)
    have hb := it_b (m := r) hw.1 (show g < A' 0 by omega) (by omega)
    refine l_seen H1 (by omega) hb (by omega) (fun s2 H2 => fr_f (by rw [a2, nI_1]) ?_)
    have o : ∀ i, i ≠ 2 → i ≠ 43 + 2 * j → i ≠ 43 + 2 * j + 1 → sn A' r (it r A' (6 + g)) i = A' i := fun i h1 h2 h3 => by unfold sn; rw [a2, upN_n h1, upN_n h3, upN_n h2]
    have o2 : sn A' r (it r A' (6 + g)) 2 = j + 1 := by unfold sn; rw [upN_s, a2]
    have oa : sn A' r (it r A' (6 + g)) (43 + 2 * j) = r := by unfold sn; rw [a2, upN_n (by omega), upN_n (by omega), upN_s]
    have ob : sn A' r (it r A' (6 + g)) (43 + 2 * j + 1) = it r A' (6 + g) := by unfold sn; rw [a2, upN_n (by omega), upN_s]
    generalize sn A' r (it r A' (6 + g)) = X at *
    have EX : E3 X A' := fun i hi h5 h2 => o i h2 (by omega) (by omega)
    have eX0 : X 0 = A' 0 := o 0 (by omega) (by omega) (by omega)
    have hokX : ∀ i, i < j + 1 → okS X i g := fun i hi => by
      unfold okS
      by_cases z : i = j
      · subst z
        rw [oa, ob]
        exact E3_it EX (by omega) r (6 + g) (by omega) (by omega) (by omega)
      · rw [o (43 + 2 * i) (by omega) (by omega) (by omega), o (43 + 2 * i + 1) (by omega) (by omega) (by omega)]
        rw [E3_it EX (by omega) _ (6 + g) (by omega) (by omega) (by omega)]
        exact hok i (by omega)
    refine l_which H2 (fun M s3 hM H3 => br_t ?_ ?_)
    · have hM7 := Mok_lt (by omega) hM
      exact bit_1 (by omega) (by omega) ((hM g).mpr ⟨by omega, fun i hi => hokX i (by omega)⟩)
    · rw [nI_1]
      exact ih (j + 1) X s3 H3 (EX.tr E) o2 hokX (by omega)
set_option maxHeartbeats 4000000 in
set_option maxRecDepth 100000 in
theorem z_1584 {s : St} {A' : Nat → Nat} (C : CT L A R ρ) (H : LV s A' A 1 ρ) (E : E4 A' A) : R_L_law L xs 1584 [nI (A 0), nI (A 1), nI (A 15), nI (oA A), nI (wA A), nI (sA' A)] [] s := by
  refine i_L_law_1584 _ ?_
  unfold B_L_law_1584
  have h7 := H.wf.2.1
  have e0 : A' 0 = A 0 := E 0 (by omega) (by omega)
  have x2 := C.2.2.1.2.2.2.2.2.1
  rw [show (0 : Int32) = nI 0 from rfl, q_le (by omega) (by omega)]
  refine ⟨fun _ => z_1876 C H E, fun c => ?_⟩
  refine l_cell (j := 23) rfl C.1 (by omega) (fun v => l_up (n := A 0) rfl (by omega) (by omega) (fun r hr => ?_))
  refine l_cell (j := 24) rfl C.1 (by omega) (fun v => l_up (n := 6) rfl (by omega) (by omega) (fun N hN => ?_))
  exact z_1616 hr (by omega) C N 0 A' s H (fun i hi h5 _ => E i hi h5) (by rw [E 2 (by omega) (by omega)]; exact x2) (fun i hi => absurd hi (by omega)) (by omega)
end P3
