/-- what the law knows while the hours pass -/
def CH (L : Nat) (A R : Nat → Nat) (ρ : Nat → Nat → Int32) (t : Nat) : Prop := L ≤ 260 ∧ RR (ρ 81) R ∧ FX A R ∧ RO R ∧ A 15 ≤ t ∧ t ≤ 4
theorem FX_of {A X R : Nat → Nat} (h : FX A R) (h7 : A 0 ≤ 7) (h3 : A 1 ≤ 3) (hX : ∀ i, i < 43 → i ≠ 5 → (i < 6 ∨ 16 ≤ i) → X i = A i) (h14 : X 14 < 2 ^ A 1) : FX X R := by
  obtain ⟨x0, x1, xw, xg, xk, x2, x3, x4, x14⟩ := h
  have e0 := hX 0 (by omega) (by omega) (by omega)
  have e1 := hX 1 (by omega) (by omega) (by omega)
  have e2 := hX 2 (by omega) (by omega) (by omega)
  have e3 := hX 3 (by omega) (by omega) (by omega)
  have e4 := hX 4 (by omega) (by omega) (by omega)
  refine ⟨by omega, by omega, fun i hi => ?_, fun g hg => ?_, fun k hk => ?_, by omega, by omega, by omega, by rw [e1]; exact h14⟩
  · rw [hX (16 + i) (by omega) (by omega) (by omega)]; exact xw i hi
  · by_cases z : g < 7
    · rw [hX (22 + g) (by omega) (by omega) (by omega), hX (30 + g) (by omega) (by omega) (by omega)]; exact xg g hg
    · exact absurd hg (fun q => by omega)
  · by_cases z : k < 3
    · rw [hX (37 + k) (by omega) (by omega) (by omega), hX (40 + k) (by omega) (by omega) (by omega)]; exact xk k hk
    · exact absurd hk (fun q => by omega)
theorem nsp_w {a : Nat → Nat} {g : Nat} (h : bh a (a (6 + g)) ≠ 0) : nsp a g ≤ a (6 + g) + 1 := by
  unfold nsp
  rw [if_neg h]
  split <;> omega
theorem nsp_f {a : Nat → Nat} {g : Nat} (h : bh a (a (6 + g)) = 0) : nsp a g = wk a (gon a g) (a (6 + g)) := by
  unfold nsp
  rw [if_pos h]
section P8b
variable {L : Nat} {xs : Nat → Int32} {R : Nat → Nat} {I : Nat → Nat} {kk : Nat}
theorem CH.n7 {A : Nat → Nat} {ρ : Nat → Nat → Int32} {t : Nat} (C : CH L A R ρ t) : R 1 ≤ 7 ∧ R 2 ≤ 3 := ⟨C.2.2.2.1.1, C.2.2.2.1.2.1⟩
set_option maxHeartbeats 4000000 in
set_option maxRecDepth 100000 in
theorem z_40 : ∀ (d t : Nat) (A : Nat → Nat) (ρ : Nat → Nat → Int32) (s : St), CH L A R ρ t → LV s A I kk ρ → t + d = 4 → R_L_law L xs 40 [nI (R 1), nI (R 2), nI t] [] s := by
  intro d
  induction d with
  | zero =>
    intro t A ρ s C H ht
    refine i_L_law_40 _ ?_
    unfold B_L_law_40
    have et : t = 4 := by omega
    subst et
    rw [nI_clamp (by omega)]
    refine ⟨by omega, br_t (by decide) ?_⟩
    obtain ⟨hL, hf, hX, hR, h15, -⟩ := C
    have z := z_350 (xs := xs) ⟨hL, hf, hX, hR, h15⟩ H
    rw [hX.1, hX.2.1] at z
    exact z
  | succ d ih =>
    intro t A ρ s C H ht
    refine i_L_law_40 _ ?_
    unfold B_L_law_40
    obtain ⟨n7, q3⟩ := C.n7
    have hL := C.1
    rw [nI_clamp (by omega)]
    refine ⟨by omega, br_f (by rw [show (4 : Int32) = nI 4 from rfl, q_le (by omega) (by omega)]; omega) (l_cell (nI_add 12 t) hL (by omega) (fun v => ?_))⟩
    -- the hour, once the crossing is turned
    have hour : ∀ (A : Nat → Nat) (s : St), CH L A R ρ t → LV s A I kk ρ → R_L_law L xs 89 [nI (R 1), nI (R 2), nI t] [] s := by
      intro A s C H
      obtain ⟨hL, hf, hX, hR, h15, ht4⟩ := id C
      obtain ⟨x0, x1, xw, xg, xk, x2, x3, x4, x14⟩ := id hX
      have hW := H.wf
      have h7 := hW.2.1
      have EX : E4 (hsA A 1) (hr A) := hs_E4 (m := 1) h7 (by omega)
      have eX0 : hsA A 1 0 = A 0 := by rw [EX 0 (by omega) (by omega), hr_lo (by omega)]
      have eXg : ∀ g, g < A 0 → hsA A 1 (6 + g) = nsp A g := fun g hg => by rw [EX (6 + g) (by omega) (by omega), hr_sp hg]
      -- the checks behind the hour
      have chk : ∀ (ρ : Nat → Nat → Int32), RR (ρ 81) R → (∀ g, g < A 0 → ρ 82 g = nI (A (6 + g)) ∧ ρ 83 g = nI (if bh A (A (6 + g)) = 0 then 0 else 1) ∧ ρ 84 g = nI (gon A g)) → ∀ (e g : Nat) (s : St), LV s (hsA A 1) I kk ρ → g + e = A 0 → R_L_law L xs 180 [nI (R 1), nI (R 2), nI t, nI g] [] s := by
        intro ρ hf hrow e
        induction e with
        | zero =>
          intro g s H hg
          refine i_L_law_180 _ ?_
          unfold B_L_law_180
          rw [nI_clamp (by omega), nI_1, nI_clamp (by omega)]
          refine ⟨by omega, br_t (by rw [q_le (by omega) (by omega)]; omega) ⟨Nat.le_refl _, ?_⟩⟩
          refine ih (t + 1) (hsA A 1) ρ s ⟨hL, hf, FX_of hX (by omega) (by omega) (fun i hi h5 h6 => ?_) ?_, hR, ?_, by omega⟩ H (by omega)
          · rw [EX i hi h5]
            rcases h6 with h6 | h6
            · exact hr_lo h6
            · exact hr_hi (by omega) h6
          · rw [EX 14 (by omega) (by omega), hr_14 (by omega)]; exact x14
          · rw [EX 15 (by omega) (by omega), hr_15 (by omega)]; omega
        | succ e ihg =>
          intro g s H hg
          refine i_L_law_180 _ ?_
          unfold B_L_law_180
          obtain ⟨r82, r83, r84⟩ := hrow g (by omega)
          have hgb := (hW.1.2.2.2.2.2.1 g (by omega)).2
          have hgo := gon_le (a := A) (g := g)
          have hto : nsp A g ≤ 23 := nsp_le hW.1 (by omega)
          have hge : A (6 + g) ≤ nsp A g := nsp_ge
          have hin : vp_in (nI g) 7 := vp_in_nI (by omega) (by omega)
          have nx : ∀ (s : St), LV s (hsA A 1) I kk ρ → R_L_law L xs 180 [nI (R 1), nI (R 2), nI t, nI g + 1] [] s := fun s H => by
            rw [nI_1]
            exact ihg (g + 1) s H (by omega)
          have k296 : ∀ (e k : Nat) (s : St), LV s (hsA A 1) I kk ρ → k + e = A 1 → R_L_law L xs 296 [nI (R 1), nI (R 2), nI t, nI g, nI (nsp A g), nI k] [] s := by
            intro e
            induction e with
            | zero =>
              intro k s H hk
              refine i_L_law_296 _ ?_
              unfold B_L_law_296
              rw [nI_clamp (by omega)]
              exact ⟨by omega, br_t (by rw [q_le (by omega) (by omega)]; omega) (nx s H)⟩
            | succ e ihk =>
              intro k s H hk
              refine i_L_law_296 _ ?_
              unfold B_L_law_296
              obtain ⟨y1, y2⟩ := xk k (by omega)
              have y3 := (hR.2.2.2.2 k (by omega)).2.2.2
              rw [nI_clamp (n := t) (by omega), nI_clamp (n := g) (by omega), show (36 : Int32) + nI k = nI (36 + k) from nI_add 36 k, nI_clamp (n := 36 + k) (by omega), H.ro (j := 81) (by omega), H.ro (j := 82) (by omega), hf (36 + k) (by omega), r82, q_le (a := R (36 + k)) (b := A (6 + g)) (by omega) (by omega), q_le (a := nsp A g) (b := R (36 + k)) (by omega) (by omega)]
              have nk : R_L_law L xs 296 [nI (R 1), nI (R 2), nI t, nI g, nI (nsp A g), nI k + 1] [] s := by
                rw [nI_1]
                exact ihk (k + 1) s H (by omega)
              refine ⟨by omega, br_f (by rw [q_le (by omega) (by omega)]; omega) ⟨hin, vp_in_nI (by omega) (by omega), fun _ => nk, fun c1 => ⟨vp_in_nI (by omega) (by omega), fun _ => nk, fun c2 => ?_⟩⟩⟩
              by_cases z : bh A (A (6 + g)) = 0
              · have hbk := bh_of hW.1 (k := k) (by omega)
                rw [y2] at hbk
                have := wk_free (a := A) (gon A g) (A (6 + g)) (R (36 + k)) (by omega) (by rw [← nsp_f z]; omega)
                omega
              · have := nsp_w z
                omega
          have k233 : ∀ (s : St), LV s (hsA A 1) I kk ρ → R_L_law L xs 233 [nI (R 1), nI (R 2), nI t, nI g, nI (nsp A g)] [] s := fun s H => by
            refine i_L_law_233 _ ?_
            unfold B_L_law_233
            rw [nI_clamp (n := t) (by omega), nI_clamp (n := g) (by omega), H.ro (j := 83) (by omega), H.ro (j := 82) (by omega), H.ro (j := 84) (by omega), r82, r83, r84]
            refine ⟨by omega, hin, ?_⟩
            by_cases z : bh A (A (6 + g)) = 0
            · rw [if_pos z]
              have hup := wk_up (a := A) (gon A g) (A (6 + g))
              rw [← nsp_f z] at hup
              refine fr_f rfl ⟨hin, hin, ?_⟩
              rw [nI_add, q_lt (by omega) (by omega), q_le (by omega) (by omega), show (23 : Int32) = nI 23 from rfl, q_le (by omega) (by omega)]
              refine br_f (by omega) ⟨hin, hin, fun _ => k296 (A 1) 0 s H (by omega), fun c1 => ⟨fun _ => k296 (A 1) 0 s H (by omega), fun c2 => ?_⟩⟩
              have hst := wk_stop (a := A) (gon A g) (A (6 + g)) (by rw [← nsp_f z]; omega)
              rw [← nsp_f z] at hst
              have hb : bh (hsA A 1) (hsA A 1 (6 + g)) ≠ 0 := by
                rw [eXg g (by omega), E4_bh EX, bh_hr (by omega)]
                rcases hst with h | h
                · omega
                · exact h
              refine l_of3 H (by omega) (fun s1 H1 => br_t ?_ (k296 (A 1) 0 s1 H1 (by omega)))
              rw [if_neg hb]
              rfl
            · rw [if_neg z]
              exact fr_t (by decide) (k296 (A 1) 0 s H (by omega))
          rw [nI_clamp (n := t) (by omega)]
          refine ⟨by omega, br_f (by rw [q_le (by omega) (by omega)]; omega) (l_of2 H (by omega) (fun s1 H1 => ⟨hin, ?_⟩))⟩
          rw [nI_clamp (n := g) (by omega), eXg g (by omega), H1.ro (j := 82) (by omega), H1.ro (j := 83) (by omega), r82, r83]
          refine br_f (by rw [q_lt (by omega) (by omega)]; omega) (br_f (by rw [show (23 : Int32) = nI 23 from rfl, q_lt (by omega) (by omega)]; omega) ⟨hin, ?_⟩)
          by_cases z : bh A (A (6 + g)) = 0
          · rw [if_pos z]
            exact fr_t (by decide) (k233 s1 H1)
          · rw [if_neg z]
            have := nsp_w z
            refine fr_f rfl ⟨hin, br_f ?_ (k233 s1 H1)⟩
            rw [nI_1, q_lt (by omega) (by omega)]
            omega
      -- what is written ahead of the hour
      have fill : ∀ (e g : Nat) (ρ : Nat → Nat → Int32) (s : St), RR (ρ 81) R → LV s A I kk ρ → (∀ i, i < g → ρ 82 i = nI (A (6 + i)) ∧ ρ 83 i = nI (if bh A (A (6 + i)) = 0 then 0 else 1) ∧ ρ 84 i = nI (gon A i)) → g + e = A 0 → R_L_law L xs 117 [nI (R 1), nI (R 2), nI t, nI (oA A), nI g] [] s := by
        intro e
        induction e with
        | zero =>
          intro g ρ s hf H hrow hg
          refine i_L_law_117 _ ?_
          unfold B_L_law_117
          rw [nI_clamp (by omega)]
          have hol : oA A ≤ A 0 := cnt_le _
          have hol2 := cnt_le (a := hsA A 1) (s := 23) (A 0)
          refine ⟨by omega, br_t (by rw [q_le (by omega) (by omega)]; omega) (l_hours (m := 1) H (by omega) (by omega) (fun s1 H1 => br_t ?_ ?_))⟩
          · have c2 : oA A ≤ cnt (hsA A 1) 23 (A 0) := cnt_mo _ (fun g hg q => by rw [eXg g hg]; exact nsp_23 hW.1 q)
            rw [q_le (by omega) (by omega)]
            exact c2
          · exact chk ρ hf (fun i hi => hrow i (by omega)) (A 0) 0 s1 H1 (by omega)
        | succ e ihg =>
          intro g ρ s hf H hrow hg
          refine i_L_law_117 _ ?_
          unfold B_L_law_117
          have hin : vp_in (nI g) 7 := vp_in_nI (by omega) (by omega)
          rw [nI_clamp (n := t) (by omega), nI_clamp (n := g) (by omega)]
          refine ⟨by omega, br_f (by rw [q_le (by omega) (by omega)]; omega) (l_of2 H (by omega) (fun s2 H2 => ⟨hin, fun s3 e3 => ?_⟩))⟩
          rw [H2.ro (j := 82) (by omega)] at e3
          subst e3
          refine l_of3 (H2.row (j := 82) (by omega) _) (by omega) (fun s4 H4 => ⟨hin, fun s5 e5 => ?_⟩)
          rw [H4.ro (j := 83) (by omega), us_ne (j := 83) (by omega)] at e5
          subst e5
          refine l_of4 (H4.row (j := 83) (by omega) _) (by omega) (fun s6 H6 => ⟨hin, fun s7 e7 => ?_⟩)
          rw [H6.ro (j := 84) (by omega), us_ne (j := 84) (by omega), us_ne (j := 84) (by omega)] at e7
          subst e7
          rw [nI_1]
          refine ihg (g + 1) _ _ ?_ (H6.row (j := 84) (by omega) _) (fun i hi => ?_) (by omega)
          · rw [us_ne (by omega), us_ne (by omega), us_ne (by omega)]; exact hf
          · rw [us_ne (j := 82) (by omega), us_ne (j := 82) (by omega), us_same, us_ne (j := 83) (by omega), us_same, us_same]
            by_cases z : i = g
            · subst z
              rw [pk_us, pk_us, pk_us]
              exact ⟨rfl, rfl, rfl⟩
            · rw [pk_un z, pk_un z, pk_un z]
              exact hrow i (by omega)
      refine i_L_law_89 _ ?_
      unfold B_L_law_89
      rw [nI_clamp (by omega)]
      refine ⟨by omega, fun s1 e1 s2 e2 s3 e3 => ?_⟩
      subst e1; subst e2; subst e3
      have H3 := ((H.row (j := 82) (by omega) zq).row (j := 83) (by omega) zq).row (j := 84) (by omega) zq
      refine l_count (w := 3) H3 (Or.inr (Or.inr (Or.inl ⟨rfl, rfl⟩))) (fun s4 H4 => ?_)
      exact fill (A 0) 0 _ s4 (by rw [us_ne (by omega), us_ne (by omega), us_ne (by omega)]; exact hf) H4 (fun i hi => absurd hi (by omega)) (by omega)
    rw [show (0 : Int32) = nI 0 from rfl, q_le (by omega) (by omega)]
    refine ⟨fun _ => hour A s C H, fun c1 => l_up (n := 3) rfl (by omega) (by omega) (fun r2 hr2 => ⟨fun _ => hour A s C H, fun _ => ?_⟩)⟩
    obtain ⟨hL, hf, hX, hR, h15, ht4⟩ := id C
    refine l_up (n := R 2) rfl (by omega) (by omega) (fun r hr => ?_)
    have x0 := hX.1
    have x1 := hX.2.1
    have x14 := hX.2.2.2.2.2.2.2.2
    have p8 := p2_q (q := A 1) (by omega)
    have et : tn A r 14 = A 14 ^^^ 2 ^ r := by unfold tn; rw [upN_s, sv_lo (by omega) (by omega)]
    have hm2 := Nat.mod_lt (tn A r 14 / 2 ^ r) (show 0 < 2 by omega)
    refine l_shuts H (by omega) (fun s4 H4 => br_t (by rw [q_le (by omega) (by omega)]; omega) (hour (tn A r) s4 ⟨hL, hf, FX_of hX (by omega) (by omega) (fun i hi h5 h6 => ?_) ?_, hR, ?_, ht4⟩ H4))
    · unfold tn
      rw [upN_n (by omega), sv_lo (by omega) h5]
    · rw [et]
      exact xb_2 (A 1) (by omega) _ (by omega) r (by omega) x14 (by omega)
    · unfold tn
      rw [upN_n (by omega), sv_lo (by omega) (by omega)]
      exact h15
set_option maxHeartbeats 4000000 in
set_option maxRecDepth 100000 in
theorem law_ok {s : St} {ρ : Nat → Nat → Int32} (hL : L ≤ 260) (H : LV s (fun _ => 0) I 0 ρ) : V_L_law L xs s := by
  unfold V_L_law B_L_law_e
  refine l_lay hL (fun f R hf hR => ?_)
  have e81 : us ρ 81 f 81 = f := us_same
  refine l_made (R := R) (H.row (j := 81) (by omega) f) (by rw [e81]; exact hf) hR (fun s2 A H2 hX h15 => fr_t (by decide) ?_)
  rw [H2.ro (j := 81) (by omega), e81, hf 1 (by omega), hf 2 (by omega)]
  exact z_40 4 0 A _ s2 ⟨hL, by rw [e81]; exact hf, hX, hR, by omega, by omega⟩ H2 (by omega)
end P8b
