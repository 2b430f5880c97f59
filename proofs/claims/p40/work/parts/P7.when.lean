/-- when all are over, of the first gloves -/
def AL (A : Nat → Nat) (g : Nat) (x : Int32) : Prop := (x = -1 ∧ ∃ i, i < g ∧ ∀ y, y ≤ 60 → it y A (6 + i) ≠ 23) ∨ ∃ M, M ≤ 60 ∧ x = nI M ∧ (∀ i, i < g → it M A (6 + i) = 23) ∧ (M = 0 ∨ ∃ i, i < g ∧ it (M - 1) A (6 + i) ≠ 23)
def C0' (L : Nat) (A R : Nat → Nat) (ρ : Nat → Nat → Int32) : Prop := L ≤ 260 ∧ RR (ρ 81) R ∧ FX A R ∧ RO R ∧ A 15 ≤ 4
theorem C0'.row {L : Nat} {A R : Nat → Nat} {ρ : Nat → Nat → Int32} (C : C0' L A R ρ) {j : Nat} (hj : 82 ≤ j) (f : Nat → Int32) : C0' L A R (us ρ j f) := by
  unfold C0' at *
  rw [us_ne (by omega)]
  exact C
theorem wn_ones {A : Nat → Nat} {g : Nat} : (wn (fun x => decide (it x A (6 + g) = 23)) 61 0 = -1 ∧ ∀ y, y ≤ 60 → it y A (6 + g) ≠ 23) ∨ ∃ m, m ≤ 60 ∧ wn (fun x => decide (it x A (6 + g) = 23)) 61 0 = nI m ∧ it m A (6 + g) = 23 ∧ ∀ y, y < m → it y A (6 + g) ≠ 23 := by
  rcases wn_sp (p := fun x => decide (it x A (6 + g) = 23)) 61 0 with ⟨e, h⟩ | ⟨m, h1, h2, e, h3, h4⟩
  · exact Or.inl ⟨e, fun y hy q => h y (by omega) (by omega) (decide_eq_true q)⟩
  · exact Or.inr ⟨m, by omega, e, of_decide_eq_true h3, fun y hy q => h4 y (by omega) hy (decide_eq_true q)⟩
theorem AL_all {A : Nat → Nat} {x : Int32} (hB : Bd A) (h15 : A 15 ≤ 4) (h : AL A (A 0) x) : wn (fun y => decide (cnt (it y A) 23 (A 0) = A 0)) 61 0 = x := by
  rcases wn_sp (p := fun y => decide (cnt (it y A) 23 (A 0) = A 0)) 61 0 with ⟨e, h'⟩ | ⟨m, h1, h2, e, h3, h4⟩
  · rcases h with ⟨rfl, -⟩ | ⟨M, m1, rfl, m2, m3⟩
    · exact e
    · exact absurd (decide_eq_true ((cnt_all _).mpr m2)) (h' M (by omega) (by omega))
  · have h3 := (cnt_all _).mp (of_decide_eq_true h3)
    rcases h with ⟨rfl, i, i1, i2⟩ | ⟨M, m1, rfl, m2, m3⟩
    · exact absurd (h3 i i1) (i2 m (by omega))
    · rw [e]
      by_cases c : M < m
      · exact absurd (decide_eq_true ((cnt_all _).mpr m2)) (h4 M (by omega) c)
      · by_cases d : m < M
        · rcases m3 with m3 | ⟨i, i1, i2⟩
          · omega
          · exact absurd (it_23 hB i1 (by omega) (by omega) (h3 i i1)) i2
        · exact congrArg nI (by omega)
section P7
variable {L : Nat} {xs : Nat → Int32} {A R : Nat → Nat} {ρ : Nat → Nat → Int32}
set_option maxHeartbeats 4000000 in
set_option maxRecDepth 100000 in
theorem z_741 {X : Nat → Nat} {m : Nat} (C : CT L A R ρ) (hW : WFA A) (hm : m ≤ 30) (EX : E4 X (it m A)) (hU : UD 1 X A) (hth : ∀ g, g < A 0 → ρ 84 g = nI (it m A (6 + g))) : ∀ (d g : Nat) (s : St), LV s X A 1 ρ → g + d = A 0 → R_L_law L xs 741 [nI (A 0), nI (A 1), nI (A 15), nI (oA A), nI (wA A), nI (sA' A), nI m, nI (cnt X 23 (A 0)), nI (cnt (it m A) 23 g), nI g] [] s := by
  have h7 := hW.2.1
  have h15 := C.2.2.2.2.1
  have x0 : X 0 = A 0 := by rw [EX 0 (by omega) (by omega), it_lo (by omega)]
  intro d
  induction d with
  | zero =>
    intro g s H hg
    refine i_L_law_741 _ ?_
    unfold B_L_law_741
    refine br_t (by rw [q_le (by omega) (by omega)]; omega) (fr_f ?_ ?_)
    · rw [(by omega : g = A 0), E4_cnt EX 23 (A 0) (by omega)]
    · refine l_count (w := 2) H (Or.inr (Or.inl ⟨rfl, rfl⟩)) (fun s1 H1 => fr_f (by rw [EX 15 (by omega) (by omega), it_15 (by omega), nI_add]) ?_)
      refine l_undo H1 hU.1 (fun s2 H2 => ?_)
      have E2 : E4 (ub X) A := hU.2
      refine fr_f (by rw [E2 15 (by omega) (by omega)]) ?_
      refine l_count (w := 3) H2 (Or.inr (Or.inr (Or.inl ⟨rfl, rfl⟩))) (fun s3 H3 => br_t ?_ (z_831 C H3 E2))
      rw [E2 0 (by omega) (by omega), E4_cnt E2 23 _ (by omega)]
  | succ d ih =>
    intro g s H hg
    refine i_L_law_741 _ ?_
    unfold B_L_law_741
    have hb := it_b (m := m) hW.1 (show g < A 0 by omega) (by omega)
    have ec : cnt (it m A) 23 (g + 1) = cnt (it m A) 23 g + (if it m A (6 + g) = 23 then 1 else 0) := rfl
    refine br_f (by rw [q_le (by omega) (by omega)]; omega) ⟨vp_in_nI (by omega) (by omega), ?_⟩
    rw [nI_clamp (by omega), H.ro (j := 84) (by omega), hth g (by omega), show (23 : Int32) = nI 23 from rfl, q_eq (by omega) (by omega)]
    have fin : ∀ t, t = (if it m A (6 + g) = 23 then 1 else 0) → R_L_law L xs 764 [nI (A 0), nI (A 1), nI (A 15), nI (oA A), nI (wA A), nI (sA' A), nI m, nI (cnt X 23 (A 0)), nI g, nI t, nI (cnt (it m A) 23 g)] [] s := fun t et => by
      refine i_L_law_764 _ ?_
      unfold B_L_law_764
      refine l_of2 H (by omega) (fun s1 H1 => ⟨vp_in_nI (by omega) (by omega), br_t ?_ ?_⟩)
      · rw [nI_clamp (by omega), H1.ro (j := 84) (by omega), hth g (by omega), EX (6 + g) (by omega) (by omega)]
      · rw [nI_add, nI_1, et, ← ec]
        exact ih (g + 1) s1 H1 (by omega)
    exact ⟨fun c => fin 0 (by rw [if_neg c]), fun c => fin 1 (by rw [if_pos c])⟩
set_option maxHeartbeats 4000000 in
set_option maxRecDepth 100000 in
theorem z_727 {s : St} {m : Nat} (C : CT L A R ρ) (H : LV s A A 1 ρ) (hm1 : 1 ≤ m) (hm : m ≤ 30) (hth : ∀ g, g < A 0 → ρ 84 g = nI (it m A (6 + g))) : R_L_law L xs 727 [nI (A 0), nI (A 1), nI (A 15), nI (oA A), nI (wA A), nI (sA' A), nI m] [] s := by
  refine i_L_law_727 _ ?_
  unfold B_L_law_727
  have hW := H.wf
  have h7 := hW.2.1
  have h8 := hW.2.2.2.2.2.2.1
  have h15 := C.2.2.2.2.1
  refine l_hours H hm1 (by omega) (fun s1 H1 => ?_)
  exact z_741 C hW hm (hs_E4 h7 (by omega)) (UD_hs (d := 0) (c := A) E4.rf (by omega) h8 h7) hth (A 0) 0 s1 H1 (by omega)
set_option maxHeartbeats 4000000 in
set_option maxRecDepth 100000 in
theorem z_462 {m : Nat} (hm1 : 1 ≤ m) (hm : m ≤ 30) : ∀ (d g : Nat) (x15 : Int32) (ρ : Nat → Nat → Int32) (s : St), C0' L A R ρ → LV s A A 1 ρ → AL A g x15 → (∀ i, i < g → ρ 82 i = nI (A (6 + i)) ∧ ρ 84 i = nI (it m A (6 + i))) → g + d = A 0 → R_L_law L xs 462 [nI (A 0), nI (A 1), nI (A 15), nI (oA A), nI (wA A), nI (sA' A), nI (wA A), nI (g - cnt A 23 g), nI m, x15, nI g] [] s := by
  intro d
  induction d with
  | zero =>
    intro g x15 ρ s C H hal hrow hg
    refine i_L_law_462 _ ?_
    unfold B_L_law_462
    have hW := H.wf
    have h7 := hW.2.1
    have h15 := C.2.2.2.2
    have hol : cnt A 23 (A 0) ≤ A 0 := cnt_le _
    have eg : g = A 0 := by omega
    subst eg
    refine br_t (by rw [q_le (by omega) (by omega)]; omega) (fr_f rfl (fr_f ?_ ?_))
    · exact (pk_sub hol).symm
    · refine l_whenAll H (fun s1 H1 => br_t (AL_all hW.1 h15 hal) ?_)
      exact z_727 ⟨C.1, C.2.1, C.2.2.1, C.2.2.2.1, C.2.2.2.2, fun i hi => (hrow i hi).1⟩ H1 hm1 hm (fun i hi => (hrow i hi).2)
  | succ d ih =>
    intro g x15 ρ s C H hal hrow hg
    refine i_L_law_462 _ ?_
    unfold B_L_law_462
    have hW := H.wf
    have h7 := hW.2.1
    have h15 := C.2.2.2.2
    have hgb := (hW.1.2.2.2.2.2.1 g (by omega)).2
    have hcg := cnt_le (a := A) (s := 23) g
    have ec : cnt A 23 (g + 1) = cnt A 23 g + (if A (6 + g) = 23 then 1 else 0) := rfl
    have hth := it_b (m := m) hW.1 (show g < A 0 by omega) (by omega)
    have hge : A (6 + g) ≤ it m A (6 + g) := it_ge (show g < A 0 by omega) 0 m (by omega)
    refine br_f (by rw [q_le (by omega) (by omega)]; omega) (l_of2 H (by omega) (fun s2 H2 => ⟨vp_in_nI (by omega) (by omega), fun s3 e3 => ?_⟩))
    rw [nI_clamp (by omega), H2.ro (j := 82) (by omega)] at e3
    subst e3
    have H3 := H2.row (j := 82) (by omega) (upd (ρ 82) g (nI (A (6 + g))))
    refine l_when H3 (by omega) (fun s4 H4 => ⟨vp_in_nI (by omega) (by omega), fun s5 e5 => ?_⟩)
    have hwn := wn_ones (A := A) (g := g)
    generalize wn (fun x => decide (it x A (6 + g) = 23)) 61 0 = w at *
    rw [nI_clamp (by omega), H4.ro (j := 83) (by omega), us_ne (j := 83) (by omega)] at e5
    subst e5
    have H5 := H4.row (j := 83) (by omega) (upd (ρ 83) g w)
    refine l_where H5 (by omega) (by omega) (fun s6 H6 => ⟨vp_in_nI (by omega) (by omega), fun s7 e7 => ?_⟩)
    rw [nI_clamp (by omega), H6.ro (j := 84) (by omega), us_ne (j := 84) (by omega), us_ne (j := 84) (by omega)] at e7
    subst e7
    have H7 := H6.row (j := 84) (by omega) (upd (ρ 84) g (nI (it m A (6 + g))))
    have r82 : us (us (us ρ 82 (upd (ρ 82) g (nI (A (6 + g))))) 83 (upd (ρ 83) g w)) 84 (upd (ρ 84) g (nI (it m A (6 + g)))) 82 = upd (ρ 82) g (nI (A (6 + g))) := by rw [us_ne (by omega), us_ne (by omega), us_same]
    have r83 : us (us (us ρ 82 (upd (ρ 82) g (nI (A (6 + g))))) 83 (upd (ρ 83) g w)) 84 (upd (ρ 84) g (nI (it m A (6 + g)))) 83 = upd (ρ 83) g w := by rw [us_ne (by omega), us_same]
    have r84 : us (us (us ρ 82 (upd (ρ 82) g (nI (A (6 + g))))) 83 (upd (ρ 83) g w)) 84 (upd (ρ 84) g (nI (it m A (6 + g)))) 84 = upd (ρ 84) g (nI (it m A (6 + g))) := us_same
    have C7 : C0' L A R (us (us (us ρ 82 (upd (ρ 82) g (nI (A (6 + g))))) 83 (upd (ρ 83) g w)) 84 (upd (ρ 84) g (nI (it m A (6 + g))))) := ((C.row (by omega) _).row (by omega) _).row (by omega) _
    generalize us (us (us ρ 82 (upd (ρ 82) g (nI (A (6 + g))))) 83 (upd (ρ 83) g w)) 84 (upd (ρ 84) g (nI (it m A (6 + g)))) = ρ' at *
    generalize us s6 84 (upd (ρ 84) g (nI (it m A (6 + g)))) = s7 at *
    have a82 : ρ' 82 g = nI (A (6 + g)) := by rw [r82, pk_us]
    have a83 : ρ' 83 g = w := by rw [r83, pk_us]
    have a84 : ρ' 84 g = nI (it m A (6 + g)) := by rw [r84, pk_us]
    have hrow' : ∀ i, i < g + 1 → ρ' 82 i = nI (A (6 + i)) ∧ ρ' 84 i = nI (it m A (6 + i)) := fun i hi => by
      by_cases z : i = g
      · subst z; exact ⟨a82, a84⟩
      · rw [r82, r84, pk_un z, pk_un z]
        exact hrow i (by omega)
    have k462 : ∀ (y : Int32) (s : St), LV s A A 1 ρ' → AL A (g + 1) y → R_L_law L xs 462 [nI (A 0), nI (A 1), nI (A 15), nI (oA A), nI (wA A), nI (sA' A), nI (wA A), nI (g + 1 - cnt A 23 (g + 1)), nI m, y, nI g + 1] [] s := fun y s H hy => by
      rw [nI_1]
      exact ih (g + 1) y ρ' s C7 H hy hrow' (by omega)
    have k665 : ∀ (y : Int32) (s : St), LV s A A 1 ρ' → AL A (g + 1) y → R_L_law L xs 665 [nI (A 0), nI (A 1), nI (A 15), nI (oA A), nI (wA A), nI (sA' A), nI (wA A), nI (g + 1 - cnt A 23 (g + 1)), nI m, y, nI g] [] s := fun y s H hy => by
      refine i_L_law_665 _ ?_
      unfold B_L_law_665
      rw [nI_clamp (by omega), H.ro (j := 83) (by omega), a83]
      refine ⟨vp_in_nI (by omega) (by omega), fun _ => k462 y s H hy, fun c => ⟨vp_in_nI (by omega) (by omega), ?_⟩⟩
      rcases hwn with ⟨rfl, -⟩ | ⟨t, t1, rfl, t2, t3⟩
      · exact absurd (by decide) c
      · have t0 : 1 ≤ t := by
          rw [show (0 : Int32) = nI 0 from rfl, q_le (by omega) (by omega)] at c
          omega
        rw [show nI t - 1 = nI (t - 1) from pk_sub (b := 1) t0]
        refine l_where H (by omega) (by omega) (fun s1 H1 => fr_t ?_ (k462 y s1 H1 hy))
        have := it_b (m := t - 1) hW.1 (show g < A 0 by omega) (by omega)
        rw [show (23 : Int32) = nI 23 from rfl, q_eq (by omega) (by omega)]
        exact t3 (t - 1) (by omega)
    have k619 : ∀ (y t : Int32) (s : St), LV s A A 1 ρ' → AL A (g + 1) y → R_L_law L xs 619 [nI (A 0), nI (A 1), nI (A 15), nI (oA A), nI (wA A), nI (sA' A), nI (wA A), nI (g + 1 - cnt A 23 (g + 1)), nI m, y, nI g, t, t] [] s := fun y t s H hy => by
      refine i_L_law_619 _ ?_
      unfold B_L_law_619
      have hin : vp_in (nI g) 7 := vp_in_nI (by omega) (by omega)
      rw [nI_clamp (by omega), H.ro (j := 83) (by omega), a83]
      rcases hwn with ⟨rfl, -⟩ | ⟨t, t1, rfl, t2, t3⟩
      · exact fr_f rfl ⟨hin, br_f (by decide) ⟨hin, br_f (by decide) ⟨hin, br_t (by decide) (k665 y s H hy)⟩⟩⟩
      · refine fr_f rfl ⟨hin, br_f (fun c => Int32.lt_irrefl (Int32.lt_trans (m1_lt (s := t) (by omega)) c)) ⟨hin, br_f (by rw [show (60 : Int32) = nI 60 from rfl, q_lt (by omega) (by omega)]; omega) ⟨hin, br_f (by rw [show (0 : Int32) = nI 0 from rfl, q_lt (by omega) (by omega)]; omega) ⟨hin, ?_⟩⟩⟩⟩
        exact l_where H (by omega) t1 (fun s1 H1 => fr_f (by rw [t2]; rfl) (k665 y s1 H1 hy))
    have k604 : ∀ (y : Int32) (s : St) (t : Int32), LV s A A 1 ρ' → AL A (g + 1) y → (t = if A (6 + g) = 23 then 1 else 0) → R_L_law L xs 604 [nI (A 0), nI (A 1), nI (A 15), nI (oA A), nI (wA A), nI (sA' A), nI (wA A), nI (g + 1 - cnt A 23 (g + 1)), nI m, y, nI g, t] [] s := fun y s t H hy ht => by
      refine i_L_law_604 _ ?_
      unfold B_L_law_604
      rw [nI_clamp (by omega), H.ro (j := 82) (by omega), a82, show (23 : Int32) = nI 23 from rfl, q_eq (by omega) (by omega)]
      refine ⟨vp_in_nI (by omega) (by omega), fun c => ?_, fun c => ?_⟩
      · rw [if_neg c] at ht; subst ht; exact k619 y 0 s H hy
      · rw [if_pos c] at ht; subst ht; exact k619 y 1 s H hy
    have k561 : ∀ (y : Int32) (s : St), LV s A A 1 ρ' → AL A (g + 1) y → R_L_law L xs 561 [nI (A 0), nI (A 1), nI (A 15), nI (oA A), nI (wA A), nI (sA' A), nI (wA A), nI (g + 1 - cnt A 23 (g + 1)), nI m, nI g, y] [] s := fun y s H hy => by
      refine i_L_law_561 _ ?_
      unfold B_L_law_561
      have hin : vp_in (nI g) 7 := vp_in_nI (by omega) (by omega)
      refine l_where (m := 0) H (by omega) (by omega) (fun s1 H1 => ⟨hin, ?_⟩)
      rw [nI_clamp (by omega), H1.ro (j := 82) (by omega), H1.ro (j := 83) (by omega), H1.ro (j := 84) (by omega), a82, a83, a84]
      refine fr_f rfl ⟨hin, hin, br_f (by rw [q_lt (by omega) (by omega)]; omega) ⟨hin, fun c => ?_, fun c => ?_⟩⟩
      · refine k604 y s1 0 H1 hy (by
          rw [if_neg (fun e => ?_)]
          rcases hwn with ⟨-, h⟩ | ⟨t, t1, rfl, t2, t3⟩
          · exact h 0 (by omega) e
          · have t0 : ¬ t = 0 := fun q => c (by rw [q]; rfl)
            exact t3 0 (by omega) e)
      · refine k604 y s1 1 H1 hy (by
          rw [if_pos]
          rcases hwn with ⟨rfl, -⟩ | ⟨t, t1, rfl, t2, t3⟩
          · exact absurd c (by decide)
          · rw [show (0 : Int32) = nI 0 from rfl, q_eq (by omega) (by omega)] at c
            subst c
            exact t2)
    have k521 : ∀ t, t = (if A (6 + g) = 23 then 0 else 1) → R_L_law L xs 521 [nI (A 0), nI (A 1), nI (A 15), nI (oA A), nI (wA A), nI (sA' A), nI (wA A), nI m, x15, nI g, nI t, nI (g - cnt A 23 g)] [] s7 := fun t ht => by
      refine i_L_law_521 _ ?_
      unfold B_L_law_521
      have hin : vp_in (nI g) 7 := vp_in_nI (by omega) (by omega)
      have ex : nI (g - cnt A 23 g) + nI t = nI (g + 1 - cnt A 23 (g + 1)) := by
        rw [nI_add, ec, ht]
        refine congrArg nI ?_
        split <;> omega
      rw [nI_clamp (by omega), H7.ro (j := 83) (by omega), a83, ex]
      rcases hal with ⟨rfl, i, i1, i2⟩ | ⟨M, m1, rfl, m2, m3⟩
      · exact br_t (by decide) (k561 (-1) s7 H7 (Or.inl ⟨rfl, i, by omega, i2⟩))
      · refine br_f (by rw [show (0 : Int32) = nI 0 from rfl, q_lt (by omega) (by omega)]; omega) ⟨hin, ?_⟩
        rcases hwn with ⟨rfl, h⟩ | ⟨t, t1, rfl, t2, t3⟩
        · exact br_f (by decide) (k561 (-1) s7 H7 (Or.inl ⟨rfl, g, by omega, h⟩))
        · refine br_t (by rw [show (0 : Int32) = nI 0 from rfl, q_le (by omega) (by omega)]; omega) ⟨hin, ?_⟩
          rw [q_le (by omega) (by omega)]
          refine ⟨fun c => k561 (nI M) s7 H7 (Or.inr ⟨M, m1, rfl, fun i hi => ?_, ?_⟩), fun c => ⟨hin, k561 (nI t) s7 H7 (Or.inr ⟨t, t1, rfl, fun i hi => ?_, Or.inr ⟨g, by omega, t3 (t - 1) (by omega)⟩⟩)⟩⟩
          · by_cases z : i = g
            · subst z; exact it_23 hW.1 (by omega) (by omega) c t2
            · exact m2 i (by omega)
          · rcases m3 with m3 | ⟨i, i1, i2⟩
            · exact Or.inl m3
            · exact Or.inr ⟨i, by omega, i2⟩
          · by_cases z : i = g
            · subst z; exact t2
            · exact it_23 hW.1 (by omega) (by omega) (Nat.le_of_lt (by omega)) (m2 i (by omega))
    refine ⟨vp_in_nI (by omega) (by omega), ?_⟩
    rw [nI_clamp (by omega), H7.ro (j := 82) (by omega), a82, show (23 : Int32) = nI 23 from rfl, q_le (by omega) (by omega)]
    exact ⟨fun c => k521 0 (by rw [if_pos (by omega)]), fun c => k521 1 (by rw [if_neg (by omega)])⟩
set_option maxHeartbeats 4000000 in
set_option maxRecDepth 100000 in
theorem z_410 : ∀ (d k : Nat) (ρ : Nat → Nat → Int32) (s : St), C0' L A R ρ → LV s A A 1 ρ → k + d = A 1 → R_L_law L xs 410 [nI (A 0), nI (A 1), nI (A 15), nI (oA A), nI (wA A), nI (sA' A), nI (wb A (A 0) k), 0, nI k] [] s := by
  intro d
  induction d with
  | zero =>
    intro k ρ s C H hk
    refine i_L_law_410 _ ?_
    unfold B_L_law_410
    have hW := H.wf
    have h3 := hW.1.2.1
    refine br_t (by rw [q_le (by omega) (by omega)]; omega) ?_
    refine l_cell (j := 16) rfl C.1 (by omega) (fun v => l_up (n := 30) rfl (by omega) (by omega) (fun r hr => fun s3 e3 => ?_))
    subst e3
    have ek : wb A (A 0) k = wA A := by rw [(by omega : k = A 1)]; exact wb_wg hW.1 _
    rw [show (1 : Int32) + nI r = nI (1 + r) from nI_add 1 r, ek]
    exact z_462 (by omega) (by omega) (A 0) 0 0 _ _ (C.row (by omega) _) (H.row (by omega) _) (Or.inr ⟨0, by omega, rfl, fun i hi => absurd hi (by omega), Or.inl rfl⟩) (fun i hi => absurd hi (by omega)) (by omega)
  | succ d ih =>
    intro k ρ s C H hk
    refine i_L_law_410 _ ?_
    unfold B_L_law_410
    have h3 := H.wf.1.2.1
    refine br_f (by rw [q_le (by omega) (by omega)]; omega) (l_ab3 H (by omega) (fun s1 H1 => ?_))
    rw [nI_add, nI_1]
    exact ih (k + 1) ρ s1 C H1 (by omega)
set_option maxHeartbeats 4000000 in
set_option maxRecDepth 100000 in
theorem z_350 {s : St} {I : Nat → Nat} {k : Nat} (C : C0' L A R ρ) (H : LV s A I k ρ) : R_L_law L xs 350 [nI (A 0), nI (A 1)] [] s := by
  refine i_L_law_350 _ ?_
  unfold B_L_law_350
  refine l_image H (fun s1 H1 => br_t rfl ?_)
  refine l_count (w := 2) H1 (Or.inr (Or.inl ⟨rfl, rfl⟩)) (fun s2 H2 => ?_)
  refine l_count (w := 3) H2 (Or.inr (Or.inr (Or.inl ⟨rfl, rfl⟩))) (fun s3 H3 => ?_)
  refine l_count (w := 4) H3 (Or.inr (Or.inr (Or.inr (Or.inl ⟨rfl, rfl⟩)))) (fun s4 H4 => ?_)
  refine l_count (w := 5) H4 (Or.inr (Or.inr (Or.inr (Or.inr ⟨rfl, rfl⟩)))) (fun s5 H5 => fun s6 e6 s7 e7 => ?_)
  subst e6; subst e7
  exact z_410 (A 1) 0 _ _ ((C.row (by omega) _).row (by omega) _) ((H5.row (by omega) _).row (by omega) _) (by omega)
end P7
