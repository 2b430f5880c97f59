theorem LV.wfI {s : St} {A I : Nat → Nat} {ρ : Nat → Nat → Int32} (H : LV s A I 1 ρ) : WFA I := by
  obtain ⟨S, B, HC, HW, -, hI, -⟩ := H
  obtain ⟨h1, rfl⟩ := hI rfl
  exact HW.2.1 h1
section P9
variable {L : Nat} {xs : Nat → Int32} {A : Nat → Nat} {ρ : Nat → Nat → Int32}
abbrev oA (A : Nat → Nat) : Nat := cnt A 23 (A 0)
abbrev wA (A : Nat → Nat) : Nat := wg A (A 0)
abbrev sA' (A : Nat → Nat) : Nat := pb 3 (A 14)
set_option maxHeartbeats 4000000 in
set_option maxRecDepth 100000 in
theorem z_2263 {s : St} {A' : Nat → Nat} (H : LV s A' A 1 ρ) (E : E4 A' A) : R_L_law L xs 2263 [nI (A 0), nI (A 15), nI (oA A), nI (wA A), nI (sA' A)] [] s := by
  refine i_L_law_2263 _ ?_
  unfold B_L_law_2263
  have e0 : A' 0 = A 0 := E 0 (by omega) (by omega)
  have h7 := H.wf.2.1
  refine l_count (w := 2) H (Or.inr (Or.inl ⟨rfl, rfl⟩)) (fun s1 H1 => fr_f (by rw [E 15 (by omega) (by omega)]) ?_)
  refine l_count (w := 4) H1 (Or.inr (Or.inr (Or.inr (Or.inl ⟨rfl, rfl⟩)))) (fun s2 H2 => fr_f (by rw [e0, E4_wg E _ (by omega)]) ?_)
  refine l_count (w := 5) H2 (Or.inr (Or.inr (Or.inr (Or.inr ⟨rfl, rfl⟩)))) (fun s3 H3 => fr_f (by rw [E 14 (by omega) (by omega)]) ?_)
  refine l_from H3 (fun s4 H4 => fr_f rfl ?_)
  refine l_count (w := 3) H4 (Or.inr (Or.inr (Or.inl ⟨rfl, rfl⟩))) (fun s5 H5 => fr_f rfl ?_)
  exact l_count (w := 0) H5 (Or.inl ⟨rfl, rfl⟩) (fun s6 H6 => fr_f rfl trivial)
set_option maxHeartbeats 4000000 in
set_option maxRecDepth 100000 in
theorem z_2234 {A' : Nat → Nat} (E : E4 A' A) (hat : ∀ g, g < A 0 → ρ 82 g = nI (A (6 + g))) : ∀ (d g : Nat) (s : St), LV s A' A 1 ρ → g + d = A 0 → R_L_law L xs 2234 [nI (A 0), nI (A 15), nI (oA A), nI (wA A), nI (sA' A), nI g] [] s := by
  have e0 : A' 0 = A 0 := E 0 (by omega) (by omega)
  intro d
  induction d with
  | zero =>
    intro g s H hg
    refine i_L_law_2234 _ ?_
    unfold B_L_law_2234
    have h7 := H.wf.2.1
    exact br_t (by rw [q_le (by omega) (by omega)]; omega) (z_2263 H E)
  | succ d ih =>
    intro g s H hg
    refine i_L_law_2234 _ ?_
    unfold B_L_law_2234
    have h7 := H.wf.2.1
    refine br_f (by rw [q_le (by omega) (by omega)]; omega) (l_of2 H (by omega) (fun s1 H1 => ⟨vp_in_nI (by omega) (by omega), br_t ?_ ?_⟩))
    · rw [nI_clamp (by omega), H1.ro (j := 82) (by omega), hat g (by omega), E (6 + g) (by omega) (by omega)]
    · rw [nI_1]
      exact ih (g + 1) s1 H1 (by omega)
set_option maxHeartbeats 4000000 in
set_option maxRecDepth 100000 in
theorem z_2209 (hat : ∀ g, g < A 0 → ρ 82 g = nI (A (6 + g))) {D : Nat} (hD : D ≤ 8) : ∀ (d j : Nat) (A' : Nat → Nat) (s : St), LV s A' A 1 ρ → UD d A' A → j + d = D → R_L_law L xs 2209 [nI (A 0), nI (A 15), nI (oA A), nI (wA A), nI (sA' A), nI D, nI j] [] s := by
  intro d
  induction d with
  | zero =>
    intro j A' s H hU hj
    refine i_L_law_2209 _ ?_
    unfold B_L_law_2209
    refine br_t (by rw [q_le (by omega) (by omega)]; omega) (i_L_law_2231 _ ?_)
    unfold B_L_law_2231
    exact z_2234 hU hat (A 0) 0 s H (by omega)
  | succ d ih =>
    intro j A' s H hU hj
    refine i_L_law_2209 _ ?_
    unfold B_L_law_2209
    refine br_f (by rw [q_le (by omega) (by omega)]; omega) (l_undo H hU.1 (fun s1 H1 => br_t ?_ ?_))
    · have := H1.wf.2.2.1
      rw [show (0 : Int32) = nI 0 from rfl, q_le (by omega) (by omega)]
      omega
    · rw [nI_1]
      exact ih (j + 1) (ub A') s1 H1 hU.2 (by omega)
set_option maxHeartbeats 4000000 in
set_option maxRecDepth 100000 in
theorem z_2128 (hL : L ≤ 260) (hat : ∀ g, g < A 0 → ρ 82 g = nI (A (6 + g))) {N : Nat} (hN : N ≤ 8) : ∀ (d t D : Nat) (A' : Nat → Nat) (s : St), LV s A' A 1 ρ → UD D A' A → D ≤ t → t + d = N → R_L_law L xs 2128 [nI (A 0), nI (A 15), nI (oA A), nI (wA A), nI (sA' A), nI N, nI D, nI t] [] s := by
  intro d
  induction d with
  | zero =>
    intro t D A' s H hU hD ht
    refine i_L_law_2128 _ ?_
    unfold B_L_law_2128
    refine br_t (by rw [q_le (by omega) (by omega)]; omega) (i_L_law_2206 _ ?_)
    unfold B_L_law_2206
    exact z_2209 hat (by omega) D 0 A' s H hU (by omega)
  | succ d ih =>
    intro t D A' s H hU hD ht
    refine i_L_law_2128 _ ?_
    unfold B_L_law_2128
    have hw := H.wf
    have h7 := hw.2.1
    have h3 := hw.1.2.1
    have h8 := hw.2.2.2.2.2.2.1
    refine br_f (by rw [q_le (by omega) (by omega)]; omega) (l_cell (nI_add 34 t) hL (by omega) (fun v1 => ?_))
    have yes : ∀ (v : Nat) (X : Nat → Nat) (s' : St), v < 2147483648 → LV s' X A 1 ρ → UD (D + 1) X A → R_L_law L xs 2183 [nI (A 0), nI (A 15), nI (oA A), nI (wA A), nI (sA' A), nI N, nI D, nI t, nI v] [] s' := fun v X s' hv H' hU' => by
      refine i_L_law_2183 _ ?_
      unfold B_L_law_2183
      refine br_f (by rw [show (0 : Int32) = nI 0 from rfl, q_lt (by omega) (by omega)]; omega) ?_
      rw [nI_1, nI_1]
      exact ih (t + 1) (D + 1) X s' H' hU' (by omega) (by omega)
    refine ⟨fun _ => l_up (n := 3) rfl (by omega) (by omega) (fun r hr => ?_), fun _ => l_up (n := 30) rfl (by omega) (by omega) (fun r hr => ?_)⟩
    · by_cases c : r < A' 1
      · refine l_shuts H c (fun s1 H1 => yes _ _ s1 ?_ H1 (UD_tn hU (by omega) h8))
        have := Nat.mod_lt (tn A' r 14 / 2 ^ r) (show 0 < 2 by omega)
        omega
      · refine l_shutsBad H (by omega) (by omega) (fun s1 H1 => i_L_law_2183 _ ?_)
        unfold B_L_law_2183
        refine br_t (by decide) ?_
        rw [show nI D + 0 = nI (D + 0) from nI_add D 0, nI_1]
        exact ih (t + 1) D A' s1 H1 hU (by omega) (by omega)
    · rw [show (1 : Int32) + nI r = nI (1 + r) from nI_add 1 r]
      refine l_hours H (by omega) (by omega) (fun s1 H1 => yes _ _ s1 ?_ H1 (UD_hs hU (by omega) h8 h7))
      have := cnt_le (a := hsA A' (1 + r)) (s := 23) (A' 0)
      omega
end P9
