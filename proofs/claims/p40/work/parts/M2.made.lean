/-- the street that was made is the row's -/
def FX (A R : Nat → Nat) : Prop := A 0 = R 1 ∧ A 1 = R 2 ∧ (∀ i, i < 6 → A (16 + i) = R (4 + i)) ∧ (∀ g, g < R 1 → A (22 + g) = R (10 + g) ∧ A (30 + g) = R (18 + g)) ∧ (∀ k, k < R 2 → A (37 + k) = R (33 + k) ∧ A (40 + k) = R (36 + k)) ∧ A 2 = 0 ∧ A 3 = 0 ∧ A 4 = 0 ∧ A 14 < 2 ^ A 1
section MD
variable {s : St} {I R : Nat → Nat} {k : Nat} {ρ : Nat → Nat → Int32}
set_option maxHeartbeats 4000000 in
set_option maxRecDepth 100000 in
theorem l_made {F : Int32 → St → Prop} (H : LV s (fun _ => 0) I k ρ) (hf : RR (ρ 81) R) (hR : RO R) (h : ∀ s' A, LV s' A I k ρ → FX A R → A 15 = 0 → F 1 s') : V_L_made s F := by
  obtain ⟨q1, q2, qw, qg, qk⟩ := hR
  unfold V_L_made B_L_made_e
  have l3 : ∀ d j (A : Nat → Nat) (s : St), LV s A I k ρ → A 0 = R 1 → A 1 = j → (∀ i, i < 6 → A (16 + i) = R (4 + i)) → (∀ g, g < R 1 → A (22 + g) = R (10 + g) ∧ A (30 + g) = R (18 + g)) → (∀ i, i < j → A (37 + i) = R (33 + i) ∧ A (40 + i) = R (36 + i)) → A 2 = 0 → A 3 = 0 → A 4 = 0 → A 14 = 0 → A 15 = 0 → j + d = R 2 → R_L_made F 103 [1, nI j] [] s := by
    intro d
    induction d with
    | zero =>
      intro j A s H a0 a1 aw ag' ak a2 a3 a4 a14 a15 e
      refine i_L_made_103 _ _ _ _ ?_
      unfold B_L_made_103
      rw [H.ro (j := 81) (by omega), hf 2 (by omega)]
      refine br_t (by rw [q_le (by omega) (by omega)]; omega) ⟨Or.inr rfl, h s A H ⟨a0, by omega, aw, ag', fun i hi => ak i (by omega), a2, a3, a4, ?_⟩ a15⟩
      rw [a14]
      exact Nat.pow_pos (by omega)
    | succ d ih =>
      intro j A s H a0 a1 aw ag' ak a2 a3 a4 a14 a15 e
      refine i_L_made_103 _ _ _ _ ?_
      unfold B_L_made_103
      obtain ⟨c1, c2, c3, c4⟩ := qk j (by omega)
      rw [H.ro (j := 81) (by omega), hf 2 (by omega), show (33 : Int32) + nI j = nI (33 + j) from nI_add 33 j, show (36 : Int32) + nI j = nI (36 + j) from nI_add 36 j, nI_clamp (n := 33 + j) (by omega), nI_clamp (n := 36 + j) (by omega), hf (33 + j) (by omega), hf (36 + j) (by omega)]
      refine br_f (by rw [q_le (by omega) (by omega)]; omega) (br_f (by decide) ⟨vp_in_nI (by omega) (by omega), vp_in_nI (by omega) (by omega), ?_⟩)
      refine l_crossing H c1 c4 (bh_none (by omega) (fun i hi => ?_)) (by omega) (fun s' H' => ?_)
      · have := ak i (by omega)
        have := qk i (by omega)
        omega
      rw [a1]
      refine fr_f rfl ?_
      rw [nI_1]
      have o : ∀ i, i ≠ 1 → i ≠ 37 + j → i ≠ 40 + j → i ≠ 5 → upN (ac A (R (33 + j)) (R (36 + j))) 5 0 i = A i := fun i h1 h2 h3 h4 => by rw [upN_n h4, ac_o h1 (by omega) (by omega)]
      refine ih (j + 1) _ s' H' ?_ ?_ (fun i hi => ?_) (fun g hg => ?_) (fun i hi => ?_) ?_ ?_ ?_ ?_ ?_ (by omega)
      · rw [o _ (by omega) (by omega) (by omega) (by omega)]; exact a0
      · rw [upN_n (by omega), ac_1, a1]
      · rw [o _ (by omega) (by omega) (by omega) (by omega)]; exact aw i hi
      · rw [o _ (by omega) (by omega) (by omega) (by omega), o _ (by omega) (by omega) (by omega) (by omega)]; exact ag' g hg
      · by_cases z : i = j
        · have x1 : ac A (R (33 + j)) (R (36 + j)) (37 + j) = R (33 + j) := by rw [← a1]; exact ac_k
          have x2 : ac A (R (33 + j)) (R (36 + j)) (40 + j) = R (36 + j) := by rw [← a1]; exact ac_b
          rw [z, upN_n (by omega), upN_n (by omega), x1, x2]
          exact ⟨rfl, rfl⟩
        · rw [o _ (by omega) (by omega) (by omega) (by omega), o _ (by omega) (by omega) (by omega) (by omega)]; exact ak i (by omega)
      · rw [o _ (by omega) (by omega) (by omega) (by omega)]; exact a2
      · rw [o _ (by omega) (by omega) (by omega) (by omega)]; exact a3
      · rw [o _ (by omega) (by omega) (by omega) (by omega)]; exact a4
      · rw [o _ (by omega) (by omega) (by omega) (by omega)]; exact a14
      · rw [o _ (by omega) (by omega) (by omega) (by omega)]; exact a15
  have l2 : ∀ d j (A : Nat → Nat) (s : St), LV s A I k ρ → A 0 = j → A 1 = 0 → (∀ i, i < 6 → A (16 + i) = R (4 + i)) → (∀ g, g < j → A (22 + g) = R (10 + g) ∧ A (30 + g) = R (18 + g)) → A 2 = 0 → A 3 = 0 → A 4 = 0 → A 14 = 0 → A 15 = 0 → j + d = R 1 → R_L_made F 52 [1, nI j] [] s := by
    intro d
    induction d with
    | zero =>
      intro j A s H a0 a1 aw ag' a2 a3 a4 a14 a15 e
      refine i_L_made_52 _ _ _ _ ?_
      unfold B_L_made_52
      rw [H.ro (j := 81) (by omega), hf 1 (by omega)]
      exact br_t (by rw [q_le (by omega) (by omega)]; omega) (l3 (R 2) 0 A s H (by omega) a1 aw (fun g hg => ag' g (by omega)) (fun i hi => absurd hi (by omega)) a2 a3 a4 a14 a15 (by omega))
    | succ d ih =>
      intro j A s H a0 a1 aw ag' a2 a3 a4 a14 a15 e
      refine i_L_made_52 _ _ _ _ ?_
      unfold B_L_made_52
      obtain ⟨c1, c2, c3, c4⟩ := qg j (by omega)
      rw [H.ro (j := 81) (by omega), hf 1 (by omega), show (10 : Int32) + nI j = nI (10 + j) from nI_add 10 j, show (18 : Int32) + nI j = nI (18 + j) from nI_add 18 j, show (25 : Int32) + nI j = nI (25 + j) from nI_add 25 j, nI_clamp (n := 10 + j) (by omega), nI_clamp (n := 18 + j) (by omega), nI_clamp (n := 25 + j) (by omega), hf (10 + j) (by omega), hf (18 + j) (by omega), hf (25 + j) (by omega)]
      refine br_f (by rw [q_le (by omega) (by omega)]; omega) (br_f (by decide) ⟨vp_in_nI (by omega) (by omega), vp_in_nI (by omega) (by omega), vp_in_nI (by omega) (by omega), ?_⟩)
      refine l_glove H c1 c2 c3 c4 (by omega) (fun s' H' => ?_)
      rw [a0]
      refine fr_f rfl ?_
      rw [nI_1]
      have o : ∀ i, i ≠ 0 → i ≠ 6 + j → i ≠ 22 + j → i ≠ 30 + j → i ≠ 5 → upN (ag A (R (10 + j)) (R (18 + j)) (R (25 + j))) 5 0 i = A i := fun i h1 h2 h3 h4 h5 => by rw [upN_n h5, ag_o h1 (by omega) (by omega) (by omega)]
      refine ih (j + 1) _ s' H' ?_ ?_ (fun i hi => ?_) (fun g hg => ?_) ?_ ?_ ?_ ?_ ?_ (by omega)
      · rw [upN_n (by omega), ag_0, a0]
      · rw [o _ (by omega) (by omega) (by omega) (by omega) (by omega)]; exact a1
      · rw [o _ (by omega) (by omega) (by omega) (by omega) (by omega)]; exact aw i hi
      · by_cases z : g = j
        · have x1 : ag A (R (10 + j)) (R (18 + j)) (R (25 + j)) (22 + j) = R (10 + j) := by rw [← a0]; exact ag_kd
          have x2 : ag A (R (10 + j)) (R (18 + j)) (R (25 + j)) (30 + j) = R (18 + j) := by rw [← a0]; exact ag_mk (by omega)
          rw [z, upN_n (by omega), upN_n (by omega), x1, x2]
          exact ⟨rfl, rfl⟩
        · rw [o _ (by omega) (by omega) (by omega) (by omega) (by omega), o _ (by omega) (by omega) (by omega) (by omega) (by omega)]; exact ag' g (by omega)
      · rw [o _ (by omega) (by omega) (by omega) (by omega) (by omega)]; exact a2
      · rw [o _ (by omega) (by omega) (by omega) (by omega) (by omega)]; exact a3
      · rw [o _ (by omega) (by omega) (by omega) (by omega) (by omega)]; exact a4
      · rw [o _ (by omega) (by omega) (by omega) (by omega) (by omega)]; exact a14
      · rw [o _ (by omega) (by omega) (by omega) (by omega) (by omega)]; exact a15
  have l1 : ∀ d j (A : Nat → Nat) (s : St), LV s A I k ρ → A 0 = 0 → A 1 = 0 → (∀ i, i < j → A (16 + i) = R (4 + i)) → (∀ i, j ≤ i → i < 6 → A (16 + i) = 0) → A 2 = 0 → A 3 = 0 → A 4 = 0 → A 14 = 0 → A 15 = 0 → j + d = 6 → R_L_made F 15 [1, nI j] [] s := by
    intro d
    induction d with
    | zero =>
      intro j A s H a0 a1 aw ar a2 a3 a4 a14 a15 e
      refine i_L_made_15 _ _ _ _ ?_
      unfold B_L_made_15
      exact br_t (by rw [show (6 : Int32) = nI 6 from rfl, q_le (by omega) (by omega)]; omega) (l2 (R 1) 0 A s H a0 a1 (fun i hi => aw i (by omega)) (fun g hg => absurd hg (by omega)) a2 a3 a4 a14 a15 (by omega))
    | succ d ih =>
      intro j A s H a0 a1 aw ar a2 a3 a4 a14 a15 e
      refine i_L_made_15 _ _ _ _ ?_
      unfold B_L_made_15
      rw [H.ro (j := 81) (by omega), show (4 : Int32) + nI j = nI (4 + j) from nI_add 4 j, nI_clamp (n := 4 + j) (by omega), hf (4 + j) (by omega)]
      refine br_f (by rw [show (6 : Int32) = nI 6 from rfl, q_le (by omega) (by omega)]; omega) (br_f (by decide) ⟨vp_in_nI (by omega) (by omega), ?_⟩)
      refine l_wet H (by omega) (qw j (by omega)) (fun s' H' => ?_)
      rw [ar j (by omega) (by omega)]
      refine fr_f rfl ?_
      rw [nI_1]
      have o : ∀ i, i ≠ 16 + j → i ≠ 5 → upN (upN A (16 + j) (R (4 + j))) 5 0 i = A i := fun i h1 h2 => by rw [upN_n h2, upN_n h1]
      refine ih (j + 1) _ s' H' ?_ ?_ (fun i hi => ?_) (fun i h1 h2 => ?_) ?_ ?_ ?_ ?_ ?_ (by omega)
      · rw [o _ (by omega) (by omega)]; exact a0
      · rw [o _ (by omega) (by omega)]; exact a1
      · by_cases z : i = j
        · rw [z, upN_n (by omega), upN_s]
        · rw [o _ (by omega) (by omega)]; exact aw i (by omega)
      · rw [o _ (by omega) (by omega)]; exact ar i (by omega) h2
      · rw [o _ (by omega) (by omega)]; exact a2
      · rw [o _ (by omega) (by omega)]; exact a3
      · rw [o _ (by omega) (by omega)]; exact a4
      · rw [o _ (by omega) (by omega)]; exact a14
      · rw [o _ (by omega) (by omega)]; exact a15
  refine l_street H (fun s' H' => fr_f rfl ?_)
  have z : ∀ i, zA (fun _ => 0) i = 0 := fun i => by unfold zA; split <;> rfl
  exact l1 6 0 _ s' H' (z _) (z _) (fun i hi => absurd hi (by omega)) (fun i _ _ => z _) (z _) (z _) (z _) (z _) (z _) (by omega)
end MD
