section P6
variable {L : Nat} {xs : Nat → Int32} {A R : Nat → Nat} {ρ : Nat → Nat → Int32}
theorem q_sq : ∀ a b : Fin 10, (a.val ≤ b.val + 1 ∧ b.val ≤ a.val + 1) ↔ (nI a.val - nI b.val) * (nI a.val - nI b.val) ≤ 1 := by decide +kernel
theorem q_sq2 : ∀ a b : Fin 10, (a.val ≤ b.val + 1 ∧ b.val ≤ a.val + 1) ↔ ¬ 2 ≤ (nI a.val - nI b.val) * (nI a.val - nI b.val) := by decide +kernel
theorem sq_1 {a b : Nat} (ha : a ≤ 9) (hb : b ≤ 9) (h : a ≤ b + 1 ∧ b ≤ a + 1) : (nI a - nI b) * (nI a - nI b) ≤ 1 := (q_sq ⟨a, by omega⟩ ⟨b, by omega⟩).mp h
theorem sq_2 {a b : Nat} (ha : a ≤ 9) (hb : b ≤ 9) (h : ¬ 2 ≤ (nI a - nI b) * (nI a - nI b)) : a ≤ b + 1 ∧ b ≤ a + 1 := (q_sq2 ⟨a, by omega⟩ ⟨b, by omega⟩).mpr h
theorem mi_0 : mi 0 = -1 := rfl
theorem mi_1 {v : Nat} : mi (v + 1) = nI v := by
  unfold mi
  rw [if_neg (by omega)]
  rfl
set_option maxHeartbeats 4000000 in
set_option maxRecDepth 100000 in
theorem z_831 {s : St} {A' : Nat → Nat} (C : CT L A R ρ) (H : LV s A' A 1 ρ) (E : E4 A' A) : R_L_law L xs 831 [nI (A 0), nI (A 1), nI (A 15), nI (oA A), nI (wA A), nI (sA' A)] [] s := by
  refine i_L_law_831 _ ?_
  unfold B_L_law_831
  have hw := H.wf
  have h7 := hw.2.1
  have e0 : A' 0 = A 0 := E 0 (by omega) (by omega)
  have p7 := p2_7 h7
  have p0 : 0 < 2 ^ A' 0 := Nat.pow_pos (by omega)
  obtain ⟨hL, hf, ⟨x0, x1, xw, xg, xk, x2, x3, x4, x14⟩, hR, h15, -⟩ := id C
  have hPS : PS (A' 0) (A' 0) 0 (2 ^ A' 0 - 1) := ⟨h7, by omega, by omega, fun j hj => absurd hj (by omega)⟩
  have hin : ∀ w, w < A' 0 → bi (2 ^ A' 0 - 1) w = true := fun w hw => bi_all.mpr hw
  have hcf : cf (fun w => pc A' w (A' 0) 0 (2 ^ A' 0 - 1)) (A' 0) = 2 * tt A' (2 ^ A' 0 - 1) := pc_many (A' 0) 0 _ hPS
  have hmate : ∀ w, w < A' 0 → pc A' w (A' 0) 0 (2 ^ A' 0 - 1) ≠ 0 → ∃ v, pc A' w (A' 0) 0 (2 ^ A' 0 - 1) = v + 1 ∧ v < A' 0 ∧ v ≠ w ∧ pc A' v (A' 0) 0 (2 ^ A' 0 - 1) = w + 1 ∧ isP A' w v = true := fun w hw h => by
    obtain ⟨v, h1, h2, -, h4, h5, h6⟩ := pc_mate (A' 0) 0 _ hPS w (hin w hw) h
    exact ⟨v, h1, h2, h4, h5, h6⟩
  have hleft : ∀ a b, a < b → b < A' 0 → pc A' a (A' 0) 0 (2 ^ A' 0 - 1) = 0 → pc A' b (A' 0) 0 (2 ^ A' 0 - 1) = 0 → ¬ isP A' a b = true := fun a b h1 h2 h3 h4 => pc_left rfl (A' 0) 0 _ hPS a b h1 (hin a (by omega)) (hin b h2) h3 h4
  have hpt : ∀ w, pt A' w (A' 0) 0 (2 ^ A' 0 - 1) = mi (pc A' w (A' 0) 0 (2 ^ A' 0 - 1)) := fun w => pt_pc _ _ _
  -- what a glove is, in the law's row
  have rk : ∀ w, w < A' 0 → A' (22 + w) = R (10 + w) ∧ A' (30 + w) = R (18 + w) ∧ R (10 + w) ≤ 5 ∧ R (18 + w) ≤ 9 := fun w hw => by
    obtain ⟨y1, y2⟩ := xg w (by omega)
    obtain ⟨y3, y4, y5, y6⟩ := hR.2.2.2.1 w (by omega)
    exact ⟨by rw [E (22 + w) (by omega) (by omega)]; exact y1, by rw [E (30 + w) (by omega) (by omega)]; exact y2, y3, y5⟩
  have isR : ∀ a b, a < A' 0 → b < A' 0 → (isP A' a b = true ↔ R (10 + a) = R (10 + b) ∧ R (18 + a) ≤ R (18 + b) + 1 ∧ R (18 + b) ≤ R (18 + a) + 1) := fun a b ha hb => by
    unfold isP
    rw [decide_eq_true_eq, (rk a ha).1, (rk a ha).2.1, (rk b hb).1, (rk b hb).2.1]
  refine l_pairsAll H (fun s1 H1 => ?_)
  have htt := tt_b (A := A') (s := 2 ^ A' 0 - 1) (by omega)
  generalize tt A' (2 ^ A' 0 - 1) = T at *
  generalize hm : (fun w => pc A' w (A' 0) 0 (2 ^ A' 0 - 1)) = m at *
  have em : ∀ w, pc A' w (A' 0) 0 (2 ^ A' 0 - 1) = m w := fun w => by rw [← hm]
  have hpt : ∀ w, pt A' w (A' 0) 0 (2 ^ A' 0 - 1) = mi (m w) := fun w => by rw [hpt, em]
  simp only [em] at hmate hleft
  have outer : ∀ d g (s : St), LV s A' A 1 ρ → g + d = A 0 → R_L_law L xs 844 [nI (A 0), nI (A 1), nI (A 15), nI (oA A), nI (wA A), nI (sA' A), nI T, nI (cf m g), nI g] [] s := by
    intro d
    induction d with
    | zero =>
      intro g s H hg
      refine i_L_law_844 _ ?_
      unfold B_L_law_844
      refine br_t (by rw [q_le (by omega) (by omega)]; omega) (br_t ?_ (z_1066 C H E))
      rw [show (2 : Int32) * nI T = nI (2 * T) from pk_mul 2 T, (by omega : g = A' 0), hcf]
    | succ d ih =>
      intro g s H hg
      refine i_L_law_844 _ ?_
      unfold B_L_law_844
      refine br_f (by rw [q_le (by omega) (by omega)]; omega) (l_pairs H (by omega) (fun s1 H1 => ?_))
      rw [hpt]
      have ecf : cf m (g + 1) = cf m g + (if m g = 0 then 0 else 1) := rfl
      have hcl := cf_le (f := m) g
      -- the gloves before it
      have inner : ∀ (q : Int32), (0 ≤ q ↔ ¬ m g = 0) → ∀ e j (s : St), LV s A' A 1 ρ → j + e = g → R_L_law L xs 965 [nI (A 0), nI (A 1), nI (A 15), nI (oA A), nI (wA A), nI (sA' A), nI T, nI (cf m (g + 1)), nI g, q, nI j] [] s := by
        intro q hq e
        induction e with
        | zero =>
          intro j s H hj
          refine i_L_law_965 _ ?_
          unfold B_L_law_965
          refine br_t (by rw [q_le (by omega) (by omega)]; omega) ?_
          rw [nI_1]
          exact ih (g + 1) s H (by omega)
        | succ e ihj =>
          intro j s H hj
          refine i_L_law_965 _ ?_
          unfold B_L_law_965
          have next : ∀ (t : Int32) (s : St), LV s A' A 1 ρ → (t = 0 ∨ (m g = 0 ∧ m j = 0)) → R_L_law L xs 991 [nI (A 0), nI (A 1), nI (A 15), nI (oA A), nI (wA A), nI (sA' A), nI T, nI (cf m (g + 1)), nI g, q, nI j, t] [] s := fun t s H ht => by
            refine i_L_law_991 _ ?_
            unfold B_L_law_991
            have kg := rk g (by omega)
            have kj := rk j (by omega)
            rw [H.ro (j := 81) (by omega), show (18 : Int32) + nI g = nI (18 + g) from nI_add 18 g, show (18 : Int32) + nI j = nI (18 + j) from nI_add 18 j, show (10 : Int32) + nI g = nI (10 + g) from nI_add 10 g, show (10 : Int32) + nI j = nI (10 + j) from nI_add 10 j, nI_clamp (n := 18 + g) (by omega), nI_clamp (n := 18 + j) (by omega), nI_clamp (n := 10 + g) (by omega), nI_clamp (n := 10 + j) (by omega), hf (18 + g) (by omega), hf (18 + j) (by omega), hf (10 + g) (by omega), hf (10 + j) (by omega)]
            refine ⟨vp_in_nI (by omega) (by omega), vp_in_nI (by omega) (by omega), fun v1 e1 => ?_⟩
            subst e1
            have nx : R_L_law L xs 965 [nI (A 0), nI (A 1), nI (A 15), nI (oA A), nI (wA A), nI (sA' A), nI T, nI (cf m (g + 1)), nI g, q, nI j + 1] [] s := by
              rw [nI_1]
              exact ihj (j + 1) s H (by omega)
            refine ⟨fun _ => nx, fun ht0 => ⟨vp_in_nI (by omega) (by omega), vp_in_nI (by omega) (by omega), fun _ => nx, fun c1 => ⟨fun _ => nx, fun c2 => ?_⟩⟩⟩
            rcases ht with ht | ⟨h1, h2⟩
            · exact ht0 ht
            · have c3 := sq_2 (by omega) (by omega) c2
              rw [q_eq (by omega) (by omega)] at c1
              exact hleft j g (by omega) (by omega) h2 h1 ((isR j g (by omega) (by omega)).mpr ⟨c1.symm, c3.2, c3.1⟩)
          refine br_f (by rw [q_le (by omega) (by omega)]; omega) ⟨fun _ => next 0 s H (Or.inl rfl), fun c => l_pairs H (by omega) (fun s2 H2 => ?_)⟩
          rw [hpt]
          have cg : m g = 0 := Classical.byContradiction (fun z => c (hq.mpr z))
          by_cases z : m j = 0
          · rw [z, mi_0]
            exact br_f (by decide) (next 1 s2 H2 (Or.inr ⟨cg, z⟩))
          · obtain ⟨v, h1, h2, h3⟩ := hmate j (by omega) z
            rw [h1, mi_1]
            exact br_t (by rw [show (0 : Int32) = nI 0 from rfl, q_le (by omega) (by omega)]; omega) (next 0 s2 H2 (Or.inl rfl))
      by_cases z : m g = 0
      · rw [z, mi_0]
        rw [if_pos z] at ecf
        refine br_t (by decide) (i_L_law_870 _ ?_)
        unfold B_L_law_870
        refine br_f (by decide) (br_f (fun c => ?_) (br_f (fun c => ?_) (br_t (by decide) ?_)))
        · have := m1_lt (s := A 0) (by omega)
          exact Int32.lt_irrefl (Int32.lt_of_lt_of_le this c)
        · have := m1_lt (s := g) (by omega)
          rw [c] at this
          exact Int32.lt_irrefl this
        · rw [show nI (cf m g) + 0 = nI (cf m g + 0) from nI_add _ 0, ← ecf]
          exact inner (-1) ⟨fun c => absurd c (by decide), fun c => absurd z c⟩ g 0 s1 H1 (by omega)
      · obtain ⟨v, h1, h2, h3, h4, h5⟩ := hmate g (by omega) z
        rw [h1, mi_1]
        rw [if_neg z] at ecf
        have v0 : ¬ nI v < 0 := by rw [show (0 : Int32) = nI 0 from rfl, q_lt (by omega) (by omega)]; omega
        refine br_f v0 (i_L_law_870 _ ?_)
        unfold B_L_law_870
        refine br_f (fun c => Int32.lt_irrefl (Int32.lt_trans (m1_lt (s := v) (by omega)) c)) (br_f (by rw [q_le (by omega) (by omega)]; omega) (br_f (by rw [q_eq (by omega) (by omega)]; exact h3) (br_f v0 ?_)))
        refine l_pairs H1 h2 (fun s2 H2 => ?_)
        have kg := rk g (by omega)
        have kv := rk v h2
        have hi := (isR g v (by omega) h2).mp h5
        rw [hpt, h4, mi_1, H2.ro (j := 81) (by omega), show (18 : Int32) + nI g = nI (18 + g) from nI_add 18 g, show (18 : Int32) + nI v = nI (18 + v) from nI_add 18 v, show (10 : Int32) + nI g = nI (10 + g) from nI_add 10 g, show (10 : Int32) + nI v = nI (10 + v) from nI_add 10 v, nI_clamp (n := 18 + g) (by omega), nI_clamp (n := 18 + v) (by omega), nI_clamp (n := 10 + g) (by omega), nI_clamp (n := 10 + v) (by omega), hf (18 + g) (by omega), hf (18 + v) (by omega), hf (10 + g) (by omega), hf (10 + v) (by omega)]
        refine fr_f rfl ⟨vp_in_nI (by omega) (by omega), vp_in_nI (by omega) (by omega), fr_f (by rw [hi.1]) ⟨vp_in_nI (by omega) (by omega), vp_in_nI (by omega) (by omega), vp_in_nI (by omega) (by omega), vp_in_nI (by omega) (by omega), br_t (sq_1 (by omega) (by omega) hi.2) ?_⟩⟩
        rw [show nI (cf m g) + 1 = nI (cf m g + 1) from nI_1 _, ← ecf]
        exact inner (nI v) ⟨fun _ => z, fun _ => by rw [show (0 : Int32) = nI 0 from rfl, q_le (by omega) (by omega)]; omega⟩ g 0 s2 H2 (by omega)
  exact outer (A 0) 0 s1 H1 (by omega)
end P6
