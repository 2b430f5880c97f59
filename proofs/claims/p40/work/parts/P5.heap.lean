/-- how many wait at a spike, as they come -/
def tc (X : Nat → Nat) (w : Int32) : Nat → Nat
  | 0 => 0
  | k + 1 => tc X w k + (if nI (X (40 + k)) = w then hc X k else 0)
theorem tc_le {X : Nat → Nat} {w : Int32} (h0 : X 0 ≤ 8) : ∀ k, tc X w k ≤ 8 * k
  | 0 => Nat.le_refl _
  | k + 1 => by
    have := tc_le (X := X) (w := w) h0 k
    have hl : hc X k ≤ X 0 := cnt_le _
    unfold tc
    split <;> omega
theorem tc_0 {X : Nat → Nat} {w : Int32} : ∀ k, (∀ j, j < k → hc X j = 0) → tc X w k = 0
  | 0, _ => rfl
  | k + 1, h => by
    unfold tc
    rw [tc_0 k (fun j hj => h j (by omega)), h k (by omega)]
    split <;> rfl
theorem tc_1 {X : Nat → Nat} {k0 : Nat} (hB : Bd X) (h0 : k0 < X 1) : ∀ k, k ≤ X 1 → tc X (nI (X (40 + k0))) k = if k0 < k then hc X k0 else 0
  | 0, _ => by rw [if_neg (by omega)]; rfl
  | k + 1, h => by
    have b1 := (hB.2.2.2.2.2.2.1 k (by omega)).2
    have b2 := (hB.2.2.2.2.2.2.1 k0 h0).2
    unfold tc
    rw [tc_1 hB h0 k (by omega)]
    by_cases z : k = k0
    · subst z
      rw [if_neg (by omega), if_pos rfl, if_pos (by omega)]
      omega
    · rw [if_neg (fun e => z (hB.2.2.2.2.2.2.2.1 k k0 (by omega) h0 ((q_eq (a := X (40 + k)) (b := X (40 + k0)) (by omega) (by omega)).mp e)))]
      by_cases y : k0 < k
      · rw [if_pos y, if_pos (by omega)]; rfl
      · rw [if_neg y, if_neg (by omega)]
theorem wb_0 {X : Nat → Nat} {n : Nat} : ∀ k, (∀ j, j < k → cnt X (X (40 + j)) n = 0) → wb X n k = 0
  | 0, _ => rfl
  | k + 1, h => by
    show wb X n k + cnt X (X (40 + k)) n = 0
    rw [wb_0 k (fun j hj => h j (by omega)), h k (by omega)]
theorem E4_hc {a b : Nat → Nat} (E : E4 a b) (h0 : a 0 ≤ 8) {k : Nat} (hk : k < 3) : hc a k = hc b k := by
  unfold hc
  rw [← E (40 + k) (by omega) (by omega), ← E 0 (by omega) (by omega)]
  exact E4_cnt E _ _ (by omega)
section P5
variable {L : Nat} {xs : Nat → Int32} {A R : Nat → Nat} {ρ : Nat → Nat → Int32}
set_option maxHeartbeats 4000000 in
set_option maxRecDepth 100000 in
theorem z_1175 {X : Nat → Nat} {w : Int32} {hh : Nat} (C : CT L A R ρ) (e1 : X 1 = A 1) (hle : ∀ k, k < A 1 → hc X k ≤ hh) (hh8 : hh ≤ 8) (hend : tc X w (A 1) = hh) : ∀ (d k : Nat) (s : St), LV s X A 1 ρ → k + d = A 1 → R_L_law L xs 1175 [nI (A 0), nI (A 1), nI (A 15), nI (oA A), nI (wA A), nI (sA' A), nI hh, w, nI (tc X w k), nI k] [] s := by
  intro d
  induction d with
  | zero =>
    intro k s H hk
    refine i_L_law_1175 _ ?_
    unfold B_L_law_1175
    have h3 := H.wf.1.2.1
    refine br_t (by rw [q_le (by omega) (by omega)]; omega) (fr_f (by rw [(by omega : k = A 1), hend]) ?_)
    exact l_from H (fun s1 H1 => br_t rfl (z_1247 C H1))
  | succ d ih =>
    intro k s H hk
    refine i_L_law_1175 _ ?_
    unfold B_L_law_1175
    have h3 := H.wf.1.2.1
    have hl := hle k (by omega)
    have e : tc X w (k + 1) = tc X w k + (if nI (X (40 + k)) = w then hc X k else 0) := rfl
    refine br_f (by rw [q_le (by omega) (by omega)]; omega) (l_ab3 H (by omega) (fun s1 H1 => l_ab1 H1 (by omega) (fun s2 H2 => ?_)))
    have nx := ih (k + 1) s2 H2 (by omega)
    rw [e] at nx
    refine ⟨fun c => i_L_law_1211 _ ?_, fun c => i_L_law_1211 _ ?_⟩
    · unfold B_L_law_1211
      rw [if_neg c] at nx
      refine br_t (by rw [q_le (by omega) (by omega)]; exact hl) ?_
      rw [show nI (tc X w k) + 0 = nI (tc X w k + 0) from nI_add _ 0, nI_1]
      exact nx
    · unfold B_L_law_1211
      rw [if_pos c] at nx
      refine br_t (by rw [q_le (by omega) (by omega)]; exact hl) ?_
      rw [nI_add, nI_1]
      exact nx
set_option maxHeartbeats 4000000 in
set_option maxRecDepth 100000 in
theorem z_1066 {s : St} {A' : Nat → Nat} (C : CT L A R ρ) (H : LV s A' A 1 ρ) (E : E4 A' A) : R_L_law L xs 1066 [nI (A 0), nI (A 1), nI (A 15), nI (oA A), nI (wA A), nI (sA' A)] [] s := by
  refine i_L_law_1066 _ ?_
  unfold B_L_law_1066
  have hw := H.wf
  have h7 := hw.2.1
  have h3 := hw.1.2.1
  have h15 := C.2.2.2.2.1
  have e0 : A' 0 = A 0 := E 0 (by omega) (by omega)
  have e1 : A' 1 = A 1 := E 1 (by omega) (by omega)
  have e15 : A' 15 = A 15 := E 15 (by omega) (by omega)
  have eo : cnt A' 23 (A' 0) = oA A := by rw [e0]; exact E4_cnt E _ _ (by omega)
  have hol : oA A ≤ A 0 := cnt_le _
  have hwl : wA A ≤ A 0 := wg_le _
  have ewg : wA A = wb A' (A' 0) (A' 1) := by rw [wb_wg hw.1, e0]; exact (E4_wg E _ (by omega)).symm
  refine l_heap H (fun p s1 hp1 H1 => l_heap1 H1 (fun p2 s2 hp2 H2 => l_heap2 H2 (fun p3 s3 hp3 H3 => ?_)))
  have ep2 := hp_u 31 p2 p hp2 hp1
  have ep3 := hp_u 31 p3 p hp3 hp1
  subst ep2
  subst ep3
  obtain ⟨b1, b2, b3⟩ := hp_b (by omega) 31 p3 hp1
  -- what follows the hours, whatever the heap is
  have go : ∀ (hh h : Nat) (w : Int32), h ≤ 30 → (∀ X, E4 X (it h A') → X 1 = A 1 → WFA X → (∀ k, k < A 1 → hc X k ≤ hh) ∧ tc X w (A 1) = hh) → hh ≤ 8 → (nI h ≤ 0 → R_L_law L xs 1175 [nI (A 0), nI (A 1), nI (A 15), nI (oA A), nI (wA A), nI (sA' A), nI hh, w, 0, 0] [] s3) ∧ (¬ nI h ≤ 0 → V_X10_hours (nI h) s3 (LF s3 (fun r1 s1 => (nI (oA A) ≤ r1 → R_L_law L xs 1175 [nI (A 0), nI (A 1), nI (A 15), nI (oA A), nI (wA A), nI (sA' A), nI hh, w, 0, 0] [] s1) ∧ (¬ nI (oA A) ≤ r1 → False)))) := fun hh h w hh30 hX hh8 => by
    rw [show (0 : Int32) = nI 0 from rfl, q_le (by omega) (by omega)]
    refine ⟨fun c => ?_, fun c => ?_⟩
    · have z : h = 0 := by omega
      subst z
      obtain ⟨x1, x2⟩ := hX A' E4.rf e1 hw
      exact z_1175 C e1 x1 hh8 x2 (A 1) 0 s3 H3 (by omega)
    · refine l_hours H3 (by omega) (by omega) (fun s4 H4 => ?_)
      have EX := hs_E4 (A := A') (m := h) h7 (by omega)
      have q1 : hsA A' h 1 = A 1 := by rw [EX 1 (by omega) (by omega), it_lo (by omega), e1]
      obtain ⟨x1, x2⟩ := hX _ EX q1 H4.wf
      have c2 : cnt A' 23 (A' 0) ≤ cnt (hsA A' h) 23 (A' 0) := cnt_mo _ (fun g hg q => by
        rw [EX (6 + g) (by omega) (by omega)]
        exact it_23 (n := 0) hw.1 hg (by omega) (by omega) q)
      have c3 := cnt_le (a := hsA A' h) (s := 23) (A' 0)
      refine br_t (by rw [q_le (by omega) (by omega)]; omega) (z_1175 C q1 x1 hh8 x2 (A 1) 0 s4 H4 (by omega))
  rcases hp_ok (by omega) 31 p3 hp1 with ⟨e, h5⟩ | ⟨h, k0, l1, l2, e, l3, l4, l5⟩
  · subst e
    refine br_f (by decide) (br_f (by rw [show nI (0, 0, (-1 : Int32)).1 = nI 0 from rfl, q_lt (by omega) (by omega)]; omega) ?_)
    have ew : wA A = 0 := by
      rw [ewg]
      exact wb_0 _ (fun j hj => h5 0 (by omega) j hj)
    rw [ew]
    refine br_t (by decide) (i_L_law_1110 _ ?_)
    unfold B_L_law_1110
    refine br_f (by decide) (fr_f rfl (i_L_law_1123 _ ?_))
    unfold B_L_law_1123
    refine fr_f rfl (i_L_law_1134 _ ?_)
    unfold B_L_law_1134
    refine fr_f rfl (br_f (by decide) (br_t (by decide) ?_))
    have g := go 0 0 (-1) (by omega) (fun X EX x1 wX => by
      have x0 : X 0 ≤ 8 := by have := wX.2.1; omega
      have hz : ∀ k, k < A 1 → hc X k = 0 := fun k hk => by
        rw [E4_hc EX x0 (by omega)]
        exact h5 0 (by omega) k (by omega)
      exact ⟨fun k hk => by rw [hz k hk]; omega, tc_0 _ hz⟩) (by omega)
    rw [ew] at g
    exact g
  · subst e
    have e40 := (hw.1.2.2.2.2.2.2.1 k0 l2).2
    have hcl : hc (it h A') k0 ≤ 8 := b1
    have hcn : hc (it h A') k0 ≤ A 0 := by
      have := cnt_le (a := it h A') (s := it h A' (40 + k0)) (it h A' 0)
      have z : it h A' 0 = A' 0 := it_lo (by omega) h
      show cnt (it h A') (it h A' (40 + k0)) (it h A' 0) ≤ A 0
      omega
    show (nI (hc (it h A') k0) < 0 → False) ∧ (¬ nI (hc (it h A') k0) < 0 → _)
    refine br_f (by rw [show (0 : Int32) = nI 0 from rfl, q_lt (by omega) (by omega)]; omega) (br_f (by rw [q_lt (by omega) (by omega)]; omega) ?_)
    have k34 : R_L_law L xs 1134 [nI (A 0), nI (A 1), nI (A 15), nI (oA A), nI (wA A), nI (sA' A), nI (hc (it h A') k0), nI h, nI (A' (40 + k0)), 0, 0] [] s3 := by
      refine i_L_law_1134 _ ?_
      unfold B_L_law_1134
      refine fr_f rfl (br_f (by rw [show (0 : Int32) = nI 0 from rfl, q_lt (by omega) (by omega)]; omega) (br_t (by rw [show (30 : Int32) = nI 30 from rfl, q_le (by omega) (by omega)]; omega) ?_))
      refine go _ h _ (by omega) (fun X EX x1 wX => ?_) hcl
      have x0 : X 0 ≤ 8 := by have := wX.2.1; omega
      have hz : ∀ k, k < A 1 → hc X k = hc (it h A') k := fun k hk => E4_hc EX x0 (by omega)
      refine ⟨fun k hk => by rw [hz k hk]; exact l4 k (by omega), ?_⟩
      have x40 : X (40 + k0) = A' (40 + k0) := by rw [EX (40 + k0) (by omega) (by omega), it_hi (by omega) (by omega)]
      rw [← x40, tc_1 wX.1 (by omega) (A 1) (by omega), if_pos (by omega), hz k0 (by omega)]
    have k23 : R_L_law L xs 1123 [nI (A 0), nI (A 1), nI (A 15), nI (oA A), nI (wA A), nI (sA' A), nI (hc (it h A') k0), nI h, nI (A' (40 + k0)), 0] [] s3 := by
      refine i_L_law_1123 _ ?_
      unfold B_L_law_1123
      refine fr_t (fun c => ?_) k34
      have := m1_lt (s := A' (40 + k0)) (by omega)
      rw [c] at this
      exact Int32.lt_irrefl this
    have k10 : ∀ t, t ≤ 1 → R_L_law L xs 1110 [nI (A 0), nI (A 1), nI (A 15), nI (oA A), nI (wA A), nI (sA' A), nI (hc (it h A') k0), nI h, nI (A' (40 + k0)), nI t, nI (hc (it h A') k0)] [] s3 := fun t ht => by
      refine i_L_law_1110 _ ?_
      unfold B_L_law_1110
      exact br_f (by rw [q_lt (by omega) (by omega)]; omega) (fr_t (by rw [show (0 : Int32) = nI 0 from rfl, q_eq (by omega) (by omega)]; omega) k23)
    exact ⟨fun _ => k10 0 (by omega), fun _ => k10 1 (by omega)⟩
end P5
