/-! the kinds that fit what was told -/
/-- what a kind says: of a glove (1) or of a crossing (0) -/
def sy (w k h n : Nat) : Nat := if w = 0 then lA k h n else gA k h n
def fl (A : Nat → Nat) (base w who k : Nat) : Nat → Bool
  | 0 => true
  | r + 1 => if fl A base w who k r = true then (if A (base + 4 * r) = who then decide (sy w k (A (base + 4 * r + 1)) (A (base + 4 * r + 2)) = A (base + 4 * r + 3)) else true) else false
def km (A : Nat → Nat) (base w who n : Nat) : Nat → Int32
  | 0 => 0
  | k + 1 => if fl A base w who k n = true then km A base w who n k ||| ((1 : Int32) <<< (nI k &&& 31)) else km A base w who n k
def fi (b : Bool) : Int32 := if b = true then 1 else 0
theorem sy_le {w k h n : Nat} (hn : n ≤ 8) : sy w k h n ≤ 8 := by
  unfold sy
  have := gA_le (k := k) (h := h) (w := n)
  have := lA_le (k := k) (h := h) hn
  split <;> omega
section O20
variable {σ τ : St} {a1 a2 a3 a4 : Int32}
theorem v_says {w k h n : Nat} (hw : w ≤ 1) (hk : k ≤ 5) (hh : h ≤ 99) (hn : w = 0 → n ≤ 8) (hn' : w = 1 → n ≤ 4) {Q : Int32 → St → Prop} (hq : Q (nI (sy w k h n)) σ) : V_X1_says (nI w) (nI k) (nI h) (nI n) σ Q := by
  unfold V_X1_says B_X1_says_e
  unfold sy at hq
  rcases (by omega : w = 0 ∨ w = 1) with rfl | rfl
  · exact br_t rfl (v_letOver hk (by omega) (hn rfl) hq)
  · exact br_f (by decide) (v_spikesGone hk (by omega) (hn' rfl) hq)
set_option maxHeartbeats 4000000 in
set_option maxRecDepth 100000 in
theorem c_kinds {A : Nat → Nat} {q cn base w who : Nat} (hf : FoR σ q A cn base) (hn : A cn ≤ 6) (hs : Sm A) (hw : w ≤ 1) (hwho : who < 1000) (hb : ∀ r, r < A cn → A (base + 4 * r + 1) ≤ 99 ∧ (w = 0 → A (base + 4 * r + 2) ≤ 8) ∧ (w = 1 → A (base + 4 * r + 2) ≤ 4)) {Q : Int32 → St → Prop} (hq : Q (km A base w who (A cn) 6) σ) : V_X10_kindsThatFit q (nI who) (nI w) σ Q := by
  unfold V_X10_kindsThatFit B_X10_kindsThatFit_e
  have loop : ∀ d k, k + d = 6 → R_X10_kindsThatFit q (nI who) (nI w) Q 5 [km A base w who (A cn) k, nI k] [] σ := by
    intro d
    induction d with
    | zero =>
      intro k hk
      refine i_X10_kindsThatFit_5 _ _ _ _ _ _ _ ?_
      unfold B_X10_kindsThatFit_5
      rw [(by omega : k = 6)]
      exact ⟨fun _ => hq, fun c => absurd (by decide) c⟩
    | succ d ih =>
      intro k hk
      refine i_X10_kindsThatFit_5 _ _ _ _ _ _ _ ?_
      unfold B_X10_kindsThatFit_5
      refine ⟨fun c => absurd (by rw [show (6 : Int32) = nI 6 from rfl, q_le (by omega) (by omega)] at c; exact c) (by omega), fun _ => ?_⟩
      have inner : ∀ d2 r, r + d2 = A cn → R_X10_kindsThatFit q (nI who) (nI w) Q 18 [km A base w who (A cn) k, nI k, fi (fl A base w who k r), nI r] [] σ := by
        intro d2
        induction d2 with
        | zero =>
          intro r hr
          refine i_X10_kindsThatFit_18 _ _ _ _ _ _ _ _ _ ?_
          unfold B_X10_kindsThatFit_18
          rw [hf.1, (by omega : r = A cn)]
          refine ⟨fun _ => ?_, fun c => absurd (by rw [q_le (by omega) (by omega)]; omega) c⟩
          have em : km A base w who (A cn) (k + 1) = if fl A base w who k (A cn) = true then km A base w who (A cn) k ||| ((1 : Int32) <<< (nI k &&& 31)) else km A base w who (A cn) k := rfl
          rw [nI_1]
          unfold fi
          by_cases z : fl A base w who k (A cn) = true
          · rw [if_pos z] at em ⊢
            refine br_f (by decide) (fun v1 e1 => ?_)
            rw [e1, ← em]
            exact ih (k + 1) (by omega)
          · rw [if_neg z] at em ⊢
            refine br_t rfl ?_
            rw [← em]
            exact ih (k + 1) (by omega)
        | succ d2 ih2 =>
          intro r hr
          refine i_X10_kindsThatFit_18 _ _ _ _ _ _ _ _ _ ?_
          unfold B_X10_kindsThatFit_18 V_X6_cell B_X6_cell_e
          obtain ⟨b1, b2, b3⟩ := hb r (by omega)
          have cell : ∀ j, j < 4 → vp_in (nI r * 4 + nI j) 24 ∧ σ (q + 1) (nI r * 4 + nI j).toNatClampNeg = nI (A (base + 4 * r + j)) := fun j hj => by
            have e : nI r * 4 + nI j = nI (4 * r + j) := by rw [show (4 : Int32) = nI 4 from rfl, show nI r * nI 4 = nI (r * 4) from pk_mul r 4, nI_add]; exact congrArg nI (by omega)
            rw [e, nI_clamp (by omega)]
            exact ⟨vp_in_nI (by omega) (by omega), hf.2 r (by omega) j hj⟩
          have x0 := cell 0 (by omega)
          have x1 := cell 1 (by omega)
          have x2 := cell 2 (by omega)
          have x3 := cell 3 (by omega)
          have e0 : base + 4 * r + 0 = base + 4 * r := rfl
          rw [e0] at x0
          rw [hf.1]
          refine ⟨fun c => absurd (by rw [q_le (by omega) (by omega)] at c; exact c) (by omega), fun _ => ⟨x1.1, x2.1, ?_⟩⟩
          rw [show σ (q + 1) (nI r * 4 + 1).toNatClampNeg = _ from x1.2, show σ (q + 1) (nI r * 4 + 2).toNatClampNeg = _ from x2.2]
          refine v_says hw (by omega) b1 b2 b3 ?_
          have ef : fl A base w who k (r + 1) = if fl A base w who k r = true then (if A (base + 4 * r) = who then decide (sy w k (A (base + 4 * r + 1)) (A (base + 4 * r + 2)) = A (base + 4 * r + 3)) else true) else false := rfl
          have nx := ih2 (r + 1) (by omega)
          rw [ef] at nx
          rw [nI_1]
          by_cases z : fl A base w who k r = true
          · rw [if_pos z] at nx
            rw [z]
            refine br_f (by decide) ⟨x0.1, ?_⟩
            rw [show σ (q + 1) (nI r * 4 + 0).toNatClampNeg = _ from x0.2]
            have h0 := hs (base + 4 * r)
            have h3 := hs (base + 4 * r + 3)
            have hsy : sy w k (A (base + 4 * r + 1)) (A (base + 4 * r + 2)) ≤ 8 := sy_le (by
              rcases (by omega : w = 0 ∨ w = 1) with u | u
              · exact b2 u
              · have := b3 u; omega)
            by_cases y : A (base + 4 * r) = who
            · rw [if_pos y] at nx
              refine fr_f (by rw [y]) ⟨x3.1, ?_⟩
              rw [show σ (q + 1) (nI r * 4 + 3).toNatClampNeg = _ from x3.2]
              by_cases x : sy w k (A (base + 4 * r + 1)) (A (base + 4 * r + 2)) = A (base + 4 * r + 3)
              · rw [decide_eq_true x] at nx
                exact fr_f (by rw [x]) nx
              · rw [decide_eq_false x] at nx
                exact fr_t (by rw [q_eq (by omega) (by omega)]; exact x) nx
            · rw [if_neg y] at nx
              exact fr_t (by rw [q_eq (by omega) (by omega)]; exact y) nx
          · rw [if_neg z] at nx
            rw [Bool.eq_false_iff.mpr z]
            exact br_t rfl nx
      exact inner (A cn) 0 (by omega)
  exact loop 6 0 (by omega)
end O20
