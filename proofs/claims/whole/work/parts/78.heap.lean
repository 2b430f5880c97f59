/-! the greatest heap -/
abbrev HP : Type := Nat × Nat × Int32
def hc (A : Nat → Nat) (k : Nat) : Nat := cnt A (A (40 + k)) (A 0)
def Iv (A : Nat → Nat) (m : Nat) (P : Nat → Prop) (p p' : HP) : Prop := (p' = p ∧ ∀ k, k < A 1 → P k → hc A k ≤ p.1) ∨ (∃ k0, k0 < A 1 ∧ P k0 ∧ p' = (hc A k0, m, nI (A (40 + k0))) ∧ p.1 < hc A k0 ∧ ∀ k, k < A 1 → P k → hc A k ≤ hc A k0 ∧ (hc A k = hc A k0 → A (40 + k0) ≤ A (40 + k)))
def hpr (A : Nat → Nat) : Nat → HP → Prop
  | 0, p => p = (0, 0, -1)
  | m + 1, p => ∃ q, hpr A m q ∧ Iv (it m A) m (fun _ => True) q p
theorem Iv_u {A : Nat → Nat} {m : Nat} {p a b : HP} (h : Iv A m (fun _ => True) p a) (h' : Iv A m (fun _ => True) p b) : a = b := by
  rcases h with ⟨e, h1⟩ | ⟨k0, k1, -, e, h1, h2⟩ <;> rcases h' with ⟨e', h1'⟩ | ⟨k0', k1', -, e', h1', h2'⟩
  · rw [e, e']
  · have := h1 k0' k1' trivial; omega
  · have := h1' k0 k1 trivial; omega
  · have x := h2 k0' k1' trivial
    have x' := h2' k0 k1 trivial
    have ec : hc A k0' = hc A k0 := by omega
    have es : A (40 + k0') = A (40 + k0) := Nat.le_antisymm (x'.2 ec.symm) (x.2 ec)
    rw [e, e', ec, es]
theorem hp_u {A : Nat → Nat} : ∀ m p q, hpr A m p → hpr A m q → p = q
  | 0, _, _, h, h' => h.trans h'.symm
  | m + 1, p, q, ⟨x, h1, h2⟩, ⟨y, h1', h2'⟩ => by
    have := hp_u m x y h1 h1'
    subst this
    exact Iv_u h2 h2'
theorem hp_b {A : Nat → Nat} (h0 : A 0 ≤ 8) : ∀ m p, hpr A m p → p.1 ≤ 8 ∧ p.2.1 ≤ m ∧ (p.2.1 < m ∨ p.2.2 = -1)
  | 0, p, h => by
    have : p = (0, 0, -1) := h
    subst this
    exact ⟨by decide, by decide, Or.inr rfl⟩
  | m + 1, p, ⟨q, h1, h2⟩ => by
    obtain ⟨b1, b2, b3⟩ := hp_b h0 m q h1
    rcases h2 with ⟨e, -⟩ | ⟨k0, -, -, e, -, -⟩
    · subst e
      refine ⟨b1, by omega, ?_⟩
      rcases b3 with b3 | b3
      · exact Or.inl (by omega)
      · exact Or.inr b3
    · subst e
      have := cnt_le (a := it m A) (s := it m A (40 + k0)) (it m A 0)
      have e0 : it m A 0 = A 0 := it_lo (by omega) m
      exact ⟨show hc (it m A) k0 ≤ 8 by unfold hc; omega, show m ≤ m + 1 by omega, Or.inl (show m < m + 1 by omega)⟩
section O28
variable {σ τ : St} {a1 a2 a3 a4 : Int32}
def Hp (σ : St) (p : HP) : Prop := σ 55 1 = nI p.1 ∧ σ 55 2 = nI p.2.1 ∧ σ 55 3 = p.2.2
set_option maxHeartbeats 4000000 in
set_option maxRecDepth 100000 in
theorem c_take {p : HP} {n m s : Nat} (h : Hp σ p) (b1 : p.1 < 1000) (b2 : p.2.1 < 1000) (hn : n < 1000) (hm : m < 1000) {Q : St → Prop} (hk : ¬ (p.1 < n ∨ (n = p.1 ∧ m = p.2.1 ∧ ¬ p.2.2 ≤ nI s)) → Q σ) (ht : (p.1 < n ∨ (n = p.1 ∧ m = p.2.1 ∧ ¬ p.2.2 ≤ nI s)) → ∀ σ', Hp σ' (n, m, nI s) → (∀ q, q ≠ 55 → σ' q = σ q) → Q σ') : V_X0_takeGreaterHeap (nI n) (nI m) (nI s) σ Q := by
  obtain ⟨h1, h2, h3⟩ := h
  unfold V_X0_takeGreaterHeap B_X0_takeGreaterHeap_e
  have k44 : (p.1 < n ∨ (n = p.1 ∧ m = p.2.1 ∧ ¬ p.2.2 ≤ nI s)) → R_X0_takeGreaterHeap (nI n) (nI m) (nI s) Q 44 [] [] σ := fun c => by
    refine i_X0_takeGreaterHeap_44 _ _ _ _ _ ?_
    unfold B_X0_takeGreaterHeap_44
    intro s1 e1 s2 e2 s3 e3
    subst e1; subst e2; subst e3
    refine ht c _ ⟨?_, ?_, ?_⟩ (fun q hq => by rw [us_ne hq, us_ne hq, us_ne hq])
    · rw [us_same, pk_un (by omega), us_same, pk_un (by omega), us_same, pk_us]
    · rw [us_same, pk_un (by omega), us_same, pk_us]
    · rw [us_same, pk_us]
  have k29 : ∀ t : Int32, (t = 0 ∧ ¬ (n = p.1 ∧ m = p.2.1 ∧ ¬ p.2.2 ≤ nI s)) ∨ (t = 1 ∧ (n = p.1 ∧ m = p.2.1 ∧ ¬ p.2.2 ≤ nI s)) → R_X0_takeGreaterHeap (nI n) (nI m) (nI s) Q 29 [t] [] σ := fun t ht' => by
    refine i_X0_takeGreaterHeap_29 _ _ _ _ _ _ ?_
    unfold B_X0_takeGreaterHeap_29
    rw [h1, q_lt (by omega) (by omega)]
    refine ⟨fun c => k44 (Or.inl c), fun c => ?_⟩
    rcases ht' with ⟨rfl, c2⟩ | ⟨rfl, c2⟩
    · exact br_t rfl (hk (fun x => by rcases x with x | x; exact c x; exact c2 x))
    · exact br_f (by decide) (k44 (Or.inr c2))
  rw [h1, h2, h3, q_eq (by omega) (by omega), q_eq (by omega) (by omega)]
  refine ⟨fun c => k29 0 (Or.inl ⟨rfl, fun x => c x.1⟩), fun c1 => ⟨fun c => k29 0 (Or.inl ⟨rfl, fun x => c x.2.1⟩), fun c2 => ⟨fun c => k29 0 (Or.inl ⟨rfl, fun x => x.2.2 c⟩), fun c => k29 1 (Or.inr ⟨rfl, c1, c2, c⟩)⟩⟩⟩
theorem m1_le {s : Nat} (hs : s < 2147483648) : (-1 : Int32) ≤ nI s := Int32.le_iff_toInt_le.mpr (by
  rw [nI_toInt hs, show (-1 : Int32).toInt = -1 from by decide]
  omega)
set_option maxHeartbeats 4000000 in
set_option maxRecDepth 100000 in
theorem c_heap {A : Nat → Nat} (hst : StR σ 2 A) (hW : WFA A) {Q : St → Prop} (hq : ∀ p σ', hpr A 31 p → Hp σ' p → (∀ q, q < 55 ∨ 64 < q → σ' q = σ q) → Q σ') : V_X0_findHeap 2 σ Q := by
  unfold V_X0_findHeap B_X0_findHeap_e
  have h15 := hW.2.2.1
  have h7 := hW.2.1
  have h3 := hW.1.2.1
  intro s1 e1 s2 e2 s3 e3
  have i1 : s3 55 1 = nI 0 := by rw [e3, us_same, pk_un (by omega), e2, us_same, pk_un (by omega), e1, us_same, pk_us]; rfl
  have i2 : s3 55 2 = nI 0 := by rw [e3, us_same, pk_un (by omega), e2, us_same, pk_us]; rfl
  have i3 : s3 55 3 = -1 := by rw [e3, us_same, pk_us]
  have f3 : ∀ q, q ≠ 55 → s3 q = σ q := fun q hq => by rw [e3, us_ne hq, e2, us_ne hq, e1, us_ne hq]
  refine s_copy (hst.congr (fun q h1 h2 => f3 q (by omega))) h7 h3 (by omega) (fun s4 hs4 f4 => ?_)
  have loop : ∀ d m (p : HP) (s : St), m + d = 31 → hpr A m p → Hp s p → StR s 56 (it m A) → (∀ q, q < 55 ∨ 64 < q → s q = σ q) → R_X0_findHeap 2 Q 25 [nI m] [] s := by
    intro d
    induction d with
    | zero =>
      intro m p s hm hpp hH hs hf
      refine i_X0_findHeap_25 _ _ _ _ ?_
      unfold B_X0_findHeap_25
      rw [(by omega : m = 31)] at *
      exact ⟨fun _ => hq p s hpp hH hf, fun c => absurd (by decide) c⟩
    | succ d ih =>
      intro m p s hm hpp hH hs hf
      refine i_X0_findHeap_25 _ _ _ _ ?_
      unfold B_X0_findHeap_25
      refine ⟨fun c => absurd (by rw [show (30 : Int32) = nI 30 from rfl, q_lt (by omega) (by omega)] at c; exact c) (by omega), fun _ => ?_⟩
      have hB := Bd_it hW.1 m (by omega)
      have hsm : Sm (it m A) := hB.2.2.2.2.2.2.2.2
      have e0 : it m A 0 = A 0 := it_lo (by omega) m
      have e1 : it m A 1 = A 1 := it_lo (by omega) m
      obtain ⟨b1, b2, b3⟩ := hp_b (by omega) m p hpp
      have inner : ∀ d2 k (p' : HP) (s' : St), k + d2 = A 1 → Iv (it m A) m (fun j => j < k) p p' → Hp s' p' → (∀ q, q ≠ 55 → s' q = s q) → R_X0_findHeap 2 Q 33 [nI m, nI k] [] s' := by
        intro d2
        induction d2 with
        | zero =>
          intro k p' s' hk hI hH' hf'
          refine i_X0_findHeap_33 _ _ _ _ _ ?_
          unfold B_X0_findHeap_33
          have hs' : StR s' 56 (it m A) := hs.congr (fun q h1 h2 => hf' q (by omega))
          rw [hs'.2.1, e1]
          refine ⟨fun _ => s_passHour hs' hB (fun s5 hs5 f5 => ?_), fun c => absurd (by rw [q_le (by omega) (by omega)]; omega) c⟩
          rw [← it_succ] at hs5
          rw [nI_1]
          refine ih (m + 1) p' s5 (by omega) ⟨p, hpp, ?_⟩ ?_ hs5 (fun q hq => by rw [f5 q (by omega), hf' q (by omega), hf q hq])
          · rcases hI with ⟨e, x⟩ | ⟨k0, k1, k2, e, x, y⟩
            · exact Or.inl ⟨e, fun j hj _ => x j hj (by omega)⟩
            · exact Or.inr ⟨k0, k1, trivial, e, x, fun j hj _ => y j hj (by omega)⟩
          · unfold Hp at *
            rw [f5 55 (by omega)]
            exact hH'
        | succ d2 ih2 =>
          intro k p' s' hk hI hH' hf'
          refine i_X0_findHeap_33 _ _ _ _ _ ?_
          unfold B_X0_findHeap_33
          have hs' : StR s' 56 (it m A) := hs.congr (fun q h1 h2 => hf' q (by omega))
          have hcn := cnt_le (a := it m A) (s := it m A (40 + k)) (it m A 0)
          have hsp := (hB.2.2.2.2.2.2.1 k (by omega)).2
          rw [hs'.2.1, e1]
          refine ⟨fun c => absurd (by rw [q_le (by omega) (by omega)] at c; exact c) (by omega), fun _ => s_waitingBehind hs' hsm (by omega) (by omega) (by omega) ⟨vp_in_nI (by omega) (by omega), ?_⟩⟩
          rw [nI_clamp (by omega), show s' 62 k = nI (it m A (40 + k)) from hs'.2.2.2.2.2.2.2.2.2.1 k (by omega)]
          have hp1 : p'.1 ≤ 8 := by
            rcases hI with ⟨e, -⟩ | ⟨k0, k1, k2, e, -, -⟩
            · rw [e]; exact b1
            · rw [e]
              have := cnt_le (a := it m A) (s := it m A (40 + k0)) (it m A 0)
              show hc (it m A) k0 ≤ 8
              unfold hc; omega
          have hp2 : p'.2.1 ≤ m := by
            rcases hI with ⟨e, -⟩ | ⟨k0, k1, k2, e, -, -⟩
            · rw [e]; exact b2
            · rw [e]; exact Nat.le_refl _
          have ec : cnt (it m A) (it m A (40 + k)) (it m A 0) = hc (it m A) k := rfl
          have hck : hc (it m A) k ≤ 8 := by unfold hc; omega
          rw [ec] at *
          refine c_take hH' (by omega) (by omega) (by omega) (by omega) (fun c => ?_) (fun c s5 h5 f5 => ?_)
          · rw [nI_1]
            refine ih2 (k + 1) p' s' (by omega) ?_ hH' hf'
            rcases hI with ⟨e, x⟩ | ⟨k0, k1, k2, e, x, y⟩
            · refine Or.inl ⟨e, fun j hj h => ?_⟩
              by_cases z : j = k
              · rw [z, ← e]
                exact Nat.le_of_not_lt (fun q => c (Or.inl q))
              · exact x j hj (by omega)
            · refine Or.inr ⟨k0, k1, by omega, e, x, fun j hj h => ?_⟩
              by_cases z : j = k
              · rw [z]
                have e1' : p'.1 = hc (it m A) k0 := by rw [e]
                have e2' : p'.2.1 = m := by rw [e]
                have e3' : p'.2.2 = nI (it m A (40 + k0)) := by rw [e]
                have hsp0 := (hB.2.2.2.2.2.2.1 k0 (by omega)).2
                refine ⟨Nat.le_of_not_lt (fun q => c (Or.inl (by omega))), fun q => Classical.byContradiction (fun w => c (Or.inr ⟨by omega, by omega, ?_⟩))⟩
                rw [e3', q_le (by omega) (by omega)]
                exact w
              · exact y j hj (by omega)
          · rw [nI_1]
            refine ih2 (k + 1) _ s5 (by omega) ?_ h5 (fun q hq => by rw [f5 q hq, hf' q hq])
            refine Or.inr ⟨k, by omega, by omega, rfl, ?_, fun j hj h => ?_⟩
            · rcases hI with ⟨e, x⟩ | ⟨k0, k1, k2, e, x, y⟩
              · rcases c with c | ⟨c1, c2, c3⟩
                · rw [← e]; exact c
                · rw [e] at c2 c3
                  rcases b3 with b3 | b3
                  · omega
                  · rw [b3] at c3
                    exact absurd (m1_le (by omega)) c3
              · have e1' : p'.1 = hc (it m A) k0 := by rw [e]
                rcases c with c | ⟨c1, c2, c3⟩
                · omega
                · omega
            · by_cases z : j = k
              · subst z; exact ⟨Nat.le_refl _, fun _ => Nat.le_refl _⟩
              · rcases hI with ⟨e, x⟩ | ⟨k0, k1, k2, e, x, y⟩
                · have x1 := x j hj (by omega)
                  rw [← e] at x1
                  rcases c with c | ⟨c1, c2, c3⟩
                  · exact ⟨by omega, fun q => absurd q (by omega)⟩
                  · rw [e] at c2 c3
                    rcases b3 with b3 | b3
                    · omega
                    · rw [b3] at c3
                      exact absurd (m1_le (by omega)) c3
                · have e1' : p'.1 = hc (it m A) k0 := by rw [e]
                  have e3' : p'.2.2 = nI (it m A (40 + k0)) := by rw [e]
                  have hsp0 := (hB.2.2.2.2.2.2.1 k0 (by omega)).2
                  have x1 := y j hj (by omega)
                  rcases c with c | ⟨c1, c2, c3⟩
                  · exact ⟨by omega, fun q => absurd q (by omega)⟩
                  · rw [e3', q_le (by omega) (by omega)] at c3
                    exact ⟨by omega, fun q => by have := x1.2 (by omega); omega⟩
      exact inner (A 1) 0 p s (by omega) (Or.inl ⟨rfl, fun j hj h => absurd h (by omega)⟩) hH (fun _ _ => rfl)
  exact loop 31 0 (0, 0, -1) s4 (by omega) rfl ⟨by rw [f4 55 (by omega)]; exact i1, by rw [f4 55 (by omega)]; exact i2, by rw [f4 55 (by omega)]; exact i3⟩ hs4 (fun q hq => by rw [f4 q (by omega), f3 q (by omega)])
end O28
