/-! the fewest that hold -/
def hb (p : Nat → Bool) : Nat → Nat → Nat → Nat
  | 0, _, b => b
  | d + 1, k, b => hb p d (k + 1) (if p k = true ∧ (b = 9 ∨ pb 3 k < pb 3 b) then k else b)
def ov (b : Nat) : Int32 := if b = 9 then -1 else nI b
def hp (A : Nat → Nat) (m : Nat) (k : Nat) : Bool := decide (cnt (it m (upN A 14 k)) 23 (A 0) = cnt A 23 (A 0))
theorem pb3 : ∀ k, k < 8 → pb 3 k ≤ 3 := by decide
section O17
variable {σ τ : St} {a1 a2 a3 a4 : Int32}
set_option maxHeartbeats 4000000 in
set_option maxRecDepth 100000 in
theorem c_holds {A : Nat → Nat} {m k : Nat} (hs : StR σ 2 A) (hW : WFA A) (hm : m ≤ 60) (hk : k < 8) {Q : Int32 → St → Prop} (hq : ∀ σ', (∀ q, q < 56 ∨ 64 < q → σ' q = σ q) → Q (if hp A m k = true then 1 else 0) σ') : V_X0_holds 2 (nI k) (nI m) σ Q := by
  unfold V_X0_holds B_X0_holds_e
  have h15 := hW.2.2.1
  have h7 := hW.2.1
  refine s_copy hs hW.2.1 hW.1.2.1 (by omega) (fun s1 hs1 f1 s2 e2 => ?_)
  have hs2 := hs1.shut h7 (x := k)
  rw [← e2] at hs2
  have hB := Bd_sh hW.1 hk
  have e15 : upN A 14 k 15 = A 15 := upN_n (by omega)
  have e0 : it m (upN A 14 k) 0 = A 0 := by rw [it_lo (by omega), upN_n (by omega)]
  have hB2 := Bd_it hB m (by omega)
  refine s_pass hs2 hB (by omega) (fun s3 hs3 f3 => s_over hs3 hB2.2.2.2.2.2.2.2.2 (by omega) ?_)
  have fr : ∀ q, q < 56 ∨ 64 < q → s3 q = σ q := fun q hq => by rw [f3 q (by omega), e2, us_ne (by omega), f1 q (by omega)]
  refine s_over (hs.congr (fun q h1 h2 => fr q (by omega))) hW.sm (by omega) ?_
  have c1 := cnt_le (a := it m (upN A 14 k)) (s := 23) (A 0)
  have c2 := cnt_le (a := A) (s := 23) (A 0)
  have := hq s3 fr
  rw [e0]
  unfold hp at this
  by_cases z : cnt (it m (upN A 14 k)) 23 (A 0) = cnt A 23 (A 0)
  · rw [if_pos (decide_eq_true z)] at this
    exact fr_f (by rw [z]) this
  · rw [if_neg (fun c => z (of_decide_eq_true c))] at this
    exact fr_t (by rw [q_eq (by omega) (by omega)]; exact z) this
set_option maxHeartbeats 4000000 in
set_option maxRecDepth 100000 in
theorem c_fewest {A : Nat → Nat} {m : Nat} (hs : StR σ 2 A) (hW : WFA A) (hm : m ≤ 60) {Q : Int32 → St → Prop} (hq : ∀ σ', (∀ q, q < 56 ∨ 64 < q → σ' q = σ q) → Q (ov (hb (hp A m) (2 ^ A 1) 0 9)) σ') : V_X0_fewestThatHold 2 (nI m) σ Q := by
  unfold V_X0_fewestThatHold B_X0_fewestThatHold_e
  have h3 := hW.1.2.1
  have hp8 : 2 ^ A 1 ≤ 8 := Nat.pow_le_pow_right (n := 2) (by omega) h3
  have loop : ∀ d k b (s : St), k + d = 2 ^ A 1 → (b = 9 ∨ b < 8) → (∀ q, q < 56 ∨ 64 < q → s q = σ q) → hb (hp A m) (2 ^ A 1) 0 9 = hb (hp A m) d k b → R_X0_fewestThatHold 2 (nI m) Q 8 [ov b, nI (if b = 9 then 4 else pb 3 b), nI k] [] s := by
    intro d
    induction d with
    | zero =>
      intro k b s hk hb9 hf hw
      refine i_X0_fewestThatHold_8 _ _ _ _ _ _ _ ?_
      unfold B_X0_fewestThatHold_8
      rw [hf 2 (by omega), hs.2.1, q_shl (by omega)]
      refine ⟨fun _ => ?_, fun c => absurd (by rw [q_le (by omega) (by omega)]; omega) c⟩
      have := hq s hf
      rw [hw] at this
      exact this
    | succ d ih =>
      intro k b s hk hb9 hf hw
      refine i_X0_fewestThatHold_8 _ _ _ _ _ _ _ ?_
      unfold B_X0_fewestThatHold_8
      have p3 := pb3 k (by omega)
      have hbb : (if b = 9 then 4 else pb 3 b) ≤ 4 := by
        split
        · omega
        · have := pb3 b (by omega); omega
      have hw2 : hb (hp A m) (d + 1) k b = hb (hp A m) d (k + 1) (if hp A m k = true ∧ (b = 9 ∨ pb 3 k < pb 3 b) then k else b) := rfl
      rw [hf 2 (by omega), hs.2.1, q_shl (by omega)]
      refine ⟨fun c => absurd (by rw [q_le (by omega) (by omega)] at c; exact c) (by omega), fun _ => v_bc (by omega) ?_⟩
      have keep : ∀ s', (∀ q, q < 56 ∨ 64 < q → s' q = σ q) → ¬ (hp A m k = true ∧ (b = 9 ∨ pb 3 k < pb 3 b)) → R_X0_fewestThatHold 2 (nI m) Q 8 [ov b, nI (if b = 9 then 4 else pb 3 b), nI k + 1] [] s' := fun s' hf' c => by
        rw [nI_1]
        exact ih (k + 1) b s' (by omega) hb9 hf' (by rw [hw, hw2, if_neg c])
      by_cases c : (if b = 9 then 4 else pb 3 b) ≤ pb 3 k
      · refine br_t (by rw [q_le (by omega) (by omega)]; exact c) (keep s hf (fun h => ?_))
        rcases h.2 with h | h
        · rw [if_pos h] at c; omega
        · by_cases z : b = 9
          · rw [if_pos z] at c; omega
          · rw [if_neg z] at c; omega
      · refine br_f (by rw [q_le (by omega) (by omega)]; exact c) (c_holds (hs.congr (fun q h1 h2 => hf q (by omega))) hW hm (by omega) (fun s' hf' => ?_))
        have fr : ∀ q, q < 56 ∨ 64 < q → s' q = σ q := fun q hq => by rw [hf' q hq, hf q hq]
        by_cases y : hp A m k = true
        · rw [if_pos y]
          refine br_f (by decide) ?_
          have hup : hp A m k = true ∧ (b = 9 ∨ pb 3 k < pb 3 b) := ⟨y, by
            by_cases z : b = 9
            · exact Or.inl z
            · rw [if_neg z] at c; exact Or.inr (by omega)⟩
          have := ih (k + 1) k s' (by omega) (Or.inr (by omega)) fr (by rw [hw, hw2, if_pos hup])
          have ek : ov k = nI k := if_neg (by omega)
          rw [ek, if_neg (show ¬ k = 9 by omega)] at this
          rw [nI_1]
          exact this
        · rw [if_neg y]
          exact br_t rfl (keep s' fr (fun h => y h.1))
  exact loop (2 ^ A 1) 0 9 σ (by omega) (Or.inl rfl) (fun _ _ => rfl) rfl
set_option maxHeartbeats 4000000 in
set_option maxRecDepth 100000 in
theorem m_fewest {A : Nat → Nat} {m : Nat} (hR : RowN τ 1 181 A) (hW : WFA A) (hm : m ≤ 60) {Q : Int32 → St → Prop} (hq : ∀ τ', (∀ q, q ≠ 5 → τ' q = τ q) → Q (ov (hb (hp A m) (2 ^ A 1) 0 9)) τ') : R_X11_hold (nI m) Q 23 [(-1), 0] [] τ := by
  have h3 := hW.1.2.1
  have h15 := hW.2.2.1
  have h7 := hW.2.1
  have hp8 : 2 ^ A 1 ≤ 8 := Nat.pow_le_pow_right (n := 2) (by omega) h3
  have loop : ∀ d k b (s : St), k + d = 2 ^ A 1 → (b = 9 ∨ b < 8) → (∀ q, q ≠ 5 → s q = τ q) → hb (hp A m) (2 ^ A 1) 0 9 = hb (hp A m) d k b → R_X11_hold (nI m) Q 23 [ov b, nI k] [] s := by
    intro d
    induction d with
    | zero =>
      intro k b s hk hb9 hf hw
      refine i_X11_hold_23 _ _ _ _ _ ?_
      unfold B_X11_hold_23
      rw [hf 1 (by omega), hR 1 (by omega), q_shl (by omega)]
      refine ⟨fun _ => ?_, fun c => absurd (by rw [q_le (by omega) (by omega)]; omega) c⟩
      have := hq s hf
      rw [hw] at this
      exact this
    | succ d ih =>
      intro k b s hk hb9 hf hw
      refine i_X11_hold_23 _ _ _ _ _ ?_
      unfold B_X11_hold_23
      have hw2 : hb (hp A m) (d + 1) k b = hb (hp A m) d (k + 1) (if hp A m k = true ∧ (b = 9 ∨ pb 3 k < pb 3 b) then k else b) := rfl
      rw [hf 1 (by omega), hR 1 (by omega), q_shl (by omega)]
      have hRs : RowN s 1 181 A := fun j hj => by rw [hf 1 (by omega)]; exact hR j hj
      refine ⟨fun c => absurd (by rw [q_le (by omega) (by omega)] at c; exact c) (by omega), fun _ => m_layHand hRs (fun row hrow s2 e2 => ?_)⟩
      rw [us_same, us_us] at e2
      have hB := Bd_sh hW.1 (x := k) (by omega)
      have e15 : upN A 14 k 15 = A 15 := upN_n (by omega)
      have e0 : it m (upN A 14 k) 0 = A 0 := by rw [it_lo (by omega), upN_n (by omega)]
      have hB2 := Bd_it hB m (by omega)
      subst e2
      refine m_goAhead (a := upN A 14 k) (fun j hj => ?_) hB (by omega) (fun row2 hrow2 => ?_)
      · rw [us_same]
        unfold upd upN
        by_cases z : j = 14
        · rw [if_pos z, if_pos z]
        · rw [if_neg z, if_neg z]; exact hrow j hj
      rw [us_us]
      have fr : ∀ q, q ≠ 5 → (us s 5 row2) q = τ q := fun q hq => by rw [us_ne hq, hf q hq]
      refine m_manyAt (a := it m (upN A 14 k)) (fun j hj => by rw [us_same]; exact hrow2 j hj) (by omega) (by omega) (by omega) hB2.2.2.2.2.2.2.2.2 (s := 23) (by omega) ?_
      refine m_manyAt (a := A) (fun j hj => by rw [us_ne (by omega)]; exact hRs j hj) (by omega) (by omega) (by omega) hW.sm (s := 23) (by omega) ?_
      have c1 := cnt_le (a := it m (upN A 14 k)) (s := 23) (A 0)
      have c2 := cnt_le (a := A) (s := 23) (A 0)
      have keep : ¬ (hp A m k = true ∧ (b = 9 ∨ pb 3 k < pb 3 b)) → R_X11_hold (nI m) Q 23 [ov b, nI k + 1] [] (us s 5 row2) := fun c => by
        rw [nI_1]
        exact ih (k + 1) b _ (by omega) hb9 fr (by rw [hw, hw2, if_neg c])
      have take : (hp A m k = true ∧ (b = 9 ∨ pb 3 k < pb 3 b)) → R_X11_hold (nI m) Q 23 [nI k, nI k + 1] [] (us s 5 row2) := fun c => by
        have := ih (k + 1) k _ (by omega) (Or.inr (by omega)) fr (by rw [hw, hw2, if_pos c])
        have ek : ov k = nI k := if_neg (by omega)
        rw [ek] at this
        rw [nI_1]
        exact this
      rw [e0]
      by_cases z : cnt (it m (upN A 14 k)) 23 (A 0) = cnt A 23 (A 0)
      · have y : hp A m k = true := decide_eq_true z
        refine fr_f (by rw [z]) (i_X11_hold_78 _ _ _ _ _ _ ?_)
        unfold B_X11_hold_78
        refine br_f (by decide) ?_
        by_cases w : b = 9
        · have eb : ov b = -1 := if_pos w
          rw [eb]
          exact br_t rfl (take ⟨y, Or.inl w⟩)
        · have eb : ov b = nI b := if_neg w
          have p3 := pb3 k (by omega)
          have p3b := pb3 b (by omega)
          rw [eb] at keep ⊢
          refine br_f (fun c => by rw [show (-1 : Int32) = -nI 1 from rfl, q_m1n (by omega)] at c; exact c) (v_bits (d := 3) (by omega) (by omega) (v_bits (d := 3) (by omega) (by omega) ?_))
          by_cases x : pb 3 b ≤ pb 3 k
          · exact br_t (by rw [q_le (by omega) (by omega)]; exact x) (keep (fun h => by rcases h.2 with h | h <;> omega))
          · exact br_f (by rw [q_le (by omega) (by omega)]; exact x) (take ⟨y, Or.inr (by omega)⟩)
      · refine fr_t (by rw [q_eq (by omega) (by omega)]; exact z) (i_X11_hold_78 _ _ _ _ _ _ ?_)
        unfold B_X11_hold_78
        exact br_t rfl (keep (fun h => z (of_decide_eq_true h.1)))
  exact loop (2 ^ A 1) 0 9 τ (by omega) (Or.inl rfl) (fun _ _ => rfl) rfl
set_option maxHeartbeats 4000000 in
set_option maxRecDepth 100000 in
theorem p_hold (hJ : J σ τ) : V_X10_hold a1 σ (fun r σ' => V_X11_hold a1 τ (fun r' τ' => r = r' ∧ J σ' τ')) := by
  obtain ⟨S, B, HC, HM, HW⟩ := hJ
  unfold V_X10_hold B_X10_hold_e V_X11_hold B_X11_hold_e
  by_cases k1 : okI a1 1 60
  · refine cw1 k1 rfl rfl (br_f (by decide) ?_)
    obtain ⟨m, -, hm, rfl⟩ := okI_ex (a := 1) (b := 60) k1
    exact c_fewest HC.1.1 HW.1 hm (fun σ' f => mw1 k1 rfl rfl (fr_t (by decide) (m_fewest HM.1 HW.1 hm (fun τ' g => ⟨rfl, JJ HC HM HW (fun q hq => f q (by omega)) (fun q hq => g q (by omega))⟩))))
  · exact cw0 k1 rfl rfl (br_t (by decide) (c_bad HC (fun σ' HC' => mw0 k1 rfl rfl (fr_f (by decide) (m_bad HM (fun τ' HM' => ⟨rfl, S, bb B 0, HC', HM', HW⟩))))))
end O17
