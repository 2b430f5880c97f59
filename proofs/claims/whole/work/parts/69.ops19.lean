/-! which gloves were seen so: bits told one by one -/
theorem q_and (a b : Nat) : nI a &&& nI b = nI (a &&& b) := Int32.toBitVec_inj.1 (show BitVec.ofNat 32 a &&& BitVec.ofNat 32 b = BitVec.ofNat 32 (a &&& b) from BitVec.eq_of_getLsbD_eq (fun i hi => by simp [hi]))
theorem q_or (a b : Nat) : nI a ||| nI b = nI (a ||| b) := Int32.toBitVec_inj.1 (show BitVec.ofNat 32 a ||| BitVec.ofNat 32 b = BitVec.ofNat 32 (a ||| b) from BitVec.eq_of_getLsbD_eq (fun i hi => by simp [hi]))
theorem q_xr (a b : Nat) : nI a ^^^ nI b = nI (a ^^^ b) := Int32.toBitVec_inj.1 (show BitVec.ofNat 32 a ^^^ BitVec.ofNat 32 b = BitVec.ofNat 32 (a ^^^ b) from BitVec.eq_of_getLsbD_eq (fun i hi => by simp [hi]))
theorem tb_and {a b j : Nat} : (a &&& b).testBit j = true ↔ a.testBit j = true ∧ b.testBit j = true := by rw [Nat.testBit_and, Bool.and_eq_true]
theorem tb_or {a b j : Nat} : (a ||| b).testBit j = true ↔ a.testBit j = true ∨ b.testBit j = true := by rw [Nat.testBit_or, Bool.or_eq_true]
theorem tb_pow {n j : Nat} : (2 ^ n).testBit j = true ↔ n = j := by rw [Nat.testBit_two_pow, decide_eq_true_eq]
theorem tb_all {n j : Nat} : (2 ^ n - 1).testBit j = true ↔ j < n := by rw [Nat.testBit_two_pow_sub_one, decide_eq_true_eq]
theorem tb_clr {g j : Nat} (hj : j < 32) : (2 ^ g ^^^ (2 ^ 32 - 1)).testBit j = true ↔ ¬ g = j := by
  rw [Nat.testBit_xor, Nat.testBit_two_pow, Nat.testBit_two_pow_sub_one]
  by_cases e : g = j <;> simp [e, hj]
theorem tb_eq {a b : Nat} (h : ∀ j, a.testBit j = true ↔ b.testBit j = true) : a = b := Nat.eq_of_testBit_eq (fun j => Bool.eq_iff_iff.mpr (h j))
/-- what was seen of a glove fits -/
def okS (A : Nat → Nat) (i g : Nat) : Prop := it (A (43 + 2 * i)) A (6 + g) = A (43 + 2 * i + 1)
def Mok (A : Nat → Nat) (M : Nat) : Prop := ∀ g, M.testBit g = true ↔ g < A 0 ∧ ∀ i, i < A 2 → okS A i g
section O19
variable {σ τ : St} {a1 a2 a3 a4 : Int32}
set_option maxHeartbeats 4000000 in
set_option maxRecDepth 100000 in
theorem c_those {A : Nat → Nat} {s : Nat} (hs : StR σ 56 A) (hB : Bd A) (hsb : s ≤ 23) {Q : Int32 → St → Prop} (hq : ∀ T, (∀ g, T.testBit g = true ↔ g < A 0 ∧ A (6 + g) = s) → Q (nI T) σ) : V_X0_thoseAt (nI s) σ Q := by
  unfold V_X0_thoseAt B_X0_thoseAt_e
  have h0 := hB.1
  have loop : ∀ d g T, g + d = A 0 → (∀ j, T.testBit j = true ↔ j < g ∧ A (6 + j) = s) → R_X0_thoseAt (nI s) Q 4 [nI T, nI g] [] σ := by
    intro d
    induction d with
    | zero =>
      intro g T hg hT
      refine i_X0_thoseAt_4 _ _ _ _ _ ?_
      unfold B_X0_thoseAt_4
      rw [hs.1]
      refine ⟨fun _ => hq T (fun j => ?_), fun c => absurd (by rw [q_le (by omega) (by omega)]; omega) c⟩
      rw [hT j, (by omega : g = A 0)]
    | succ d ih =>
      intro g T hg hT
      refine i_X0_thoseAt_4 _ _ _ _ _ ?_
      unfold B_X0_thoseAt_4
      have b2 := (hB.2.2.2.2.2.1 g (by omega)).2
      rw [hs.1, nI_clamp (by omega), show σ 60 g = nI (A (6 + g)) from hs.2.2.2.2.2.2.2.1 g (by omega), q_shl (by omega), q_or, nI_1]
      refine ⟨fun c => absurd (by rw [q_le (by omega) (by omega)] at c; exact c) (by omega), fun _ => ⟨vp_in_nI (by omega) (by omega), ?_⟩⟩
      by_cases z : A (6 + g) = s
      · refine fr_f (by rw [z]) (fun v1 e1 => ?_)
        subst e1
        refine ih (g + 1) _ (by omega) (fun j => ?_)
        rw [tb_or, tb_pow, hT j]
        constructor
        · rintro (h | h)
          · exact ⟨by omega, h.2⟩
          · subst h; exact ⟨by omega, z⟩
        · rintro ⟨h1, h2⟩
          by_cases y : g = j
          · exact Or.inr y
          · exact Or.inl ⟨by omega, h2⟩
      · refine fr_t (by rw [q_eq (by omega) (by omega)]; exact z) (ih (g + 1) T (by omega) (fun j => ?_))
        rw [hT j]
        constructor
        · rintro ⟨h1, h2⟩; exact ⟨by omega, h2⟩
        · rintro ⟨h1, h2⟩
          by_cases y : g = j
          · subst y; exact absurd h2 z
          · exact ⟨by omega, h2⟩
  exact loop (A 0) 0 0 (by omega) (fun j => by rw [Nat.zero_testBit]; exact ⟨fun c => absurd c (by decide), fun c => absurd c.1 (by omega)⟩)
set_option maxHeartbeats 4000000 in
set_option maxRecDepth 100000 in
theorem c_seen {A : Nat → Nat} (hst : StR σ 2 A) (hse : SeR σ 13 A) (hW : WFA A) {Q : Int32 → St → Prop} (hq : ∀ M σ', Mok A M → (∀ q, q < 56 ∨ 64 < q → σ' q = σ q) → Q (nI M) σ') : V_X0_seenThere 2 13 σ Q := by
  unfold V_X0_seenThere B_X0_seenThere_e
  have h15 := hW.2.2.1
  have h7 := hW.2.1
  have h2 := hW.2.2.2.1
  have wse := hW.2.2.2.2.2.2.2.1
  intro v1 e1
  have p7 : 0 < 2 ^ A 0 := Nat.pow_pos (by omega)
  rw [hst.1, q_shl (by omega), show (1 : Int32) = nI 1 from rfl, pk_sub (by omega)] at e1
  subst e1
  refine s_copy hst h7 hW.1.2.1 (by omega) (fun s1 hs1 f1 => ?_)
  have loop : ∀ d h M (s : St), h + d = 61 → (∀ g, M.testBit g = true ↔ g < A 0 ∧ ∀ j, j < A 2 → A (43 + 2 * j) < h → okS A j g) → StR s 56 (it h A) → (∀ q, q < 56 ∨ 64 < q → s q = σ q) → R_X0_seenThere 2 13 Q 20 [nI M, nI h] [] s := by
    intro d
    induction d with
    | zero =>
      intro h M s hh hM hs hf
      refine i_X0_seenThere_20 _ _ _ _ _ _ ?_
      unfold B_X0_seenThere_20
      refine ⟨fun _ => hq M s (fun g => ?_) hf, fun c => absurd (by rw [show (60 : Int32) = nI 60 from rfl, q_lt (by omega) (by omega)]; omega) c⟩
      rw [hM g]
      constructor
      · rintro ⟨h1, h2⟩; exact ⟨h1, fun i hi => h2 i hi (by have := (wse i hi).1; omega)⟩
      · rintro ⟨h1, h2⟩; exact ⟨h1, fun i hi _ => h2 i hi⟩
    | succ d ih =>
      intro h M s hh hM hs hf
      refine i_X0_seenThere_20 _ _ _ _ _ _ ?_
      unfold B_X0_seenThere_20
      refine ⟨fun c => absurd (by rw [show (60 : Int32) = nI 60 from rfl, q_lt (by omega) (by omega)] at c; exact c) (by omega), fun _ => ?_⟩
      have hB := Bd_it hW.1 h (by omega)
      have e0 : it h A 0 = A 0 := it_lo (by omega) h
      have inner : ∀ d2 i M, i + d2 = A 2 → (∀ g, M.testBit g = true ↔ g < A 0 ∧ ∀ j, j < A 2 → (A (43 + 2 * j) < h ∨ (A (43 + 2 * j) = h ∧ j < i)) → okS A j g) → R_X0_seenThere 2 13 Q 30 [nI M, nI h, nI i] [] s := by
        intro d2
        induction d2 with
        | zero =>
          intro i M hi hM
          refine i_X0_seenThere_30 _ _ _ _ _ _ _ ?_
          unfold B_X0_seenThere_30
          rw [hf 13 (by omega), hse.1]
          refine ⟨fun _ => s_passHour hs hB (fun s2 hs2 f2 => ?_), fun c => absurd (by rw [q_le (by omega) (by omega)]; omega) c⟩
          rw [nI_1]
          rw [← it_succ] at hs2
          refine ih (h + 1) M s2 (by omega) (fun g => ?_) hs2 (fun q hq => by rw [f2 q (by omega)]; exact hf q hq)
          rw [hM g]
          constructor
          · rintro ⟨h1, h2⟩; exact ⟨h1, fun j hj c => h2 j hj (by omega)⟩
          · rintro ⟨h1, h2⟩; exact ⟨h1, fun j hj c => h2 j hj (by omega)⟩
        | succ d2 ih2 =>
          intro i M hi hM
          refine i_X0_seenThere_30 _ _ _ _ _ _ _ ?_
          unfold B_X0_seenThere_30 V_X6_cell B_X6_cell_e
          obtain ⟨y1, y2⟩ := hse.2 i (by omega)
          obtain ⟨w1, w2⟩ := wse i (by omega)
          have em : nI i * 4 = nI (4 * i) := by rw [show (4 : Int32) = nI 4 from rfl, show nI i * nI 4 = nI (i * 4) from pk_mul i 4]; exact congrArg nI (by omega)
          rw [hf 13 (by omega), hse.1, em, show (0 : Int32) = nI 0 from rfl, nI_add (4 * i) 0, nI_clamp (n := 4 * i + 0) (by omega), show (13 + 1 : Nat) = 14 from rfl, hf 14 (by omega), show σ 14 (4 * i + 0) = nI (A (43 + 2 * i)) from y1]
          refine ⟨fun c => absurd (by rw [q_le (by omega) (by omega)] at c; exact c) (by omega), fun _ => ⟨vp_in_nI (by omega) (by omega), ?_⟩⟩
          try dsimp only
          rw [show (1 : Int32) = nI 1 from rfl, nI_add (4 * i) 1, nI_clamp (n := 4 * i + 1) (by omega), hf 14 (by omega), show σ 14 (4 * i + 1) = nI (A (43 + 2 * i + 1)) from y2]
          by_cases z : A (43 + 2 * i) = h
          · refine fr_f (by rw [z]) ⟨vp_in_nI (by omega) (by omega), c_those hs hB w2 (fun T hT => ?_)⟩
            rw [q_and, nI_add]
            refine ih2 (i + 1) _ (by omega) (fun g => ?_)
            rw [tb_and, hM g, hT g, e0]
            have ok : okS A i g ↔ it h A (6 + g) = A (43 + 2 * i + 1) := by unfold okS; rw [z]
            constructor
            · rintro ⟨⟨h1, h2⟩, h3, h4⟩
              refine ⟨h1, fun j hj c => ?_⟩
              by_cases y : j = i
              · subst y; exact ok.mpr h4
              · exact h2 j hj (by omega)
            · rintro ⟨h1, h2⟩
              exact ⟨⟨h1, fun j hj c => h2 j hj (by omega)⟩, h1, ok.mp (h2 i (by omega) (by omega))⟩
          · refine fr_t (by rw [q_eq (by omega) (by omega)]; exact z) ?_
            rw [nI_add]
            refine ih2 (i + 1) _ (by omega) (fun g => ?_)
            rw [hM g]
            constructor
            · rintro ⟨h1, h2⟩
              refine ⟨h1, fun j hj c => h2 j hj ?_⟩
              by_cases y : j = i
              · subst y; omega
              · omega
            · rintro ⟨h1, h2⟩
              exact ⟨h1, fun j hj c => h2 j hj (by omega)⟩
      refine inner (A 2) 0 M (by omega) (fun g => ?_)
      rw [hM g]
      constructor
      · rintro ⟨h1, h2⟩; exact ⟨h1, fun j hj c => h2 j hj (by omega)⟩
      · rintro ⟨h1, h2⟩; exact ⟨h1, fun j hj c => h2 j hj (by omega)⟩
  exact loop 61 0 _ s1 (by omega) (fun g => by rw [tb_all]; exact ⟨fun h => ⟨h, fun j hj c => absurd c (by omega)⟩, fun h => h.1⟩) hs1 (fun q hq => f1 q (by omega))
set_option maxHeartbeats 4000000 in
set_option maxRecDepth 100000 in
theorem m_seen {A : Nat → Nat} (hR : RowN τ 1 181 A) (hW : WFA A) {Q : Int32 → St → Prop} (hq : ∀ M τ', Mok A M → (∀ q, q ≠ 5 → τ' q = τ q) → Q (nI M) τ') : V_X11_seenOnes τ Q := by
  unfold V_X11_seenOnes B_X11_seenOnes_e V_X11_many B_X11_many_e
  have h15 := hW.2.2.1
  have h7 := hW.2.1
  have h2 := hW.2.2.2.1
  have wse := hW.2.2.2.2.2.2.2.1
  intro v1 e1
  have p7 : 0 < 2 ^ A 0 := Nat.pow_pos (by omega)
  rw [hR 0 (by omega), q_shl (by omega), show (1 : Int32) = nI 1 from rfl, pk_sub (by omega)] at e1
  subst e1
  have loop : ∀ d i M (s : St), i + d = A 2 → (∀ g, M.testBit g = true ↔ g < A 0 ∧ ∀ j, j < i → okS A j g) → (∀ q, q ≠ 5 → s q = τ q) → R_X11_seenOnes Q 11 [nI M, nI i] [] s := by
    intro d
    induction d with
    | zero =>
      intro i M s hi hM hf
      refine i_X11_seenOnes_11 _ _ _ _ ?_
      unfold B_X11_seenOnes_11
      rw [hf 1 (by omega), hR 2 (by omega)]
      refine ⟨fun _ => hq M s (fun g => ?_) hf, fun c => absurd (by rw [q_le (by omega) (by omega)]; omega) c⟩
      rw [hM g, (by omega : i = A 2)]
    | succ d ih =>
      intro i M s hi hM hf
      refine i_X11_seenOnes_11 _ _ _ _ ?_
      unfold B_X11_seenOnes_11
      obtain ⟨w1, w2⟩ := wse i (by omega)
      have hRs : RowN s 1 181 A := fun j hj => by rw [hf 1 (by omega)]; exact hR j hj
      have e43 : 43 + (2 * nI i) = nI (43 + 2 * i) := by rw [show (43 : Int32) = nI 43 from rfl, show (2 : Int32) = nI 2 from rfl, show nI 2 * nI i = nI (2 * i) from pk_mul 2 i, nI_add]
      rw [hf 1 (by omega), hR 2 (by omega), e43, nI_clamp (by omega)]
      refine ⟨fun c => absurd (by rw [q_le (by omega) (by omega)] at c; exact c) (by omega), fun _ => m_layHand hRs (fun row hrow => ⟨vp_in_nI (by omega) (by omega), ?_⟩)⟩
      rw [us_ne (j := 1) (by omega), hRs (43 + 2 * i) (by omega)]
      refine m_goAhead (a := A) (fun j hj => by rw [us_same]; exact hrow j hj) hW.1 (by omega) (fun row2 hrow2 => ?_)
      rw [us_us]
      have hB := Bd_it hW.1 (A (43 + 2 * i)) (by omega)
      have e0 : it (A (43 + 2 * i)) A 0 = A 0 := it_lo (by omega) _
      have fr : ∀ q, q ≠ 5 → (us s 5 row2) q = τ q := fun q hq => by rw [us_ne hq, hf q hq]
      have inner : ∀ d2 g M, g + d2 = A 0 → (∀ j, M.testBit j = true ↔ j < A 0 ∧ (∀ q, q < i → okS A q j) ∧ (j < g → okS A i j)) → R_X11_seenOnes Q 42 [nI M, nI i, nI g] [] (us s 5 row2) := by
        intro d2
        induction d2 with
        | zero =>
          intro g M hg hM
          refine i_X11_seenOnes_42 _ _ _ _ _ ?_
          unfold B_X11_seenOnes_42 V_X11_many B_X11_many_e
          rw [fr 1 (by omega), hR 0 (by omega)]
          refine ⟨fun _ => ?_, fun c => absurd (by rw [q_le (by omega) (by omega)]; omega) c⟩
          rw [nI_1]
          refine ih (i + 1) M _ (by omega) (fun j => ?_) fr
          rw [hM j]
          constructor
          · rintro ⟨h1, h2, h3⟩
            refine ⟨h1, fun q hq => ?_⟩
            by_cases y : q = i
            · subst y; exact h3 (by omega)
            · exact h2 q (by omega)
          · rintro ⟨h1, h2⟩
            exact ⟨h1, fun q hq => h2 q (by omega), fun _ => h2 i (by omega)⟩
        | succ d2 ih2 =>
          intro g M hg hM
          refine i_X11_seenOnes_42 _ _ _ _ _ ?_
          unfold B_X11_seenOnes_42 V_X11_many B_X11_many_e
          rw [fr 1 (by omega), hR 0 (by omega)]
          have b2 := (hB.2.2.2.2.2.1 g (by omega)).2
          have es : (us s 5 row2) 5 (6 + g) = nI (it (A (43 + 2 * i)) A (6 + g)) := by rw [us_same]; exact hrow2 _ (by omega)
          have e6 : (6 + nI g).toNatClampNeg = 6 + g := by rw [show (6 : Int32) = nI 6 from rfl, nI_add, nI_clamp (by omega)]
          have i6 : vp_in (6 + nI g) 43 := by rw [show (6 : Int32) = nI 6 from rfl, nI_add]; exact vp_in_nI (by omega) (by omega)
          refine ⟨fun c => absurd (by rw [q_le (by omega) (by omega)] at c; exact c) (by omega), fun _ => ⟨i6, ?_⟩⟩
          rw [e43, nI_1, nI_clamp (by omega), e6, es, fr 1 (by omega), hR (43 + 2 * i + 1) (by omega), nI_1]
          refine ⟨vp_in_nI (by omega) (by omega), ?_⟩
          by_cases z : it (A (43 + 2 * i)) A (6 + g) = A (43 + 2 * i + 1)
          · refine fr_f (by rw [z]) ?_
            rw [q_and]
            refine ih2 (g + 1) _ (by omega) (fun j => ?_)
            rw [tb_and, and_self, hM j]
            constructor
            · rintro ⟨h1, h2, h3⟩
              refine ⟨h1, h2, fun c => ?_⟩
              by_cases y : j = g
              · subst y; exact z
              · exact h3 (by omega)
            · rintro ⟨h1, h2, h3⟩
              exact ⟨h1, h2, fun c => h3 (by omega)⟩
          · refine fr_t (by rw [q_eq (by omega) (by omega)]; exact z) (fun v2 e2 => ?_)
            rw [q_shl (by omega), show (-1 : Int32) = nI (2 ^ 32 - 1) from by decide, q_xr, q_and] at e2
            subst e2
            refine ih2 (g + 1) _ (by omega) (fun j => ?_)
            rw [tb_and, hM j]
            constructor
            · rintro ⟨⟨h1, h2, h3⟩, h4⟩
              have h5 := (tb_clr (by omega)).mp h4
              exact ⟨h1, h2, fun c => h3 (by omega)⟩
            · rintro ⟨h1, h2, h3⟩
              refine ⟨⟨h1, h2, fun c => h3 (by omega)⟩, (tb_clr (by omega)).mpr (fun c => ?_)⟩
              subst c
              exact z (h3 (by omega))
      refine inner (A 0) 0 M (by omega) (fun j => ?_)
      rw [hM j]
      constructor
      · rintro ⟨h1, h2⟩; exact ⟨h1, h2, fun c => absurd c (by omega)⟩
      · rintro ⟨h1, h2, -⟩; exact ⟨h1, h2⟩
  exact loop (A 2) 0 _ τ (by omega) (fun g => by rw [tb_all]; exact ⟨fun h => ⟨h, fun j hj => absurd hj (by omega)⟩, fun h => h.1⟩) (fun _ _ => rfl)
theorem Mok_eq {A : Nat → Nat} {M N : Nat} (h1 : Mok A M) (h2 : Mok A N) : M = N := tb_eq (fun j => (h1 j).trans (h2 j).symm)
set_option maxHeartbeats 4000000 in
set_option maxRecDepth 100000 in
theorem p_which (hJ : J σ τ) : V_X10_which σ (fun r σ' => V_X11_which τ (fun r' τ' => r = r' ∧ J σ' τ')) := by
  obtain ⟨S, B, HC, HM, HW⟩ := hJ
  unfold V_X10_which B_X10_which_e V_X11_which B_X11_which_e
  exact c_seen HC.1.1 HC.1.2.2.1 HW.1 (fun M σ' hM f => m_seen HM.1 HW.1 (fun N τ' hN g => ⟨by rw [Mok_eq hM hN], JJ HC HM HW (fun q hq => f q (by omega)) (fun q hq => g q (by omega))⟩))
end O19
