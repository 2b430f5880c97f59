/-! the words, told by bytes -/
def chN (i k : Nat) : Nat := ((([[115, 116, 114, 101, 101, 116], [119, 101, 116], [103, 108, 111, 118, 101], [99, 114, 111, 115, 115, 105, 110, 103], [115, 104, 117, 116], [104, 111, 117, 114, 115]] : List (List Nat)).getD i []).getD k 0)
theorem ch_N : ∀ i : Fin 6, ∀ k : Fin 8, chJ i.val k.val = nI (chN i.val k.val) ∧ chN i.val k.val ≤ 127 := by decide +kernel
def wmf (T : Nat → Nat) (s i : Nat) : Nat → Nat → Bool
  | 0, _ => true
  | d + 1, k => if T (s + k) = chN i k then wmf T s i d (k + 1) else false
def wm (T : Nat → Nat) (n p i : Nat) : Bool := if ztk T n p = 1 ∧ zte T n p - zts T n p = lenJ.getD i 0 then wmf T (zts T n p) i (lenJ.getD i 0) 0 else false
theorem fi_t : fi true = 1 := rfl
theorem fi_f : fi false = 0 := rfl
section WD
variable {σ τ : St} {T : Nat → Nat} {n : Nat}
theorem isWf_e {i s : Nat} (hi : i < 6) (h : TxC σ T n) (hn : n ≤ 150) (hT : ∀ i, i < n → T i ≤ 127) (h3 : σ 70 3 = nI s) (hs : s + lenJ.getD i 0 ≤ n) : ∀ d k, k + d = lenJ.getD i 0 → isWf i σ d k = fi (wmf T s i d k)
  | 0, _, _ => rfl
  | d + 1, k, hk => by
    have h8 := ln_8 ⟨i, hi⟩
    dsimp only at h8
    obtain ⟨c1, c2⟩ := ch_N ⟨i, hi⟩ ⟨k, by omega⟩
    dsimp only at c1 c2
    have hTk := hT (s + k) (by omega)
    have ih := isWf_e hi h hn hT h3 hs d (k + 1) (by omega)
    have ec : (σ 71 (σ 70 3 + nI k).toNatClampNeg = chJ i k) = (T (s + k) = chN i k) := by rw [h3, nI_add, nI_clamp (by omega), h.2 _ (by omega), c1, q_eq (by omega) (by omega)]
    unfold isWf wmf
    by_cases c : T (s + k) = chN i k
    · rw [if_pos (by rw [ec]; exact c), if_pos c]; exact ih
    · rw [if_neg (by rw [ec]; exact c), if_neg c]; rfl
set_option maxHeartbeats 4000000 in
set_option maxRecDepth 100000 in
theorem w_isWord {i p : Nat} (hi : i < 6) (h : AtC σ T n p) (hn : n ≤ 150) (hT : ∀ i, i < n → T i ≤ 127) (hpn : p ≤ n) {Q : Int32 → St → Prop} (hq : Q (fi (wm T n p i)) σ) : V_X9_isWord i σ Q := by
  obtain ⟨h1, h3, h2, h5, -⟩ := h
  obtain ⟨hb1, hb2⟩ := zts_b (T := T) hpn
  obtain ⟨he1, he2⟩ := zte_b (T := T) hpn
  have hk4 := ztk_b (T := T) (n := n) (p := p)
  have h8 := ln_8 ⟨i, hi⟩
  dsimp only at h8
  have e2 : (σ 70 2 = 1) = (ztk T n p = 1) := by rw [h2, show (1 : Int32) = nI 1 from rfl, q_eq (by omega) (by omega)]
  have e5 : (σ 70 5 - σ 70 3 = nI (lenJ.getD i 0)) = (zte T n p - zts T n p = lenJ.getD i 0) := by rw [h5, h3, pk_sub (by omega), q_eq (by omega) (by omega)]
  have ew : isW i σ = fi (wm T n p i) := by
    unfold isW wm
    by_cases c : ztk T n p = 1 ∧ zte T n p - zts T n p = lenJ.getD i 0
    · rw [if_pos (by rw [e2, e5]; exact c), if_pos c]
      exact isWf_e hi h1 hn hT h3 (by omega) _ _ (by omega)
    · rw [if_neg (by rw [e2, e5]; exact c), if_neg c]; rfl
  refine ⟨fun c1 c2 k hk => ?_, by rw [ew]; exact hq⟩
  rw [e5] at c2
  rw [h3, nI_add]
  exact vp_in_nI (by omega) (by omega)
theorem zrk_1 {p : Nat} : (zrk T n p = 1) = (ztk T n p = 1) := by
  unfold zrk
  by_cases c : ztk T n p = 2 ∧ 2 < zte T n p - zts T n p
  · rw [if_pos c]; exact propext ⟨fun h => absurd h (by omega), fun h => absurd h (by omega)⟩
  · rw [if_neg c]
theorem zrk_b {p : Nat} : zrk T n p ≤ 4 := by
  have := ztk_b (T := T) (n := n) (p := p)
  unfold zrk
  split <;> omega
set_option maxHeartbeats 4000000 in
set_option maxRecDepth 100000 in
theorem m_spells {i p : Nat} (hi : i < 6) (hi3 : i ≠ 3) (h : AtM τ T n p) (hn : n ≤ 150) (hT : ∀ i, i < n → T i ≤ 127) (hpn : p ≤ n) {Q : Int32 → St → Prop} (hq : Q (fi (wm T n p i)) τ) : V_X11_spells (nI (lenJ.getD i 0)) (nI (chN i 0)) (nI (chN i 1)) (nI (chN i 2)) (nI (chN i 3)) (nI (chN i 4)) (nI (chN i 5)) τ Q := by
  obtain ⟨h1, h2, h3, h4, -⟩ := h
  obtain ⟨hb1, hb2⟩ := zts_b (T := T) hpn
  obtain ⟨he1, he2⟩ := zte_b (T := T) hpn
  have hk4 := zrk_b (T := T) (n := n) (p := p)
  have h6 : lenJ.getD i 0 ≤ 6 := by rcases (by omega : i = 0 ∨ i = 1 ∨ i = 2 ∨ i = 4 ∨ i = 5) with rfl | rfl | rfl | rfl | rfl <;> decide
  unfold V_X11_spells B_X11_spells_e
  rw [h4, h3, show (1 : Int32) = nI 1 from rfl, q_eq (by omega) (by omega), q_eq (by omega) (by omega), zrk_1]
  have no : ¬ (ztk T n p = 1 ∧ zte T n p - zts T n p = lenJ.getD i 0) → R_X11_spells (nI (lenJ.getD i 0)) (nI (chN i 0)) (nI (chN i 1)) (nI (chN i 2)) (nI (chN i 3)) (nI (chN i 4)) (nI (chN i 5)) Q 26 [0, 0] [] τ := fun c => by
    refine i_X11_spells_26 _ _ _ _ _ _ _ _ _ _ _ ?_
    unfold B_X11_spells_26
    unfold wm at hq
    rw [if_neg c] at hq
    exact ⟨fun _ => ⟨Or.inl rfl, hq⟩, fun _ => br_t rfl ⟨Or.inl rfl, hq⟩⟩
  have loop : (ztk T n p = 1 ∧ zte T n p - zts T n p = lenJ.getD i 0) → ∀ d k, k + d = lenJ.getD i 0 → Q (fi (wmf T (zts T n p) i d k)) τ → R_X11_spells (nI (lenJ.getD i 0)) (nI (chN i 0)) (nI (chN i 1)) (nI (chN i 2)) (nI (chN i 3)) (nI (chN i 4)) (nI (chN i 5)) Q 26 [1, nI k] [] τ := fun cc d => by
    induction d with
    | zero =>
      intro k hk hq'
      refine i_X11_spells_26 _ _ _ _ _ _ _ _ _ _ _ ?_
      unfold B_X11_spells_26
      exact ⟨fun _ => ⟨Or.inr rfl, hq'⟩, fun c => absurd (by rw [q_le (by omega) (by omega)]; omega) c⟩
    | succ d ih =>
      intro k hk hq'
      refine i_X11_spells_26 _ _ _ _ _ _ _ _ _ _ _ ?_
      unfold B_X11_spells_26
      obtain ⟨c1, c2⟩ := ch_N ⟨i, hi⟩ ⟨k, by omega⟩
      dsimp only at c1 c2
      have hTk := hT (zts T n p + k) (by omega)
      refine ⟨fun c => absurd (by rw [q_le (by omega) (by omega)] at c; exact c) (by omega), fun _ => br_f (by decide) ?_⟩
      rw [h2, nI_add, nI_clamp (by omega), h1.2 _ (by omega)]
      have es : wmf T (zts T n p) i (d + 1) k = if T (zts T n p + k) = chN i k then wmf T (zts T n p) i d (k + 1) else false := rfl
      have k103 : R_X11_spells (nI (lenJ.getD i 0)) (nI (chN i 0)) (nI (chN i 1)) (nI (chN i 2)) (nI (chN i 3)) (nI (chN i 4)) (nI (chN i 5)) Q 103 [nI k, nI (chN i k), nI (T (zts T n p + k))] [] τ := by
        refine i_X11_spells_103 _ _ _ _ _ _ _ _ _ _ _ _ ?_
        unfold B_X11_spells_103
        rw [q_eq (by omega) (by omega), nI_1]
        by_cases c : T (zts T n p + k) = chN i k
        · rw [es, if_pos c] at hq'
          exact fr_f c (ih (k + 1) (by omega) hq')
        · rw [es, if_neg c] at hq'
          refine fr_t c (i_X11_spells_26 _ _ _ _ _ _ _ _ _ _ _ ?_)
          unfold B_X11_spells_26
          exact ⟨fun _ => ⟨Or.inl rfl, hq'⟩, fun _ => br_t rfl ⟨Or.inl rfl, hq'⟩⟩
      refine ⟨vp_in_nI (by omega) (by omega), ?_⟩
      rcases (by omega : k = 0 ∨ k = 1 ∨ k = 2 ∨ k = 3 ∨ k = 4 ∨ k = 5) with rfl | rfl | rfl | rfl | rfl | rfl
      · exact fr_f rfl k103
      · exact fr_t (by decide) (fr_f rfl k103)
      · exact fr_t (by decide) (fr_t (by decide) (fr_f rfl k103))
      · exact fr_t (by decide) (fr_t (by decide) (fr_t (by decide) (fr_f rfl k103)))
      · exact fr_t (by decide) (fr_t (by decide) (fr_t (by decide) (fr_t (by decide) (fr_f rfl k103))))
      · exact fr_t (by decide) (fr_t (by decide) (fr_t (by decide) (fr_t (by decide) (fr_t (by decide) k103))))
  by_cases c1 : ztk T n p = 1
  · refine fr_f c1 ?_
    by_cases c2 : zte T n p - zts T n p = lenJ.getD i 0
    · refine fr_f c2 (loop ⟨c1, c2⟩ (lenJ.getD i 0) 0 (by omega) ?_)
      unfold wm at hq
      rw [if_pos ⟨c1, c2⟩] at hq
      exact hq
    · exact fr_t c2 (no (fun q => c2 q.2))
  · exact fr_t c1 (no (fun q => c1 q.1))
set_option maxHeartbeats 4000000 in
set_option maxRecDepth 100000 in
theorem m_spellsC {p : Nat} (h : AtM τ T n p) (hn : n ≤ 150) (hT : ∀ i, i < n → T i ≤ 127) (hpn : p ≤ n) {Q : Int32 → St → Prop} (hq : Q (fi (wm T n p 3)) τ) : V_X11_spellsCrossing τ Q := by
  obtain ⟨h1, h2, h3, h4, -⟩ := h
  obtain ⟨hb1, hb2⟩ := zts_b (T := T) hpn
  obtain ⟨he1, he2⟩ := zte_b (T := T) hpn
  have hk4 := zrk_b (T := T) (n := n) (p := p)
  unfold V_X11_spellsCrossing B_X11_spellsCrossing_e
  rw [h4, h3, show (1 : Int32) = nI 1 from rfl, show (8 : Int32) = nI 8 from rfl, q_eq (by omega) (by omega), q_eq (by omega) (by omega), zrk_1]
  unfold wm at hq
  rw [show lenJ.getD 3 0 = 8 from rfl] at hq
  have no : ¬ (ztk T n p = 1 ∧ zte T n p - zts T n p = 8) → R_X11_spellsCrossing Q 22 [0] [] τ := fun c => by
    refine i_X11_spellsCrossing_22 _ _ _ ?_
    unfold B_X11_spellsCrossing_22
    rw [if_neg c] at hq
    exact br_t rfl hq
  by_cases c1 : ztk T n p = 1
  · refine fr_f c1 ?_
    by_cases c2 : zte T n p - zts T n p = 8
    · refine fr_f c2 (i_X11_spellsCrossing_22 _ _ _ ?_)
      unfold B_X11_spellsCrossing_22
      rw [if_pos ⟨c1, c2⟩] at hq
      refine br_f (by decide) ?_
      have tk : ∀ k, k < 8 → vp_in (nI (zts T n p) + nI k) 150 ∧ τ 9 (nI (zts T n p) + nI k).toNatClampNeg = nI (T (zts T n p + k)) ∧ T (zts T n p + k) ≤ 127 := fun k hk => by
        rw [nI_add, nI_clamp (by omega)]
        exact ⟨vp_in_nI (by omega) (by omega), h1.2 _ (by omega), hT _ (by omega)⟩
      have es : ∀ d k, wmf T (zts T n p) 3 (d + 1) k = if T (zts T n p + k) = chN 3 k then wmf T (zts T n p) 3 d (k + 1) else false := fun d k => rfl
      rw [h2]
      have e0 : (nI (zts T n p)).toNatClampNeg = zts T n p + 0 := by rw [nI_clamp (by omega)]; rfl
      have tt0 : vp_in (nI (zts T n p)) 150 ∧ τ 9 (nI (zts T n p)).toNatClampNeg = nI (T (zts T n p + 0)) ∧ T (zts T n p + 0) ≤ 127 := by
        rw [e0]
        exact ⟨vp_in_nI (by omega) (by omega), h1.2 _ (by omega), hT _ (by omega)⟩
      obtain ⟨v0, w0, x0⟩ := tt0
      refine ⟨v0, ?_⟩
      rw [w0]
      rw [show (99 : Int32) = nI 99 from rfl, q_eq (by omega) (by omega)]
      rw [es 7 0] at hq
      by_cases y0 : T (zts T n p + 0) = 99
      · rw [if_pos (show T (zts T n p + 0) = chN 3 0 from y0)] at hq
        refine fr_f y0 ?_
        obtain ⟨v1, w1, x1⟩ := tk 1 (by omega)
        refine ⟨v1, ?_⟩
        rw [show τ 9 (nI (zts T n p) + 1).toNatClampNeg = _ from w1]
        rw [show (114 : Int32) = nI 114 from rfl, q_eq (by omega) (by omega)]
        rw [es 6 1] at hq
        by_cases y1 : T (zts T n p + 1) = 114
        · rw [if_pos (show T (zts T n p + 1) = chN 3 1 from y1)] at hq
          refine fr_f y1 ?_
          obtain ⟨v2, w2, x2⟩ := tk 2 (by omega)
          refine ⟨v2, ?_⟩
          rw [show τ 9 (nI (zts T n p) + 2).toNatClampNeg = _ from w2]
          rw [show (111 : Int32) = nI 111 from rfl, q_eq (by omega) (by omega)]
          rw [es 5 2] at hq
          by_cases y2 : T (zts T n p + 2) = 111
          · rw [if_pos (show T (zts T n p + 2) = chN 3 2 from y2)] at hq
            refine fr_f y2 ?_
            obtain ⟨v3, w3, x3⟩ := tk 3 (by omega)
            refine ⟨v3, ?_⟩
            rw [show τ 9 (nI (zts T n p) + 3).toNatClampNeg = _ from w3]
            rw [show (115 : Int32) = nI 115 from rfl, q_eq (by omega) (by omega)]
            rw [es 4 3] at hq
            by_cases y3 : T (zts T n p + 3) = 115
            · rw [if_pos (show T (zts T n p + 3) = chN 3 3 from y3)] at hq
              refine fr_f y3 ?_
              obtain ⟨v4, w4, x4⟩ := tk 4 (by omega)
              refine ⟨v4, ?_⟩
              rw [show τ 9 (nI (zts T n p) + 4).toNatClampNeg = _ from w4]
              rw [q_eq (by omega) (by omega)]
              rw [es 3 4] at hq
              by_cases y4 : T (zts T n p + 4) = 115
              · rw [if_pos (show T (zts T n p + 4) = chN 3 4 from y4)] at hq
                refine fr_f y4 ?_
                obtain ⟨v5, w5, x5⟩ := tk 5 (by omega)
                refine ⟨v5, ?_⟩
                rw [show τ 9 (nI (zts T n p) + 5).toNatClampNeg = _ from w5]
                rw [show (105 : Int32) = nI 105 from rfl, q_eq (by omega) (by omega)]
                rw [es 2 5] at hq
                by_cases y5 : T (zts T n p + 5) = 105
                · rw [if_pos (show T (zts T n p + 5) = chN 3 5 from y5)] at hq
                  refine fr_f y5 ?_
                  obtain ⟨v6, w6, x6⟩ := tk 6 (by omega)
                  refine ⟨v6, ?_⟩
                  rw [show τ 9 (nI (zts T n p) + 6).toNatClampNeg = _ from w6]
                  rw [show (110 : Int32) = nI 110 from rfl, q_eq (by omega) (by omega)]
                  rw [es 1 6] at hq
                  by_cases y6 : T (zts T n p + 6) = 110
                  · rw [if_pos (show T (zts T n p + 6) = chN 3 6 from y6)] at hq
                    refine fr_f y6 ?_
                    obtain ⟨v7, w7, x7⟩ := tk 7 (by omega)
                    refine ⟨v7, ?_⟩
                    rw [show τ 9 (nI (zts T n p) + 7).toNatClampNeg = _ from w7]
                    rw [show (103 : Int32) = nI 103 from rfl, q_eq (by omega) (by omega)]
                    rw [es 0 7] at hq
                    by_cases y7 : T (zts T n p + 7) = 103
                    · rw [if_pos (show T (zts T n p + 7) = chN 3 7 from y7)] at hq
                      exact fr_f y7 hq
                    · rw [if_neg (show ¬ T (zts T n p + 7) = chN 3 7 from y7)] at hq
                      exact fr_t y7 hq
                  · rw [if_neg (show ¬ T (zts T n p + 6) = chN 3 6 from y6)] at hq
                    exact fr_t y6 hq
                · rw [if_neg (show ¬ T (zts T n p + 5) = chN 3 5 from y5)] at hq
                  exact fr_t y5 hq
              · rw [if_neg (show ¬ T (zts T n p + 4) = chN 3 4 from y4)] at hq
                exact fr_t y4 hq
            · rw [if_neg (show ¬ T (zts T n p + 3) = chN 3 3 from y3)] at hq
              exact fr_t y3 hq
          · rw [if_neg (show ¬ T (zts T n p + 2) = chN 3 2 from y2)] at hq
            exact fr_t y2 hq
        · rw [if_neg (show ¬ T (zts T n p + 1) = chN 3 1 from y1)] at hq
          exact fr_t y1 hq
      · rw [if_neg (show ¬ T (zts T n p + 0) = chN 3 0 from y0)] at hq
        exact fr_t y0 hq
    · exact fr_t c2 (no (fun q => c2 q.2))
  · exact fr_t c1 (no (fun q => c1 q.1))
end WD
