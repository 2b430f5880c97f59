theorem fs_p {A : Nat → Nat} {s r g : Nat} : ∀ d o, fsr A s r g d o ≠ 0 → bi r (fsr A s r g d o - 1) = true
  | 0, _, h => absurd rfl h
  | d + 1, o, h => by
    rw [fs_s] at *
    by_cases c : bi r o = true ∧ isP A g o = true ∧ 1 + tt A (cl r o) = tt A s
    · rw [if_pos c]
      exact c.1
    · rw [if_neg c] at *
      exact fs_p d (o + 1) h
theorem fp_p {A : Nat → Nat} {s g : Nat} (h : fp A s g ≠ 0) : bi (cl s g) (fp A s g - 1) = true := by
  unfold fp at *
  by_cases c : tt A (cl s g) = tt A s
  · rw [if_pos c] at h; exact absurd rfl h
  · rw [if_neg c] at *
    exact fs_p _ _ h
theorem bi_wo {s g c w : Nat} (hw : w < 32) : bi (wo s g c) w = true ↔ bi s w = true ∧ w ≠ g ∧ (c ≠ 0 → w ≠ c - 1) := by
  unfold wo
  by_cases z : c = 0
  · rw [if_pos z, bi_cl hw]
    exact ⟨fun h => ⟨h.1, h.2, fun q => absurd z q⟩, fun h => ⟨h.1, h.2.1⟩⟩
  · rw [if_neg z, bi_cl hw, bi_cl hw]
    exact ⟨fun h => ⟨h.1.1, h.1.2, fun _ => h.2⟩, fun h => ⟨⟨h.1, h.2.1⟩, h.2.2 z⟩⟩
section O33
variable {σ τ : St} {a1 a2 a3 a4 : Int32}
set_option maxHeartbeats 4000000 in
set_option maxRecDepth 100000 in
theorem m_mates {A : Nat → Nat} (hR : RowN τ 1 181 A) (hW : WFA A) (hT : Tb τ 6 A (2 ^ A 0)) {Q : St → Prop} (hq : ∀ τ', (∀ w, w < A 0 → τ' 7 w = pt A w (A 0) 0 (2 ^ A 0 - 1)) → (∀ q, q ≠ 7 → τ' q = τ q) → Q τ') : V_X11_layMates τ Q := by
  unfold V_X11_layMates B_X11_layMates_e V_X11_many B_X11_many_e
  have h7 := hW.2.1
  have hp7 := p2_7 h7
  have hp0 : 0 < 2 ^ A 0 := Nat.pow_pos (by omega)
  rw [hR 0 (by omega)]
  dsimp only
  rw [q_shl (by omega), show nI (2 ^ A 0) - 1 = nI (2 ^ A 0 - 1) from pk_sub (b := 1) (by omega)]
  intro v2 e2
  subst e2
  have loop : ∀ d g s (s1 : St), g + d = A 0 → s < 2 ^ A 0 → (∀ j, j < g → ¬ bi s j = true) → (∀ q, q ≠ 7 → s1 q = τ q) → (∀ w, w < A 0 → (pt A w (A 0) 0 (2 ^ A 0 - 1) = pt A w d g s ∧ g ≤ w ∧ bi s w = true) ∨ (s1 7 w = pt A w (A 0) 0 (2 ^ A 0 - 1) ∧ ¬ bi s w = true)) → R_X11_layMates Q 11 [nI s, nI g] [] s1 := by
    intro d
    induction d with
    | zero =>
      intro g s s1 hg hs hlo hf hw
      refine i_X11_layMates_11 _ _ _ _ ?_
      unfold B_X11_layMates_11 V_X11_many B_X11_many_e
      rw [hf 1 (by omega), hR 0 (by omega)]
      dsimp only
      refine ⟨fun _ => hq s1 (fun w h => ?_) hf, fun c => absurd (by rw [q_le (by omega) (by omega)]; omega) c⟩
      rcases hw w h with ⟨-, x, -⟩ | ⟨x, -⟩
      · omega
      · exact x
    | succ d ih =>
      intro g s s1 hg hs hlo hf hw
      refine i_X11_layMates_11 _ _ _ _ ?_
      unfold B_X11_layMates_11 V_X11_many B_X11_many_e
      rw [hf 1 (by omega), hR 0 (by omega)]
      dsimp only
      refine ⟨fun c => absurd (by rw [q_le (by omega) (by omega)] at c; exact c) (by omega), fun _ => v_has (by omega) (by omega) (fun hz => br_f (by decide) ?_) (fun hz => br_t rfl ?_)⟩
      · have zb : bi s g = true := decide_eq_true hz
        have s0 : s ≠ 0 := fun e => by rw [e] at zb; exact bi_0 zb
        have hlg := lowb_e (s := s) (by omega) zb hlo
        have hts := tt_s (A := A) (s := s) (by omega) s0
        have hvl : vl A (tt A) s = vf A (tt A) (lowb s) (cl s (lowb s)) (A 0) := rfl
        rw [hvl, hlg] at hts
        have hcl : cl s g ≤ s := cl_le
        have b1 := tt_b (A := A) (s := s) (by omega)
        have b2 := tt_b (A := A) (s := cl s g) (by omega)
        have hT1 : Tb s1 6 A (2 ^ A 0) := fun j hj => by rw [hf 6 (by omega)]; exact hT j hj
        have hR1 : RowN s1 1 181 A := fun i hi => by rw [hf 1 (by omega)]; exact hR i hi
        have hfb := fp_b (A := A) (s := s) (show g < A 0 by omega)
        have fin : ∀ s2 : St, (∀ q, q ≠ 7 → s2 q = τ q) → (∀ w, (fp A s g ≠ 0 → w ≠ fp A s g - 1) → s2 7 w = s1 7 w) → (fp A s g ≠ 0 → s2 7 (fp A s g - 1) = nI g) → R_X11_layMates Q 124 [nI g, nI (wo s g (fp A s g)), mi (fp A s g)] [] s2 := fun s2 hf2 hk hm => by
          refine i_X11_layMates_124 _ _ _ _ _ ?_
          unfold B_X11_layMates_124
          refine ⟨vp_in_nI (by omega) (by omega), fun s3 e3 => ?_⟩
          rw [nI_clamp (by omega)] at e3
          rw [nI_1]
          have hwl := wo_le (s := s) (g := g) (c := fp A s g)
          refine ih (g + 1) _ s3 (by omega) (by omega) (fun j hj c => ?_) (fun q h => by rw [e3, us_ne h]; exact hf2 q h) (fun w h => ?_)
          · have := (bi_wo (by omega)).mp c
            exact hlo j (by omega) this.1
          · have e37 : ∀ w, w ≠ g → s3 7 w = s2 7 w := fun w hwg => by rw [e3, us_same, pk_un hwg]
            rcases hw w h with ⟨x1, x2, x3⟩ | ⟨x1, x2⟩
            · rw [pt_s, if_pos zb] at x1
              by_cases y : g = w
              · rw [if_pos y] at x1
                refine Or.inr ⟨?_, fun c => ((bi_wo (by omega)).mp c).2.1 y.symm⟩
                rw [x1, ← y, e3, us_same, pk_us]
              · rw [if_neg y] at x1
                by_cases z : fp A s g = w + 1
                · rw [if_pos z] at x1
                  have hm' := hm (by omega)
                  rw [show fp A s g - 1 = w by omega] at hm'
                  refine Or.inr ⟨by rw [x1, e37 w (fun q => y q.symm), hm'], fun c => ((bi_wo (by omega)).mp c).2.2 (by omega) (by omega)⟩
                · rw [if_neg z] at x1
                  exact Or.inl ⟨x1, by omega, (bi_wo (by omega)).mpr ⟨x3, fun q => y q.symm, fun q => by omega⟩⟩
            · refine Or.inr ⟨?_, fun c => x2 ((bi_wo (by omega)).mp c).1⟩
              rw [e37 w (fun q => x2 (by rw [q]; exact zb)), hk w (fun q1 q2 => x2 (by rw [q2]; exact ((bi_cl (by omega)).mp (fp_p q1)).1)), x1]
        intro v3 e3
        rw [q_cl (by omega)] at e3
        subst e3
        refine ⟨vp_in_nI (by omega) (by omega), vp_in_nI (by omega) (by omega), ?_⟩
        rw [nI_clamp (by omega), nI_clamp (by omega), hT1 _ hs, hT1 _ (by omega), q_le (by omega) (by omega)]
        have hge := vf_t (A := A) (t := tt A) (g := g) (r := cl s g) (A 0)
        rw [← hts] at hge
        by_cases z : tt A s ≤ tt A (cl s g)
        · have ef : fp A s g = 0 := by
            unfold fp
            rw [if_pos (by omega)]
          have := fin s1 hf (fun _ _ => rfl) (fun c => absurd ef c)
          rw [ef] at this
          exact br_t z this
        · have ef : fp A s g = fsr A s (cl s g) g (A 0 - (g + 1)) (g + 1) := by
            unfold fp
            rw [if_neg (by omega)]
          obtain ⟨o0, w1, w2, w3, w4, w5⟩ : ∃ o, g < o ∧ o < A 0 ∧ bi (cl s g) o = true ∧ isP A g o = true ∧ vf A (tt A) g (cl s g) (A 0) = 1 + tt A (cl (cl s g) o) := by
            rcases vf_w (A := A) (t := tt A) (g := g) (r := cl s g) (A 0) with e | e
            · omega
            · exact e
          rw [← hts] at w5
          refine br_f z ?_
          have srch : ∀ e o, o + e = A 0 → g < o → o ≤ o0 → fp A s g = fsr A s (cl s g) g e o → R_X11_layMates Q 58 [nI s, nI g, nI (cl s g), nI o] [] s1 := by
            intro e
            induction e with
            | zero => intro o h1 h2 h3 h4; omega
            | succ e ih2 =>
              intro o h1 h2 h3 h4
              refine i_X11_layMates_58 _ _ _ _ _ _ ?_
              unfold B_X11_layMates_58
              have hc2 : cl (cl s g) o ≤ cl s g := cl_le
              have b3 := tt_b (A := A) (s := cl (cl s g) o) (by omega)
              rw [fs_s] at h4
              rw [nI_1]
              refine v_has (by omega) (by omega) (fun hz2 => br_f (by decide) (m_isPair hR1 hW (by omega) (by omega) (fun z2 => br_f (by decide) ?_) (fun z2 => br_t rfl ?_))) (fun hz2 => br_t rfl ?_)
              · have z1 : bi (cl s g) o = true := decide_eq_true hz2
                have hv := vf_ge (A := A) (t := tt A) (g := g) (r := cl s g) h2 z1 z2 (A 0) (by omega)
                rw [← hts] at hv
                rw [q_cl (by omega), nI_clamp (by omega), nI_clamp (by omega), hT1 _ hs, hT1 _ (by omega), show (1 : Int32) = nI 1 from rfl, nI_add, q_le (by omega) (by omega)]
                refine ⟨vp_in_nI (by omega) (by omega), vp_in_nI (by omega) (by omega), ?_⟩
                by_cases y : tt A s ≤ 1 + tt A (cl (cl s g) o)
                · rw [if_pos ⟨z1, z2, by omega⟩] at h4
                  refine br_t y ⟨vp_in_nI (by omega) (by omega), fun s3 e3 v4 e4 => ?_⟩
                  rw [nI_clamp (by omega)] at e3
                  subst e4
                  have f3 := fin s3 (fun q h => by rw [e3, us_ne h]; exact hf q h) (fun w h => by rw [e3, us_same, pk_un (by have := h (by omega); omega)]) (fun _ => by rw [h4, show o + 1 - 1 = o from rfl, e3, us_same, pk_us])
                  rw [h4] at f3
                  exact f3
                · rw [if_neg (fun q => y (by have := q.2.2; omega))] at h4
                  have : o ≠ o0 := fun q => y (by rw [q]; omega)
                  exact br_f y (ih2 (o + 1) (by omega) (by omega) (by omega) h4)
              · rw [if_neg (fun q => z2 q.2.1)] at h4
                have : o ≠ o0 := fun q => z2 (by rw [q]; exact w4)
                exact ih2 (o + 1) (by omega) (by omega) (by omega) h4
              · rw [if_neg (fun q => by have := of_decide_eq_true q.1; omega)] at h4
                have : o ≠ o0 := fun q => by
                  have := of_decide_eq_true w3
                  rw [← q] at this
                  omega
                exact ih2 (o + 1) (by omega) (by omega) (by omega) h4
          rw [nI_1]
          exact srch (A 0 - (g + 1)) (g + 1) (by omega) (by omega) (by omega) ef
      · have zb : ¬ bi s g = true := fun c => by have := of_decide_eq_true c; omega
        rw [nI_1]
        refine ih (g + 1) s s1 (by omega) hs (fun j hj c => ?_) hf (fun w h => ?_)
        · by_cases z : j = g
          · rw [z] at c; exact zb c
          · exact hlo j (by omega) c
        · rcases hw w h with ⟨x1, x2, x3⟩ | x
          · rw [pt_s, if_neg zb] at x1
            refine Or.inl ⟨x1, ?_, x3⟩
            have : w ≠ g := fun q => zb (by rw [← q]; exact x3)
            omega
          · exact Or.inr x
  refine loop (A 0) 0 (2 ^ A 0 - 1) τ (by omega) (by omega) (fun j hj => absurd hj (by omega)) (fun _ _ => rfl) (fun w h => Or.inl ⟨rfl, by omega, bi_all.mpr h⟩)
set_option maxHeartbeats 4000000 in
set_option maxRecDepth 100000 in
theorem p_pairs (hJ : J σ τ) : V_X10_pairs a1 σ (fun r σ' => V_X11_pairs a1 τ (fun r' τ' => r = r' ∧ J σ' τ')) := by
  obtain ⟨S, B, HC, HM, HW⟩ := hJ
  unfold V_X10_pairs B_X10_pairs_e
  obtain ⟨wB, w0, w15, -⟩ := id HW.1
  have hp7 := p2_7 w0
  have hp0 : 0 < 2 ^ S 0 0 := Nat.pow_pos (by omega)
  by_cases c1 : a1 = -1
  · refine br_t c1 (i_X10_pairs_18 _ _ _ ?_)
    unfold B_X10_pairs_18
    refine c_count HC.1.1 (by omega) HW.1 (fun σ1 h65 hT f1 => fr_f c1 ?_)
    unfold V_X2_most B_X2_most_e
    rw [h65, nI_clamp (by omega), hT _ (by omega)]
    refine ⟨vp_in_nI (by omega) (by omega), ?_⟩
    unfold V_X11_pairs B_X11_pairs_e
    refine br_t c1 (i_X11_pairs_20 _ _ _ ?_)
    unfold B_X11_pairs_20
    refine m_most HM.1 HW.1 (fun τ1 hT1 g1 => m_mates (fun i hi => by rw [g1 1 (by omega)]; exact HM.1 i hi) HW.1 hT1 (fun τ2 hm g2 => fr_f c1 ?_))
    unfold V_X11_many B_X11_many_e
    rw [g2 1 (by omega), g1 1 (by omega), HM.1 0 (by omega)]
    dsimp only
    rw [q_shl (by omega), show nI (2 ^ S 0 0) - 1 = nI (2 ^ S 0 0 - 1) from pk_sub (b := 1) (by omega), nI_clamp (by omega), g2 6 (by omega), hT1 _ (by omega)]
    exact ⟨vp_in_nI (by omega) (by omega), rfl, JJ HC HM HW (fun q hq => f1 q (by omega) (by omega)) (fun q hq => by rw [g2 q (by omega), g1 q (by omega)])⟩
  · refine br_f c1 ?_
    by_cases k1 : okI a1 0 ((S 0 0 : Int) - 1)
    · refine c_isG1 HC w0 k1 (fr_t (by decide) (i_X10_pairs_18 _ _ _ ?_))
      unfold B_X10_pairs_18
      obtain ⟨w, hw, rfl⟩ := okG k1
      refine c_count HC.1.1 (by omega) HW.1 (fun σ1 h65 hT f1 => fr_t c1 (c_partner (HC.1.1.congr (fun q h1 h2 => f1 q (by omega) (by omega))) HW.1 hT h65 hw ?_))
      unfold V_X11_pairs B_X11_pairs_e
      refine br_f c1 (m_isG1 HM w0 k1 (fr_t (by decide) (i_X11_pairs_20 _ _ _ ?_)))
      unfold B_X11_pairs_20
      refine m_most HM.1 HW.1 (fun τ1 hT1 g1 => m_mates (fun i hi => by rw [g1 1 (by omega)]; exact HM.1 i hi) HW.1 hT1 (fun τ2 hm g2 => fr_t c1 ?_))
      rw [nI_clamp (by omega), hm w hw]
      exact ⟨vp_in_nI (by omega) (by omega), rfl, JJ HC HM HW (fun q hq => f1 q (by omega) (by omega)) (fun q hq => by rw [g2 q (by omega), g1 q (by omega)])⟩
    · refine c_isG0 HC w0 k1 (fr_f rfl (c_badT HC (fun σ' HC' => ?_)))
      unfold V_X11_pairs B_X11_pairs_e
      exact br_f c1 (m_isG0 HM w0 k1 (fr_f rfl (m_bad HM (fun τ' HM' => ⟨rfl, S, bb B 0, HC', HM', HW⟩))))
end O33
