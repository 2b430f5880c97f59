section O32
variable {σ τ : St} {a1 a2 a3 a4 : Int32}
set_option maxHeartbeats 4000000 in
set_option maxRecDepth 100000 in
theorem m_most {A : Nat → Nat} (hR : RowN τ 1 181 A) (hW : WFA A) {Q : St → Prop} (hq : ∀ τ', Tb τ' 6 A (2 ^ A 0) → (∀ q, q ≠ 6 → τ' q = τ q) → Q τ') : V_X11_layMost τ Q := by
  unfold V_X11_layMost B_X11_layMost_e
  have h7 := hW.2.1
  have hp7 := p2_7 h7
  have hp0 : 0 < 2 ^ A 0 := Nat.pow_pos (by omega)
  have loop : ∀ d s (τ1 : St), s + d = 2 ^ A 0 → Tb τ1 6 A s → (∀ q, q ≠ 6 → τ1 q = τ q) → R_X11_layMost Q 2 [nI s] [] τ1 := by
    intro d
    induction d with
    | zero =>
      intro s τ1 hs hT hf
      refine i_X11_layMost_2 _ _ _ ?_
      unfold B_X11_layMost_2 V_X11_many B_X11_many_e
      rw [hf 1 (by omega), hR 0 (by omega)]
      dsimp only
      rw [q_shl (by omega)]
      have es : s = 2 ^ A 0 := by omega
      subst es
      exact ⟨fun _ => hq τ1 hT hf, fun c => absurd (by rw [q_le (by omega) (by omega)]; omega) c⟩
    | succ d ih =>
      intro s τ1 hs hT hf
      refine i_X11_layMost_2 _ _ _ ?_
      unfold B_X11_layMost_2 V_X11_many B_X11_many_e
      rw [hf 1 (by omega), hR 0 (by omega)]
      dsimp only
      rw [q_shl (by omega)]
      refine ⟨fun c => absurd (by rw [q_le (by omega) (by omega)] at c; exact c) (by omega), fun _ => ⟨vp_in_nI (by omega) (by omega), fun s2 e2 => ?_⟩⟩
      rw [nI_clamp (by omega)] at e2
      have hT2 : Tb s2 6 A s := fun j hj => by rw [e2, us_same, pk_un (by omega)]; exact hT j hj
      have hf2 : ∀ q, q ≠ 6 → s2 q = τ q := fun q hq => by rw [e2, us_ne hq]; exact hf q hq
      by_cases s0 : s = 0
      · subst s0
        refine i_X11_layMost_21 _ _ _ _ ?_
        unfold B_X11_layMost_21
        refine br_t (by decide) (i_X11_layMost_39 _ _ _ _ ?_)
        unfold B_X11_layMost_39
        intro v1 e1
        refine fr_f rfl ⟨vp_in_nI (by omega) (by omega), fun s3 e3 => ?_⟩
        have e30 : s3 6 0 = 0 := by rw [e3, us_same]; exact pk_us
        refine i_X11_layMost_72 _ _ _ _ _ _ ?_
        unfold B_X11_layMost_72 V_X11_many B_X11_many_e
        have nx : R_X11_layMost Q 2 [nI 0 + 1] [] s3 := by
          rw [nI_1]
          refine ih (0 + 1) s3 (by omega) (fun j hj => ?_) (fun q hq => by rw [e3, us_ne hq]; exact hf2 q hq)
          rw [(by omega : j = 0)]
          exact e30
        refine ⟨fun _ => nx, fun _ => br_t (by decide) nx⟩
      · have l1 := lowb_1 (s := s) (by omega) s0
        have l2 := lowb_2 (s := s) (by omega) s0
        have l4 := fun j => lowb_3 (s := s) (j := j) (by omega) s0
        have l3 := cl_lt (by omega) l2
        have hts := tt_s (A := A) (s := s) (by omega) s0
        have hvl : vl A (tt A) s = vf A (tt A) (lowb s) (cl s (lowb s)) (A 0) := rfl
        rw [hvl] at hts
        have hlg : lowb s < A 0 := by
          have := Nat.ge_two_pow_of_testBit (by rw [← bi_tb]; exact l2 : s.testBit (lowb s) = true)
          exact (Nat.pow_lt_pow_iff_right (show 1 < 2 by omega)).mp (by omega)
        generalize lowb s = g at *
        have vb : ∀ k, vf A (tt A) g (cl s g) k < 1000 := fun k => by
          have := vf_le (A := A) (t := tt A) (g := g) (r := cl s g) (b := 127) (fun j hj => by have := tt_b (A := A) (s := j) (by omega); omega) k
          omega
        have inner : ∀ e o (σ2 : St), o + e = A 0 → g < o → Tb σ2 6 A s → σ2 6 s = nI (vf A (tt A) g (cl s g) o) → (∀ q, q ≠ 6 → σ2 q = τ q) → R_X11_layMost Q 72 [nI s, nI g, nI (cl s g), nI o] [] σ2 := by
          intro e
          induction e with
          | zero =>
            intro o σ2 ho hgo hT' hv hf'
            refine i_X11_layMost_72 _ _ _ _ _ _ ?_
            unfold B_X11_layMost_72 V_X11_many B_X11_many_e
            rw [hf' 1 (by omega), hR 0 (by omega)]
            dsimp only
            have eo : o = A 0 := by omega
            subst eo
            rw [nI_1 s]
            refine ⟨fun _ => ih (s + 1) σ2 (by omega) (fun j hj => ?_) hf', fun c => absurd (by rw [q_le (by omega) (by omega)]; omega) c⟩
            by_cases z : j = s
            · rw [z, hv, hts]
            · exact hT' j (by omega)
          | succ e ih2 =>
            intro o σ2 ho hgo hT' hv hf'
            refine i_X11_layMost_72 _ _ _ _ _ _ ?_
            unfold B_X11_layMost_72 V_X11_many B_X11_many_e
            have xs : vf A (tt A) g (cl s g) (o + 1) = if g < o ∧ bi (cl s g) o = true ∧ isP A g o = true then max (vf A (tt A) g (cl s g) o) (1 + tt A (cl (cl s g) o)) else vf A (tt A) g (cl s g) o := rfl
            have hcl : cl (cl s g) o ≤ cl s g := cl_le
            have hb1 := tt_b (A := A) (s := cl (cl s g) o) (by omega)
            have hb2 := vb o
            have hR2 : RowN σ2 1 181 A := fun i hi => by rw [hf' 1 (by omega)]; exact hR i hi
            have put : ∀ x, x ≤ 128 → vf A (tt A) g (cl s g) (o + 1) = max (vf A (tt A) g (cl s g) o) x → R_X11_layMost Q 123 [nI s, nI g, nI (cl s g), nI o, nI x] [] σ2 := fun x hx ex => by
              refine i_X11_layMost_123 _ _ _ _ _ _ _ ?_
              unfold B_X11_layMost_123
              rw [nI_clamp (by omega), hv, nI_1]
              have vi : vp_in (nI s) 128 := vp_in_nI (by omega) (by omega)
              have go : ∀ y (s4 : St), nI y = nI (vf A (tt A) g (cl s g) (o + 1)) → s4 = us σ2 6 (upd (σ2 6) s (nI y)) → R_X11_layMost Q 72 [nI s, nI g, nI (cl s g), nI (o + 1)] [] s4 := fun y s4 ey e4 => by
                refine ih2 (o + 1) s4 (by omega) (by omega) (fun j hj => ?_) (by rw [e4, us_same, pk_us, ey]) (fun q q1 => by rw [e4, us_ne q1]; exact hf' q q1)
                rw [e4, us_same, pk_un (by omega)]
                exact hT' j hj
              by_cases y : x ≤ vf A (tt A) g (cl s g) o
              · exact ⟨vi, br_t (by rw [q_le (by omega) (by omega)]; exact y) ⟨vi, vi, fun s4 e4 => go _ s4 (by rw [ex]; exact congrArg nI (by omega)) e4⟩⟩
              · exact ⟨vi, br_f (by rw [q_le (by omega) (by omega)]; exact y) ⟨vi, fun s4 e4 => go _ s4 (by rw [ex]; exact congrArg nI (by omega)) e4⟩⟩
            rw [hf' 1 (by omega), hR 0 (by omega)]
            dsimp only
            refine ⟨fun c => absurd (by rw [q_le (by omega) (by omega)] at c; exact c) (by omega), fun _ => br_f (by rw [show (0 : Int32) = nI 0 from rfl, q_le (by omega) (by omega)]; omega) (v_has (by omega) (by omega) (fun hz => br_f (by decide) (m_isPair hR2 hW (by omega) (by omega) (fun z2 => br_f (by decide) ?_) (fun z2 => br_t rfl (put 0 (by omega) ?_)))) (fun hz => br_t rfl (put 0 (by omega) ?_)))⟩
            · have z1 : bi (cl s g) o = true := (bi_cl (by omega)).mpr ⟨decide_eq_true hz, by omega⟩
              rw [if_pos ⟨hgo, z1, z2⟩] at xs
              rw [q_cl (by omega), nI_clamp (by omega), hT' _ (by omega), show (1 : Int32) = nI 1 from rfl, nI_add]
              exact ⟨vp_in_nI (by omega) (by omega), put _ (by omega) xs⟩
            · rw [if_neg (fun q => z2 q.2.2)] at xs
              omega
            · rw [if_neg (fun q => by have := of_decide_eq_true ((bi_cl (by omega)).mp q.2.1).1; omega)] at xs
              omega
        have fnd : ∀ e f, f + e = g → R_X11_layMost Q 21 [nI s, nI f] [] s2 := by
          intro e
          induction e with
          | zero =>
            intro f hf0
            refine i_X11_layMost_21 _ _ _ _ ?_
            unfold B_X11_layMost_21
            rw [(by omega : f = g)]
            refine br_f (by rw [show (0 : Int32) = nI 0 from rfl, q_le (by omega) (by omega)]; omega) (v_has (by omega) (by omega) (fun hz => fr_t (by decide) (i_X11_layMost_39 _ _ _ _ ?_)) (fun hz => absurd (of_decide_eq_true l2) (by omega)))
            unfold B_X11_layMost_39
            intro v1 e1
            rw [q_cl (by omega)] at e1
            subst e1
            refine fr_t (by rw [show (0 : Int32) = nI 0 from rfl, q_eq (by omega) (by omega)]; exact s0) ⟨vp_in_nI (by omega) (by omega), vp_in_nI (by omega) (by omega), fun s3 e3 => ?_⟩
            rw [nI_clamp (by omega), nI_clamp (by omega), hT2 _ l3] at e3
            rw [nI_1]
            refine inner (A 0 - (g + 1)) (g + 1) s3 (by omega) (by omega) (fun j hj => ?_) (by rw [e3, us_same, pk_us, vf_lo _ (by omega)]) (fun q q1 => by rw [e3, us_ne q1]; exact hf2 q q1)
            rw [e3, us_same, pk_un (by omega)]
            exact hT2 j hj
          | succ e ihf =>
            intro f hf0
            refine i_X11_layMost_21 _ _ _ _ ?_
            unfold B_X11_layMost_21
            refine br_f (by rw [show (0 : Int32) = nI 0 from rfl, q_le (by omega) (by omega)]; omega) (v_has (by omega) (by omega) (fun hz => ?_) (fun hz => ?_))
            · have := l4 f (by omega)
              unfold bi at this
              exact absurd hz (of_decide_eq_false this)
            · rw [nI_1]
              exact fr_f rfl (ihf (f + 1) (by omega))
        exact fnd g 0 (by omega)
  exact loop (2 ^ A 0) 0 τ (by omega) (fun j hj => absurd hj (by omega)) (fun _ _ => rfl)
end O32
