/-! pairs, in the class -/
def mi (c : Nat) : Int32 := if c = 0 then -1 else nI (c - 1)
def fsr (A : Nat → Nat) (s r g : Nat) : Nat → Nat → Nat
  | 0, _ => 0
  | d + 1, o => if bi r o = true ∧ isP A g o = true ∧ 1 + tt A (cl r o) = tt A s then o + 1 else fsr A s r g d (o + 1)
def fp (A : Nat → Nat) (s g : Nat) : Nat := if tt A (cl s g) = tt A s then 0 else fsr A s (cl s g) g (A 0 - (g + 1)) (g + 1)
def wo (s g c : Nat) : Nat := if c = 0 then cl s g else cl (cl s g) (c - 1)
def pt (A : Nat → Nat) (w : Nat) : Nat → Nat → Nat → Int32
  | 0, _, _ => -1
  | d + 1, g, s => if bi s g = true then (if g = w then mi (fp A s g) else if fp A s g = w + 1 then nI g else pt A w d (g + 1) (wo s g (fp A s g))) else pt A w d (g + 1) s
theorem fs_s {A : Nat → Nat} {s r g d o : Nat} : fsr A s r g (d + 1) o = if bi r o = true ∧ isP A g o = true ∧ 1 + tt A (cl r o) = tt A s then o + 1 else fsr A s r g d (o + 1) := rfl
theorem fs_b {A : Nat → Nat} {s r g : Nat} : ∀ d o, fsr A s r g d o ≤ o + d
  | 0, o => Nat.zero_le _
  | d + 1, o => by
    have := fs_b (A := A) (s := s) (r := r) (g := g) d (o + 1)
    rw [fs_s]
    split <;> omega
theorem fp_b {A : Nat → Nat} {s g : Nat} (hg : g < A 0) : fp A s g ≤ A 0 := by
  unfold fp
  split
  · omega
  · have := fs_b (A := A) (s := s) (r := cl s g) (g := g) (A 0 - (g + 1)) (g + 1)
    omega
theorem pt_s {A : Nat → Nat} {w d g s : Nat} : pt A w (d + 1) g s = if bi s g = true then (if g = w then mi (fp A s g) else if fp A s g = w + 1 then nI g else pt A w d (g + 1) (wo s g (fp A s g))) else pt A w d (g + 1) s := rfl
theorem mi_eq {c w : Nat} (hc : c < 1000) (hw : w < 1000) : (mi c = nI w) = (c = w + 1) := by
  unfold mi
  by_cases z : c = 0
  · rw [if_pos z]
    exact propext ⟨fun h => absurd h.symm (fun q => by rw [show (-1 : Int32) = -nI 1 from rfl, q_m1n (by omega)] at q; exact q), fun h => absurd h (by omega)⟩
  · rw [if_neg z, q_eq (by omega) (by omega)]
    exact propext ⟨fun h => by omega, fun h => by omega⟩
theorem mi_m1 {c : Nat} (hc : c < 1000) : (mi c = -1) = (c = 0) := by
  unfold mi
  by_cases z : c = 0
  · rw [if_pos z]
    exact propext ⟨fun _ => z, fun _ => rfl⟩
  · rw [if_neg z]
    exact propext ⟨fun h => by rw [show (-1 : Int32) = -nI 1 from rfl, q_m1n (by omega)] at h; exact h.elim, fun h => absurd h z⟩
theorem wo_le {s g c : Nat} : wo s g c ≤ s := by
  unfold wo
  split
  · exact cl_le
  · exact Nat.le_trans cl_le cl_le
theorem p2_7 {n : Nat} (h : n ≤ 7) : 2 ^ n ≤ 128 := by
  have := Nat.pow_le_pow_right (show 0 < 2 by omega) h
  exact this
section O31
variable {σ τ : St} {a1 a2 a3 a4 : Int32}
def Tb (σ : St) (c : Nat) (A : Nat → Nat) (s : Nat) : Prop := ∀ j, j < s → σ c j = nI (tt A j)
set_option maxHeartbeats 4000000 in
set_option maxRecDepth 100000 in
theorem c_count {h : Nat} {A : Nat → Nat} (hst : StR σ h A) (hh : h + 8 < 65) (hW : WFA A) {Q : St → Prop} (hq : ∀ σ', σ' 65 1 = nI (2 ^ A 0 - 1) → Tb σ' 66 A (2 ^ A 0) → (∀ q, q ≠ 65 → q ≠ 66 → σ' q = σ q) → Q σ') : V_X2_countAll h σ Q := by
  unfold V_X2_countAll B_X2_countAll_e
  have h7 := hW.2.1
  have hp7 := p2_7 h7
  have hp0 : 0 < 2 ^ A 0 := Nat.pow_pos (by omega)
  rw [hst.1, q_shl (by omega), show nI (2 ^ A 0) - 1 = nI (2 ^ A 0 - 1) from pk_sub (b := 1) (by omega)]
  intro s1 e1 s2 e2
  have loop : ∀ d s (σ1 : St), s + d = 2 ^ A 0 → 0 < s → σ1 65 1 = nI (2 ^ A 0 - 1) → Tb σ1 66 A s → (∀ q, q ≠ 65 → q ≠ 66 → σ1 q = σ q) → R_X2_countAll h Q 21 [nI s] [] σ1 := by
    intro d
    induction d with
    | zero =>
      intro s σ1 hs hs0 h1 hT hf
      refine i_X2_countAll_21 _ _ _ _ ?_
      unfold B_X2_countAll_21
      rw [(by omega : s = 2 ^ A 0)] at *
      rw [h1]
      exact ⟨fun _ => hq σ1 h1 hT hf, fun c => absurd (by rw [q_lt (by omega) (by omega)]; omega) c⟩
    | succ d ih =>
      intro s σ1 hs hs0 h1 hT hf
      refine i_X2_countAll_21 _ _ _ _ ?_
      unfold B_X2_countAll_21
      rw [h1]
      refine ⟨fun c => absurd (by rw [q_lt (by omega) (by omega)] at c; exact c) (by omega), fun _ => v_ntz (by omega) (by omega) (fun v2 e2 => ?_)⟩
      have l1 := lowb_1 (s := s) (by omega) (by omega)
      have l2 := lowb_2 (s := s) (by omega) (by omega)
      have l3 := cl_lt (by omega) l2
      have hts := tt_s (A := A) (s := s) (by omega) (by omega)
      rw [q_cl (by omega)] at e2
      subst e2
      refine ⟨vp_in_nI (by omega) (by omega), vp_in_nI (by omega) (by omega), fun s3 e3 => ?_⟩
      rw [nI_clamp (by omega), nI_clamp (by omega), hT _ l3] at e3
      have hlg : lowb s < A 0 := by
        have := Nat.ge_two_pow_of_testBit (by rw [← bi_tb]; exact l2 : s.testBit (lowb s) = true)
        exact (Nat.pow_lt_pow_iff_right (show 1 < 2 by omega)).mp (by omega)
      have hvl : vl A (tt A) s = vf A (tt A) (lowb s) (cl s (lowb s)) (A 0) := rfl
      rw [hvl] at hts
      generalize lowb s = g at *
      have vb : ∀ k, vf A (tt A) g (cl s g) k < 1000 := fun k => by
        have := vf_le (A := A) (t := tt A) (g := g) (r := cl s g) (b := 127) (fun j hj => by have := tt_b (A := A) (s := j) (by omega); omega) k
        omega
      have inner : ∀ e o (σ2 : St), o + e = A 0 → g < o → σ2 65 1 = nI (2 ^ A 0 - 1) → Tb σ2 66 A s → σ2 66 s = nI (vf A (tt A) g (cl s g) o) → (∀ q, q ≠ 65 → q ≠ 66 → σ2 q = σ q) → R_X2_countAll h Q 61 [nI s, nI g, nI (cl s g), nI o] [] σ2 := by
        intro e
        induction e with
        | zero =>
          intro o σ2 ho hgo h1' hT' hv hf'
          refine i_X2_countAll_61 _ _ _ _ _ _ _ ?_
          unfold B_X2_countAll_61
          have hs' : StR σ2 h A := hst.congr (fun q h1 h2 => hf' q (by omega) (by omega))
          rw [hs'.1, (by omega : o = A 0), nI_1] at *
          refine ⟨fun _ => ih (s + 1) σ2 (by omega) (by omega) h1' (fun j hj => ?_) hf', fun c => absurd (by rw [q_le (by omega) (by omega)]; omega) c⟩
          by_cases z : j = s
          · rw [z, hv, hts]
          · exact hT' j (by omega)
        | succ e ih2 =>
          intro o σ2 ho hgo h1' hT' hv hf'
          refine i_X2_countAll_61 _ _ _ _ _ _ _ ?_
          unfold B_X2_countAll_61
          have hs' : StR σ2 h A := hst.congr (fun q h1 h2 => hf' q (by omega) (by omega))
          have xs : vf A (tt A) g (cl s g) (o + 1) = if g < o ∧ bi (cl s g) o = true ∧ isP A g o = true then max (vf A (tt A) g (cl s g) o) (1 + tt A (cl (cl s g) o)) else vf A (tt A) g (cl s g) o := rfl
          have hcl : cl (cl s g) o ≤ cl s g := cl_le
          have hb1 := tt_b (A := A) (s := cl (cl s g) o) (by omega)
          have hb2 := vb o
          rw [hs'.1, nI_1 o]
          refine ⟨fun c => absurd (by rw [q_le (by omega) (by omega)] at c; exact c) (by omega), fun _ => c_fit hs' hW (by omega) (by omega) (by omega) (fun z1 z2 => ?_) (fun z => ?_)⟩
          · rw [if_pos ⟨hgo, z1, z2⟩] at xs
            rw [q_cl (by omega), nI_clamp (by omega), nI_clamp (by omega), hv, hT' (cl (cl s g) o) (by omega), show (1 : Int32) = nI 1 from rfl, nI_add]
            refine br_f (by decide) ⟨vp_in_nI (by omega) (by omega), vp_in_nI (by omega) (by omega), vp_in_nI (by omega) (by omega), fun s4 e4 => ?_⟩
            have em : (if nI (vf A (tt A) g (cl s g) o) < nI (1 + tt A (cl (cl s g) o)) then nI (1 + tt A (cl (cl s g) o)) else nI (vf A (tt A) g (cl s g) o)) = nI (vf A (tt A) g (cl s g) (o + 1)) := by
              rw [xs]
              by_cases y : vf A (tt A) g (cl s g) o < 1 + tt A (cl (cl s g) o)
              · rw [if_pos (by rw [q_lt (by omega) (by omega)]; exact y)]; exact congrArg nI (by omega)
              · rw [if_neg (by rw [q_lt (by omega) (by omega)]; exact y)]; exact congrArg nI (by omega)
            rw [em] at e4
            refine ih2 (o + 1) s4 (by omega) (by omega) (by rw [e4, us_ne (by omega)]; exact h1') (fun j hj => ?_) (by rw [e4, us_same, pk_us]) (fun q q1 q2 => by rw [e4, us_ne q2]; exact hf' q q1 q2)
            rw [e4, us_same, pk_un (by omega)]
            exact hT' j hj
          · rw [if_neg (fun q => z q.2)] at xs
            rw [← xs] at hv
            exact br_t rfl (ih2 (o + 1) σ2 (by omega) (by omega) h1' hT' hv hf')
      rw [nI_1]
      refine inner (A 0 - (g + 1)) (g + 1) s3 (by omega) (by omega) (by rw [e3, us_ne (by omega)]; exact h1) (fun j hj => ?_) (by rw [e3, us_same, pk_us, vf_lo _ (by omega)]) (fun q q1 q2 => by rw [e3, us_ne q2]; exact hf q q1 q2)
      rw [e3, us_same, pk_un (by omega)]
      exact hT j hj
  refine loop (2 ^ A 0 - 1) 1 s2 (by omega) (by omega) (by rw [e2, us_ne (by omega), e1, us_same, pk_us]) (fun j hj => ?_) (fun q q1 q2 => by rw [e2, us_ne q2, e1, us_ne q1])
  have : j = 0 := by omega
  subst this
  rw [e2, us_same, pk_us]
  rfl
set_option maxHeartbeats 4000000 in
set_option maxRecDepth 100000 in
theorem c_first {h : Nat} {A : Nat → Nat} {s g : Nat} (hst : StR σ h A) (hW : WFA A) (hT : Tb σ 66 A (2 ^ A 0)) (hs : s < 2 ^ A 0) (hg : g < A 0) {Q : Int32 → St → Prop} (hq : Q (mi (fp A s g)) σ) : V_X2_firstPartner h (nI s) (nI g) σ Q := by
  unfold V_X2_firstPartner B_X2_firstPartner_e
  have h7 := hW.2.1
  have hp7 := p2_7 h7
  have hcl : cl s g ≤ s := cl_le
  have b1 := tt_b (A := A) (s := s) (by omega)
  have b2 := tt_b (A := A) (s := cl s g) (by omega)
  intro v1 e1
  rw [q_cl (by omega)] at e1
  subst e1
  refine ⟨vp_in_nI (by omega) (by omega), vp_in_nI (by omega) (by omega), ?_⟩
  rw [nI_clamp (by omega), nI_clamp (by omega), hT _ (by omega), hT _ hs, q_eq (by omega) (by omega)]
  unfold fp at hq
  by_cases z : tt A (cl s g) = tt A s
  · rw [if_pos z] at hq
    exact fr_f z hq
  · rw [if_neg z] at hq
    refine fr_t z ?_
    have loop : ∀ d o, o + d = A 0 → Q (mi (fsr A s (cl s g) g d o)) σ → R_X2_firstPartner h (nI s) (nI g) Q 32 [nI (cl s g), nI o] [] σ := by
      intro d
      induction d with
      | zero =>
        intro o ho hq'
        refine i_X2_firstPartner_32 _ _ _ _ _ _ _ ?_
        unfold B_X2_firstPartner_32
        rw [hst.1]
        exact ⟨fun _ => hq', fun c => absurd (by rw [q_le (by omega) (by omega)]; omega) c⟩
      | succ d ih =>
        intro o ho hq'
        refine i_X2_firstPartner_32 _ _ _ _ _ _ _ ?_
        unfold B_X2_firstPartner_32
        have hc2 : cl (cl s g) o ≤ cl s g := cl_le
        have b3 := tt_b (A := A) (s := cl (cl s g) o) (by omega)
        rw [fs_s] at hq'
        rw [hst.1, nI_1]
        refine ⟨fun c => absurd (by rw [q_le (by omega) (by omega)] at c; exact c) (by omega), fun _ => c_fit hst hW (by omega) hg (by omega) (fun z1 z2 => br_f (by decide) ?_) (fun y => br_t rfl ?_)⟩
        · rw [q_cl (by omega), nI_clamp (by omega), nI_clamp (by omega), hT _ (by omega), hT _ hs, show (1 : Int32) = nI 1 from rfl, nI_add, q_eq (by omega) (by omega)]
          refine ⟨vp_in_nI (by omega) (by omega), vp_in_nI (by omega) (by omega), ?_⟩
          by_cases y : 1 + tt A (cl (cl s g) o) = tt A s
          · rw [if_pos ⟨z1, z2, y⟩] at hq'
            exact fr_f y hq'
          · rw [if_neg (fun q => y q.2.2)] at hq'
            exact fr_t y (ih (o + 1) (by omega) hq')
        · rw [if_neg (fun q => y ⟨q.1, q.2.1⟩)] at hq'
          exact ih (o + 1) (by omega) hq'
    rw [nI_1]
    exact loop (A 0 - (g + 1)) (g + 1) (by omega) hq
set_option maxHeartbeats 4000000 in
set_option maxRecDepth 100000 in
theorem c_partner {h : Nat} {A : Nat → Nat} {w : Nat} (hst : StR σ h A) (hW : WFA A) (hT : Tb σ 66 A (2 ^ A 0)) (h65 : σ 65 1 = nI (2 ^ A 0 - 1)) (hw : w < A 0) {Q : Int32 → St → Prop} (hq : Q (pt A w (A 0) 0 (2 ^ A 0 - 1)) σ) : V_X2_partner h (nI w) σ Q := by
  unfold V_X2_partner B_X2_partner_e
  have h7 := hW.2.1
  have hp7 := p2_7 h7
  have hp0 : 0 < 2 ^ A 0 := Nat.pow_pos (by omega)
  have loop : ∀ d g s, g + d = A 0 → s < 2 ^ A 0 → Q (pt A w d g s) σ → R_X2_partner h (nI w) Q 8 [nI s, nI g] [] σ := by
    intro d
    induction d with
    | zero =>
      intro g s hg hs hq'
      refine i_X2_partner_8 _ _ _ _ _ _ ?_
      unfold B_X2_partner_8
      rw [hst.1]
      exact ⟨fun _ => hq', fun c => absurd (by rw [q_le (by omega) (by omega)]; omega) c⟩
    | succ d ih =>
      intro g s hg hs hq'
      refine i_X2_partner_8 _ _ _ _ _ _ ?_
      unfold B_X2_partner_8
      have hm2 := Nat.mod_lt (s / 2 ^ g) (show 0 < 2 by omega)
      rw [pt_s] at hq'
      rw [hst.1, q_bit (by omega) (by omega), nI_1]
      refine ⟨fun c => absurd (by rw [q_le (by omega) (by omega)] at c; exact c) (by omega), fun _ => ?_⟩
      by_cases z : s / 2 ^ g % 2 = 1
      · have zb : bi s g = true := decide_eq_true z
        rw [if_pos zb] at hq'
        have hfb := fp_b (A := A) (s := s) (show g < A 0 by omega)
        refine fr_f (by rw [z]; rfl) (c_first hst hW hT hs (by omega) ?_)
        rw [q_eq (by omega) (by omega), mi_eq (by omega) (by omega)]
        by_cases y : g = w
        · rw [if_pos y] at hq'
          exact fr_f y hq'
        · rw [if_neg y] at hq'
          refine fr_t y ?_
          by_cases x : fp A s g = w + 1
          · rw [if_pos x] at hq'
            exact fr_f x hq'
          · rw [if_neg x] at hq'
            refine fr_t x ?_
            unfold V_X2_without B_X2_without_e
            intro v1 e1
            rw [q_cl (by omega)] at e1
            subst e1
            rw [mi_m1 (by omega)]
            have hwl := wo_le (s := s) (g := g) (c := fp A s g)
            have nx := ih (g + 1) _ (by omega) (show wo s g (fp A s g) < 2 ^ A 0 by omega) hq'
            unfold wo at nx
            by_cases v : fp A s g = 0
            · rw [if_pos v] at nx
              exact fr_f v nx
            · rw [if_neg v] at nx
              refine fr_t v ?_
              unfold mi
              rw [if_neg v, q_cl (by omega)]
              exact nx
      · have zb : ¬ bi s g = true := fun c => z (of_decide_eq_true c)
        rw [if_neg zb] at hq'
        exact fr_t (by rw [show (1 : Int32) = nI 1 from rfl, q_eq (by omega) (by omega)]; exact z) (ih (g + 1) s (by omega) hs hq')
  rw [h65]
  exact loop (A 0) 0 (2 ^ A 0 - 1) (by omega) (by omega) hq
end O31
