/-! the hour that parts, in the class -/
def bi (M g : Nat) : Bool := decide (M / 2 ^ g % 2 = 1)
def tm (A : Nat → Nat) (M h : Nat) : Nat := mx1 (bi M) (fun g => it h A (6 + g)) (A 0)
def tf (A : Nat → Nat) (M : Nat) : Nat → Nat → Nat → Int32 → Int32
  | 0, _, _, v => v
  | d + 1, h, b, v => if 0 < tm A M h ∧ tm A M h < b then tf A M d (h + 1) (tm A M h) (nI h) else tf A M d (h + 1) b v
theorem bi_0 {g : Nat} : ¬ bi 0 g = true := by
  unfold bi
  rw [Nat.zero_div]
  decide
section O24
variable {σ τ : St} {a1 a2 a3 a4 : Int32}
set_option maxHeartbeats 4000000 in
set_option maxRecDepth 100000 in
theorem c_tell {A : Nat → Nat} {M : Nat} (hst : StR σ 2 A) (hW : WFA A) (hM : M < 2147483648) {Q : Int32 → St → Prop} (hq : ∀ σ', (∀ q, q < 56 ∨ (64 < q ∧ q ≠ 67 ∧ q ≠ 68) → σ' q = σ q) → Q (tf A M 21 0 24 (-1)) σ') : V_X0_hoursThatPart 2 (nI M) σ Q := by
  unfold V_X0_hoursThatPart B_X0_hoursThatPart_e
  have h15 := hW.2.2.1
  have h7 := hW.2.1
  refine s_copy hst h7 hW.1.2.1 (by omega) (fun s1 hs1 f1 => t_begin (fun s2 b3 b2 f2 => ?_))
  have loop : ∀ d h b v (s : St), h + d = 21 → b < 1000 → s 67 2 = nI b → s 67 3 = v → StR s 56 (it h A) → (∀ q, q < 56 ∨ (64 < q ∧ q ≠ 67 ∧ q ≠ 68) → s q = σ q) → tf A M 21 0 24 (-1) = tf A M d h b v → R_X0_hoursThatPart 2 (nI M) Q 15 [nI h] [] s := by
    intro d
    induction d with
    | zero =>
      intro h b v s hh hb e2 e3 hs hf hw
      refine i_X0_hoursThatPart_15 _ _ _ _ _ ?_
      unfold B_X0_hoursThatPart_15
      refine ⟨fun _ => ?_, fun c => absurd (by rw [show (20 : Int32) = nI 20 from rfl, q_lt (by omega) (by omega)]; omega) c⟩
      have := hq s hf
      rw [hw] at this
      rw [e3]
      exact this
    | succ d ih =>
      intro h b v s hh hb e2 e3 hs hf hw
      refine i_X0_hoursThatPart_15 _ _ _ _ _ ?_
      unfold B_X0_hoursThatPart_15
      refine ⟨fun c => absurd (by rw [show (20 : Int32) = nI 20 from rfl, q_lt (by omega) (by omega)] at c; exact c) (by omega), fun _ => t_empty e2 e3 (fun s3 hp3 f3 => ?_)⟩
      have hB := Bd_it hW.1 h (by omega)
      have e0 : it h A 0 = A 0 := it_lo (by omega) h
      have hml := mx1_le (p := bi M) (f := fun g => it h A (6 + g)) (A 0)
      have hw2 : tf A M (d + 1) h b v = if 0 < tm A M h ∧ tm A M h < b then tf A M d (h + 1) (tm A M h) (nI h) else tf A M d (h + 1) b v := rfl
      have inner : ∀ d2 g (c : Nat → Nat) (s' : St), g + d2 = A 0 → Pt s' c (mx1 (bi M) (fun g => it h A (6 + g)) g) b v → (∀ w, w < 24 → c w = mu (bi M) (fun g => it h A (6 + g)) w g) → (∀ q, q ≠ 67 → q ≠ 68 → s' q = s q) → R_X0_hoursThatPart 2 (nI M) Q 29 [nI h, nI g] [] s' := by
        intro d2
        induction d2 with
        | zero =>
          intro g c s' hg hp hc hf'
          have hs' : StR s' 56 (it h A) := hs.congr (fun q h1 h2 => hf' q (by omega) (by omega))
          refine i_X0_hoursThatPart_29 _ _ _ _ _ _ ?_
          unfold B_X0_hoursThatPart_29
          rw [hs'.1, e0, (by omega : g = A 0)] at *
          refine ⟨fun _ => t_offer hp (by omega) hb (fun hk => ?_) (fun h1 h2 s4 hp4 f4 => ?_), fun c => absurd (by rw [q_le (by omega) (by omega)]; omega) c⟩
          · refine s_passHour hs' hB (fun s5 hs5 f5 => ?_)
            rw [nI_1]
            rw [← it_succ] at hs5
            exact ih (h + 1) b v s5 (by omega) hb (by rw [f5 67 (by omega)]; exact hp.2.2.1) (by rw [f5 67 (by omega)]; exact hp.2.2.2) hs5 (fun q hq => by rw [f5 q (by omega), hf' q (by omega) (by omega), hf q hq]) (by rw [hw, hw2, if_neg (by unfold tm; omega)])
          · refine s_passHour (hs'.congr (fun q h1 h2 => f4 q (by omega))) hB (fun s5 hs5 f5 => ?_)
            rw [nI_1]
            rw [← it_succ] at hs5
            exact ih (h + 1) (tm A M h) (nI h) s5 (by omega) (by unfold tm; omega) (by rw [f5 67 (by omega)]; exact hp4.2.2.1) (by rw [f5 67 (by omega)]; exact hp4.2.2.2) hs5 (fun q hq => by rw [f5 q (by omega), f4 q (by omega), hf' q (by omega) (by omega), hf q hq]) (by rw [hw, hw2, if_pos (by unfold tm; exact ⟨h1, h2⟩)])
        | succ d2 ih2 =>
          intro g c s' hg hp hc hf'
          have hs' : StR s' 56 (it h A) := hs.congr (fun q h1 h2 => hf' q (by omega) (by omega))
          refine i_X0_hoursThatPart_29 _ _ _ _ _ _ ?_
          unfold B_X0_hoursThatPart_29
          have b2 := (hB.2.2.2.2.2.1 g (by omega)).2
          have hmg := mx1_le (p := bi M) (f := fun g => it h A (6 + g)) g
          have hcg := mu_le (p := bi M) (f := fun g => it h A (6 + g)) (v := it h A (6 + g)) g
          have x1 : mx1 (bi M) (fun g => it h A (6 + g)) (g + 1) = if bi M g = true then max (mx1 (bi M) (fun g => it h A (6 + g)) g) (mu (bi M) (fun g => it h A (6 + g)) (it h A (6 + g)) g + 1) else mx1 (bi M) (fun g => it h A (6 + g)) g := rfl
          have x2 : ∀ w, mu (bi M) (fun g => it h A (6 + g)) w (g + 1) = mu (bi M) (fun g => it h A (6 + g)) w g + (if bi M g = true ∧ it h A (6 + g) = w then 1 else 0) := fun w => rfl
          rw [hs'.1, e0, q_bit hM (by omega), nI_clamp (by omega), show s' 60 g = nI (it h A (6 + g)) from hs'.2.2.2.2.2.2.2.1 g (by omega), nI_1]
          refine ⟨fun c => absurd (by rw [q_le (by omega) (by omega)] at c; exact c) (by omega), fun _ => ?_⟩
          by_cases z : M / 2 ^ g % 2 = 1
          · have zb : bi M g = true := decide_eq_true z
            rw [if_pos zb] at x1
            refine fr_f (by rw [z]; rfl) ⟨vp_in_nI (by omega) (by omega), t_add hp (by omega) (by rw [hc _ (by omega)]; omega) (by omega) (fun s4 hp4 f4 => ?_)⟩
            rw [hc _ (by omega), ← x1] at hp4
            rw [nI_1]
            refine ih2 (g + 1) _ s4 (by omega) hp4 (fun w hw => ?_) (fun q h1 h2 => by rw [f4 q h1 h2, hf' q h1 h2])
            rw [x2 w]
            unfold upN
            by_cases y : w = it h A (6 + g)
            · rw [if_pos y, if_pos ⟨zb, y.symm⟩, y]
            · rw [if_neg y, if_neg (fun q => y q.2.symm), hc w hw]
              rfl
          · have zb : ¬ bi M g = true := fun c => z (of_decide_eq_true c)
            rw [if_neg zb] at x1
            have hm2 := Nat.mod_lt (M / 2 ^ g) (show 0 < 2 by omega)
            refine fr_t (by rw [show (1 : Int32) = nI 1 from rfl, q_eq (by omega) (by omega)]; exact z) ?_
            rw [← x1] at hp
            rw [nI_1]
            refine ih2 (g + 1) c s' (by omega) hp (fun w hw => ?_) hf'
            rw [x2 w, if_neg (fun q => zb q.1), hc w hw]
            rfl
      exact inner (A 0) 0 (fun _ => 0) s3 (by omega) hp3 (fun w hw => rfl) f3
  exact loop 21 0 24 (-1) s2 (by omega) (by omega) b2 b3 (hs1.congr (fun q h1 h2 => f2 q (by omega))) (fun q hq => by rw [f2 q (by omega), f1 q (by omega)]) rfl
end O24
