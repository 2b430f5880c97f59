section O27
variable {σ τ : St} {a1 a2 a3 a4 : Int32}
set_option maxHeartbeats 4000000 in
set_option maxRecDepth 100000 in
theorem m_alike {M : Nat} {f : Nat → Nat} (hM : M < 64) (hf : ∀ k, k < 6 → τ 8 k = nI (f k)) (hfb : ∀ k, k < 6 → f k ≤ 8) {Q : Int32 → St → Prop} (hq : Q (nI (mx1 (bi M) f 6)) τ) : V_X11_mostAlike (nI M) τ Q := by
  unfold V_X11_mostAlike B_X11_mostAlike_e
  have loop : ∀ d a, a + d = 6 → R_X11_mostAlike (nI M) Q 4 [nI (mx2 (bi M) f 6 a), nI a] [] τ := by
    intro d
    induction d with
    | zero =>
      intro a ha
      refine i_X11_mostAlike_4 _ _ _ _ _ ?_
      unfold B_X11_mostAlike_4
      rw [(by omega : a = 6), mx_eq]
      exact ⟨fun _ => hq, fun c => absurd (by decide) c⟩
    | succ d ih =>
      intro a ha
      refine i_X11_mostAlike_4 _ _ _ _ _ ?_
      unfold B_X11_mostAlike_4
      refine ⟨fun c => absurd (by rw [show (6 : Int32) = nI 6 from rfl, q_le (by omega) (by omega)] at c; exact c) (by omega), fun _ => ?_⟩
      have x2 : mx2 (bi M) f 6 (a + 1) = if bi M a = true then max (mx2 (bi M) f 6 a) (mu (bi M) f (f a) 6) else mx2 (bi M) f 6 a := rfl
      have nx := ih (a + 1) (by omega)
      have m2 : mx2 (bi M) f 6 a ≤ 6 := Nat.le_trans (mx2_le a) (mx1_le _)
      have last : ∀ x, x ≤ 8 → mx2 (bi M) f 6 (a + 1) = max (mx2 (bi M) f 6 a) x → R_X11_mostAlike (nI M) Q 72 [nI (mx2 (bi M) f 6 a), nI a, nI x] [] τ := fun x hx ex => by
        refine i_X11_mostAlike_72 _ _ _ _ _ _ ?_
        unfold B_X11_mostAlike_72
        rw [nI_1]
        rw [ex] at nx
        by_cases y : x ≤ mx2 (bi M) f 6 a
        · rw [Nat.max_eq_left y] at nx
          exact br_t (by rw [q_le (by omega) (by omega)]; exact y) nx
        · rw [Nat.max_eq_right (by omega)] at nx
          exact br_f (by rw [q_le (by omega) (by omega)]; exact y) nx
      have inner : ∀ e b, b + e = 6 → (bi M a = true ∨ b = 0) → R_X11_mostAlike (nI M) Q 16 [nI (mx2 (bi M) f 6 a), nI a, nI (mu (bi M) f (f a) b), nI b] [] τ := by
        intro e
        induction e with
        | zero =>
          intro b hb hbg
          refine i_X11_mostAlike_16 _ _ _ _ _ _ _ ?_
          unfold B_X11_mostAlike_16
          have hz : bi M a = true := by rcases hbg with q | q; exact q; omega
          rw [if_pos hz] at x2
          have := mu_le (p := bi M) (f := f) (v := f a) 6
          rw [(by omega : b = 6)]
          exact ⟨fun _ => last _ (by omega) x2, fun c => absurd (by decide) c⟩
        | succ e ih3 =>
          intro b hb hbg
          refine i_X11_mostAlike_16 _ _ _ _ _ _ _ ?_
          unfold B_X11_mostAlike_16
          refine ⟨fun c => absurd (by rw [show (6 : Int32) = nI 6 from rfl, q_le (by omega) (by omega)] at c; exact c) (by omega), fun _ => v_has (by omega) (by omega) (fun hz => ?_) (fun hz => ?_)⟩
          · have hz' : bi M a = true := decide_eq_true hz
            have nk := ih3 (b + 1) (by omega) (Or.inl hz')
            have xu : mu (bi M) f (f a) (b + 1) = mu (bi M) f (f a) b + (if bi M b = true ∧ f b = f a then 1 else 0) := rfl
            have q1 := hfb a (by omega)
            have q2 := hfb b (by omega)
            refine br_f (by decide) (v_has (by omega) (by omega) (fun hy => br_f (by decide) ⟨vp_in_nI (by omega) (by omega), vp_in_nI (by omega) (by omega), ?_⟩) (fun hy => br_t rfl ?_))
            · rw [nI_clamp (by omega), nI_clamp (by omega), hf a (by omega), hf b (by omega)]
              by_cases y : f a = f b
              · rw [if_pos ⟨decide_eq_true hy, y.symm⟩] at xu
                refine fr_f (by rw [y]) ?_
                rw [nI_1, nI_1, ← xu]
                exact nk
              · rw [if_neg (fun q => y q.2.symm)] at xu
                refine fr_t (by rw [q_eq (by omega) (by omega)]; exact y) ?_
                rw [show (0 : Int32) = nI 0 from rfl, nI_add, nI_1, ← xu]
                exact nk
            · rw [if_neg (fun q => by have := of_decide_eq_true q.1; omega)] at xu
              rw [show (0 : Int32) = nI 0 from rfl, nI_add, nI_1, ← xu]
              exact nk
          · have hz' : ¬ bi M a = true := fun c => by have := of_decide_eq_true c; omega
            have k0 : b = 0 := by rcases hbg with q | q; exact absurd q hz'; exact q
            subst k0
            rw [if_neg hz'] at x2
            exact br_t rfl (last 0 (by omega) (by rw [x2]; omega))
      exact inner 6 0 (by omega) (Or.inr rfl)
  exact loop 6 0 (by omega)
set_option maxHeartbeats 4000000 in
set_option maxRecDepth 100000 in
theorem m_look {M w lo n H : Nat} (hM : M < 64) (hc : (w = 1 ∧ H = 10 ∧ lo = 0 ∧ n = 5) ∨ (w = 0 ∧ H = 24 ∧ lo = 1 ∧ n = 7)) {Q : Int32 → St → Prop} (hq : ∀ τ', (∀ q, q ≠ 8 → τ' q = τ q) → Q (rh M w lo n H 0 (1000000, -1)).2 τ') : V_X11_bestLook (nI M) (nI H) (nI lo) (nI (lo + n - 1)) (nI w) τ Q := by
  unfold V_X11_bestLook B_X11_bestLook_e
  have core : ∀ d h (p : Nat × Int32) (s : St), h + d = H → p.1 ≤ 1000000 → (∀ q, q ≠ 8 → s q = τ q) → rh M w lo n H 0 (1000000, -1) = rh M w lo n d h p → R_X11_bestLook (nI M) (nI H) (nI lo) (nI (lo + n - 1)) (nI w) Q 10 [p.2, nI p.1, nI h] [] s := by
    intro d
    induction d with
    | zero =>
      intro h p s hh hb hf hw
      refine i_X11_bestLook_10 _ _ _ _ _ _ _ _ _ _ ?_
      unfold B_X11_bestLook_10
      refine ⟨fun _ => ?_, fun c => absurd (by rw [q_le (by omega) (by omega)]; omega) c⟩
      have := hq s hf
      rw [hw] at this
      exact this
    | succ d ih =>
      intro h p s hh hb hf hw
      refine i_X11_bestLook_10 _ _ _ _ _ _ _ _ _ _ ?_
      unfold B_X11_bestLook_10
      refine ⟨fun c => absurd (by rw [q_le (by omega) (by omega)] at c; exact c) (by omega), fun _ => ?_⟩
      by_cases z0 : M = 0
      · refine br_t (by rw [z0]; decide) ?_
        have := hq s hf
        rw [hw, z0, rh_0] at this
        exact this
      · refine br_f (by rw [show (0 : Int32) = nI 0 from rfl, q_le (by omega) (by omega)]; omega) ?_
        have inV : ∀ e v (p' : Nat × Int32) (s' : St), v + e = lo + n → p'.1 ≤ 1000000 → (∀ q, q ≠ 8 → s' q = τ q) → rv M w h n lo p = rv M w h e v p' → R_X11_bestLook (nI M) (nI H) (nI lo) (nI (lo + n - 1)) (nI w) Q 23 [p'.2, nI p'.1, nI h, nI v] [] s' := by
          intro e
          induction e with
          | zero =>
            intro v p' s' hv hb' hf' hw'
            refine i_X11_bestLook_23 _ _ _ _ _ _ _ _ _ _ _ ?_
            unfold B_X11_bestLook_23
            refine ⟨fun _ => ?_, fun c => absurd (by rw [q_lt (by omega) (by omega)]; omega) c⟩
            rw [nI_1]
            refine ih (h + 1) p' s' (by omega) hb' hf' ?_
            rw [hw]
            show rh M w lo n d (h + 1) (rv M w h n lo p) = _
            rw [hw']
            rfl
          | succ e ihv =>
            intro v p' s' hv hb' hf' hw'
            refine i_X11_bestLook_23 _ _ _ _ _ _ _ _ _ _ _ ?_
            unfold B_X11_bestLook_23
            refine ⟨fun c => absurd (by rw [q_lt (by omega) (by omega)] at c; exact c) (by omega), fun _ => ?_⟩
            have xw : rv M w h (e + 1) v p' = rv M w h e (v + 1) (st1 M w h v p') := rfl
            have hml : lm M w h v ≤ 6 := lm_le
            have hpos : 0 < lm M w h v := by
              obtain ⟨i, hi⟩ := Nat.exists_testBit_of_ne_zero z0
              have h6 : i < 6 := by
                apply Classical.byContradiction
                intro c
                have : M < 2 ^ i := Nat.lt_of_lt_of_le hM (Nat.pow_le_pow_right (show 0 < 2 by omega) (show 6 ≤ i by omega))
                rw [Nat.testBit_lt_two_pow this] at hi
                exact absurd hi (by decide)
              rw [Nat.testBit_eq_decide_div_mod_eq] at hi
              exact mx1_pos _ i h6 hi
            have inK : ∀ f k (s4 : St), k + f = 6 → (∀ j, j < k → s4 8 j = nI (sy w j h v)) → (∀ q, q ≠ 8 → s4 q = τ q) → R_X11_bestLook (nI M) (nI H) (nI lo) (nI (lo + n - 1)) (nI w) Q 33 [p'.2, nI p'.1, nI h, nI v, nI k] [] s4 := by
              intro f
              induction f with
              | zero =>
                intro k s4 hk hj hf4
                refine i_X11_bestLook_33 _ _ _ _ _ _ _ _ _ _ _ _ ?_
                unfold B_X11_bestLook_33
                rw [(by omega : k = 6)] at *
                refine ⟨fun _ => m_alike hM hj (fun j _ => sy_le (by omega)) ?_, fun c => absurd (by decide) c⟩
                rw [show mx1 (bi M) (fun k => sy w k h v) 6 = lm M w h v from rfl]
                have ex : (10 : Int32) * nI h + nI v = nI (10 * h + v) := by rw [show (10 : Int32) = nI 10 from rfl, show nI 10 * nI h = nI (10 * h) from pk_mul 10 h, nI_add]
                rw [ex]
                by_cases y : p'.1 ≤ lm M w h v
                · have yy : nI p'.1 ≤ nI (lm M w h v) := by rw [q_le (by omega) (by omega)]; exact y
                  refine br_t yy (i_X11_bestLook_106 _ _ _ _ _ _ _ _ _ _ _ _ ?_)
                  unfold B_X11_bestLook_106
                  rw [nI_1]
                  refine br_t yy (ihv (v + 1) p' s4 (by omega) hb' hf4 ?_)
                  rw [hw', xw]
                  unfold st1
                  rw [if_neg (by omega)]
                · have yy : ¬ nI p'.1 ≤ nI (lm M w h v) := by rw [q_le (by omega) (by omega)]; exact y
                  refine br_f yy (i_X11_bestLook_106 _ _ _ _ _ _ _ _ _ _ _ _ ?_)
                  unfold B_X11_bestLook_106
                  rw [nI_1]
                  refine br_f yy (ihv (v + 1) (lm M w h v, nI (10 * h + v)) s4 (by omega) (show lm M w h v ≤ 1000000 by omega) hf4 ?_)
                  rw [hw', xw]
                  unfold st1
                  rw [if_pos ⟨hpos, by omega⟩]
              | succ f ihk =>
                intro k s4 hk hj hf4
                refine i_X11_bestLook_33 _ _ _ _ _ _ _ _ _ _ _ _ ?_
                unfold B_X11_bestLook_33
                have nx : vp_in (nI k) 6 ∧ (∀ s5, s5 = us s4 8 (upd (s4 8) (nI k).toNatClampNeg (nI (sy w k h v))) → R_X11_bestLook (nI M) (nI H) (nI lo) (nI (lo + n - 1)) (nI w) Q 33 [p'.2, nI p'.1, nI h, nI v, nI k + 1] [] s5) := by
                  refine ⟨vp_in_nI (by omega) (by omega), fun s5 e5 => ?_⟩
                  rw [nI_clamp (by omega)] at e5
                  rw [nI_1]
                  refine ihk (k + 1) s5 (by omega) (fun j hjk => ?_) (fun q h8 => by rw [e5, us_ne h8, hf4 q h8])
                  rw [e5, us_same]
                  unfold upd
                  by_cases y : j = k
                  · rw [if_pos y, y]
                  · rw [if_neg y]; exact hj j (by omega)
                refine ⟨fun c => absurd (by rw [show (6 : Int32) = nI 6 from rfl, q_le (by omega) (by omega)] at c; exact c) (by omega), fun _ => ?_⟩
                unfold sy at nx
                rcases hc with ⟨rfl, _, _, _⟩ | ⟨rfl, _, _, _⟩
                · exact br_f (by decide) (v_goesAs (by omega) (by omega) (by omega) nx)
                · exact br_t rfl (v_letsAs (by omega) (by omega) (by omega) nx)
            exact inK 6 0 s' (by omega) (fun j hj => absurd hj (by omega)) hf'
        exact inV n lo p s (by omega) hb hf rfl
  exact core H 0 (1000000, -1) τ (by omega) (by decide) (fun _ _ => rfl) rfl
set_option maxHeartbeats 4000000 in
set_option maxRecDepth 100000 in
theorem p_look (hJ : J σ τ) : V_X10_look a1 σ (fun r σ' => V_X11_look a1 τ (fun r' τ' => r = r' ∧ J σ' τ')) := by
  obtain ⟨S, B, HC, HM, HW⟩ := hJ
  unfold V_X10_look B_X10_look_e V_X11_look B_X11_look_e V_X11_kindsOfGlove B_X11_kindsOfGlove_e
  obtain ⟨wB, w0, w15, w2, w3, w4, w5, wse, wno, wma, wpa, wmk⟩ := id HW.1
  by_cases k1 : okI a1 0 ((S 0 0 : Int) - 1)
  · refine c_isG1 HC w0 k1 (fr_t (by decide) ?_)
    obtain ⟨g, hg, rfl⟩ := okG k1
    have hb : ∀ r, r < S 0 3 → S 0 (53 + 4 * r + 1) ≤ 99 ∧ ((1 : Nat) = 0 → S 0 (53 + 4 * r + 2) ≤ 8) ∧ ((1 : Nat) = 1 → S 0 (53 + 4 * r + 2) ≤ 4) := fun r hr => ⟨(wno r hr).1, fun c => absurd c (by omega), fun _ => (wno r hr).2⟩
    obtain ⟨M, hM, eM⟩ := km_nI (A := S 0) (base := 53) (w := 1) (who := g) (n := S 0 3) 6 (by omega)
    refine c_kinds (w := 1) HC.1.2.2.2.1 w3 HW.1.sm (by omega) (by omega) hb ?_
    rw [eM]
    refine c_look (w := 1) hM (Or.inl ⟨rfl, rfl, rfl, rfl⟩) (fun σ1 f1 => ?_)
    refine m_isG1 HM w0 k1 (br_f (by decide) ?_)
    rw [HM.1 3 (by omega)]
    refine m_kinds (w := 1) (base := 53) HM.1 w3 (by omega) HW.1.sm (by omega) (by omega) hb ?_
    rw [eM]
    exact m_look (w := 1) (H := 10) (lo := 0) (n := 5) hM (Or.inl ⟨rfl, rfl, rfl, rfl⟩) (fun τ1 g1 => ⟨Ep_2 (Ep_rh 10 0 _ _ (Or.inr ⟨rfl, rfl, rfl⟩)), JJ HC HM HW (fun q hq => f1 q (by omega) (by omega)) (fun q hq => g1 q (by omega))⟩)
  · exact c_isG0 HC w0 k1 (fr_f rfl (c_bad HC (fun σ' HC' => m_isG0 HM w0 k1 (br_t (by decide) (m_bad HM (fun τ' HM' => ⟨rfl, S, bb B 0, HC', HM', HW⟩))))))
set_option maxHeartbeats 4000000 in
set_option maxRecDepth 100000 in
theorem p_ask (hJ : J σ τ) : V_X10_ask a1 σ (fun r σ' => V_X11_ask a1 τ (fun r' τ' => r = r' ∧ J σ' τ')) := by
  obtain ⟨S, B, HC, HM, HW⟩ := hJ
  unfold V_X10_ask B_X10_ask_e V_X11_ask B_X11_ask_e V_X11_kindsOfCrossing B_X11_kindsOfCrossing_e
  obtain ⟨wB, w0, w15, w2, w3, w4, w5, wse, wno, wma, wpa, wmk⟩ := id HW.1
  have h3 := wB.2.1
  by_cases k1 : okI a1 0 ((S 0 1 : Int) - 1)
  · refine c_isC1 HC h3 k1 (fr_t (by decide) ?_)
    obtain ⟨g, hg, rfl⟩ := okG k1
    have hb : ∀ r, r < S 0 4 → S 0 (77 + 4 * r + 1) ≤ 99 ∧ ((0 : Nat) = 0 → S 0 (77 + 4 * r + 2) ≤ 8) ∧ ((0 : Nat) = 1 → S 0 (77 + 4 * r + 2) ≤ 4) := fun r hr => ⟨(wma r hr).1, fun _ => by have := (wma r hr).2; omega, fun c => absurd c (by omega)⟩
    obtain ⟨M, hM, eM⟩ := km_nI (A := S 0) (base := 77) (w := 0) (who := g) (n := S 0 4) 6 (by omega)
    refine c_kinds (w := 0) HC.1.2.2.2.2 w4 HW.1.sm (by omega) (by omega) hb ?_
    rw [eM]
    refine c_look (w := 0) hM (Or.inr ⟨rfl, rfl, rfl, rfl⟩) (fun σ1 f1 => ?_)
    refine m_isC1 HM h3 k1 (br_f (by decide) ?_)
    rw [HM.1 4 (by omega)]
    refine m_kinds (w := 0) (base := 77) HM.1 w4 (by omega) HW.1.sm (by omega) (by omega) hb ?_
    rw [eM]
    exact m_look (w := 0) (H := 24) (lo := 1) (n := 7) hM (Or.inr ⟨rfl, rfl, rfl, rfl⟩) (fun τ1 g1 => ⟨Ep_2 (Ep_rh 24 0 _ _ (Or.inr ⟨rfl, rfl, rfl⟩)), JJ HC HM HW (fun q hq => f1 q (by omega) (by omega)) (fun q hq => g1 q (by omega))⟩)
  · exact c_isC0 HC h3 k1 (fr_f rfl (c_bad HC (fun σ' HC' => m_isC0 HM h3 k1 (br_t (by decide) (m_bad HM (fun τ' HM' => ⟨rfl, S, bb B 0, HC', HM', HW⟩))))))
end O27
