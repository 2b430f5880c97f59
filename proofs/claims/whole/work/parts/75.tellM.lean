theorem tf_0 {A : Nat → Nat} : ∀ d h b v, tf A 0 d h b v = v
  | 0, _, _, _ => rfl
  | d + 1, h, b, v => by
    have z : tm A 0 h = 0 := mx1_0 _ (fun g _ => bi_0)
    unfold tf
    rw [if_neg (by omega)]
    exact tf_0 d (h + 1) b v
theorem tf_i {A : Nat → Nat} {M : Nat} (h7 : A 0 ≤ 7) : ∀ d h v, tf A M d h 24 v = tf A M d h 1000000 v
  | 0, _, _ => rfl
  | d + 1, h, v => by
    have z : tm A M h ≤ A 0 := mx1_le _
    unfold tf
    by_cases c : 0 < tm A M h
    · rw [if_pos (by omega), if_pos (by omega)]
    · rw [if_neg (by omega), if_neg (by omega)]
      exact tf_i h7 d (h + 1) v
section O25
variable {σ τ : St} {a1 a2 a3 a4 : Int32}
set_option maxHeartbeats 4000000 in
set_option maxRecDepth 100000 in
theorem m_tell {A : Nat → Nat} {M : Nat} (hR : RowN τ 1 181 A) (hW : WFA A) (hM : M < 2147483648) (hne : M ≠ 0 → ∃ g, g < A 0 ∧ bi M g = true) {Q : Int32 → St → Prop} (hq : ∀ τ', (∀ q, q ≠ 5 → τ' q = τ q) → Q (tf A M 21 0 1000000 (-1)) τ') : V_X11_layHand τ (fun s2 => R_X11_tell Q 17 [nI M, (-1), 1000000, 0] [] s2) := by
  have h15 := hW.2.2.1
  have h7 := hW.2.1
  refine m_layHand hR (fun row hrow => ?_)
  have loop : ∀ d h b v (row : Nat → Int32), h + d = 21 → b ≤ 1000000 → (∀ j, j < 43 → row j = nI (it h A j)) → tf A M 21 0 1000000 (-1) = tf A M d h b v → R_X11_tell Q 17 [nI M, v, nI b, nI h] [] (us τ 5 row) := by
    intro d
    induction d with
    | zero =>
      intro h b v row hh hb hrw hw
      refine i_X11_tell_17 _ _ _ _ _ _ ?_
      unfold B_X11_tell_17
      refine ⟨fun _ => ?_, fun c => absurd (by rw [show (20 : Int32) = nI 20 from rfl, q_lt (by omega) (by omega)]; omega) c⟩
      have := hq _ (fun q hq => us_ne (f := row) hq)
      rw [hw] at this
      exact this
    | succ d ih =>
      intro h b v row hh hb hrw hw
      refine i_X11_tell_17 _ _ _ _ _ _ ?_
      unfold B_X11_tell_17
      refine ⟨fun c => absurd (by rw [show (20 : Int32) = nI 20 from rfl, q_lt (by omega) (by omega)] at c; exact c) (by omega), fun _ => ?_⟩
      by_cases z0 : M = 0
      · refine br_t (by rw [z0]; rfl) ?_
        have := hq _ (fun q hq => us_ne (f := row) hq)
        rw [hw, z0, tf_0] at this
        exact this
      · refine br_f (by rw [show (0 : Int32) = nI 0 from rfl, q_eq (by omega) (by omega)]; exact z0) ?_
        obtain ⟨g0, hg0, hb0⟩ := hne z0
        have hB := Bd_it hW.1 h (by omega)
        have hpos : 0 < tm A M h := mx1_pos _ g0 hg0 hb0
        have hmle : tm A M h ≤ A 0 := mx1_le _
        have eA0 : (us τ 5 row) 1 0 = nI (A 0) := by rw [us_ne (by omega)]; exact hR 0 (by omega)
        have hw2 : tf A M (d + 1) h b v = if 0 < tm A M h ∧ tm A M h < b then tf A M d (h + 1) (tm A M h) (nI h) else tf A M d (h + 1) b v := rfl
        have hcl : ∀ g, g < 8 → (6 + nI g).toNatClampNeg = 6 + g := fun g hg => by rw [show (6 : Int32) = nI 6 from rfl, nI_add, nI_clamp (by omega)]
        have hvp : ∀ g, g < 8 → vp_in (6 + nI g) 43 := fun g hg => by rw [show (6 : Int32) = nI 6 from rfl, nI_add]; exact vp_in_nI (by omega) (by omega)
        have endh : ∀ b' v', b' ≤ 1000000 → tf A M 21 0 1000000 (-1) = tf A M d (h + 1) b' v' → R_X11_tell Q 162 [nI M, v', nI h, nI b'] [] (us τ 5 row) := fun b' v' hb' hw' => by
          refine i_X11_tell_162 _ _ _ _ _ _ ?_
          unfold B_X11_tell_162
          refine m_goHour (a := it h A) (fun j hj => by rw [us_same]; exact hrw j hj) (by omega) (by omega) hB (fun row' hr' => ?_)
          rw [us_us, nI_1]
          exact ih (h + 1) b' v' row' (by omega) hb' (fun j hj => by rw [hr' j hj, it_succ]) hw'
        have outer : ∀ d2 g, g + d2 = A 0 → R_X11_tell Q 34 [nI M, v, nI b, nI h, nI (mx2 (bi M) (fun g => it h A (6 + g)) (A 0) g), nI g] [] (us τ 5 row) := by
          intro d2
          induction d2 with
          | zero =>
            intro g hg
            refine i_X11_tell_34 _ _ _ _ _ _ _ _ ?_
            unfold B_X11_tell_34 V_X11_many B_X11_many_e
            rw [eA0, (by omega : g = A 0), mx_eq]
            have et : mx1 (bi M) (fun g => it h A (6 + g)) (A 0) = tm A M h := rfl
            rw [et]
            refine ⟨fun _ => ?_, fun c => absurd (by rw [q_le (by omega) (by omega)]; omega) c⟩
            by_cases y : b ≤ tm A M h
            · have yy : nI b ≤ nI (tm A M h) := by rw [q_le (by omega) (by omega)]; exact y
              refine br_t yy (i_X11_tell_149 _ _ _ _ _ _ _ ?_)
              unfold B_X11_tell_149
              exact br_t yy (endh b v hb (by rw [hw, hw2, if_neg (by omega)]))
            · have yy : ¬ nI b ≤ nI (tm A M h) := by rw [q_le (by omega) (by omega)]; exact y
              refine br_f yy (i_X11_tell_149 _ _ _ _ _ _ _ ?_)
              unfold B_X11_tell_149
              exact br_f yy (endh (tm A M h) (nI h) (by omega) (by rw [hw, hw2, if_pos (by omega)]))
          | succ d2 ih2 =>
            intro g hg
            have x2 : mx2 (bi M) (fun g => it h A (6 + g)) (A 0) (g + 1) = if bi M g = true then max (mx2 (bi M) (fun g => it h A (6 + g)) (A 0) g) (mu (bi M) (fun g => it h A (6 + g)) (it h A (6 + g)) (A 0)) else mx2 (bi M) (fun g => it h A (6 + g)) (A 0) g := rfl
            have nx := ih2 (g + 1) (by omega)
            have m2 : mx2 (bi M) (fun g => it h A (6 + g)) (A 0) g ≤ A 0 := Nat.le_trans (mx2_le g) (mx1_le _)
            refine i_X11_tell_34 _ _ _ _ _ _ _ _ ?_
            unfold B_X11_tell_34 V_X11_many B_X11_many_e
            rw [eA0]
            refine ⟨fun c => absurd (by rw [q_le (by omega) (by omega)] at c; exact c) (by omega), fun _ => ?_⟩
            have last : ∀ x, x ≤ 8 → mx2 (bi M) (fun g => it h A (6 + g)) (A 0) (g + 1) = max (mx2 (bi M) (fun g => it h A (6 + g)) (A 0) g) x → R_X11_tell Q 115 [nI M, v, nI b, nI h, nI (mx2 (bi M) (fun g => it h A (6 + g)) (A 0) g), nI g, nI x] [] (us τ 5 row) := fun x hx ex => by
              refine i_X11_tell_115 _ _ _ _ _ _ _ _ _ ?_
              unfold B_X11_tell_115
              rw [nI_1]
              rw [ex] at nx
              by_cases y : x ≤ mx2 (bi M) (fun g => it h A (6 + g)) (A 0) g
              · rw [Nat.max_eq_left y] at nx
                exact br_t (by rw [q_le (by omega) (by omega)]; exact y) nx
              · rw [Nat.max_eq_right (by omega)] at nx
                exact br_f (by rw [q_le (by omega) (by omega)]; exact y) nx
            have inner : ∀ d3 k, k + d3 = A 0 → (bi M g = true ∨ k = 0) → R_X11_tell Q 49 [nI M, v, nI b, nI h, nI (mx2 (bi M) (fun g => it h A (6 + g)) (A 0) g), nI g, nI (mu (bi M) (fun g => it h A (6 + g)) (it h A (6 + g)) k), nI k] [] (us τ 5 row) := by
              intro d3
              induction d3 with
              | zero =>
                intro k hk hbg
                refine i_X11_tell_49 _ _ _ _ _ _ _ _ _ _ ?_
                unfold B_X11_tell_49 V_X11_many B_X11_many_e
                have hz : bi M g = true := by rcases hbg with q | q; exact q; omega
                rw [if_pos hz] at x2
                have := mu_le (p := bi M) (f := fun g => it h A (6 + g)) (v := it h A (6 + g)) (A 0)
                rw [eA0, (by omega : k = A 0)]
                exact ⟨fun _ => last _ (by omega) x2, fun c => absurd (by rw [q_le (by omega) (by omega)]; omega) c⟩
              | succ d3 ih3 =>
                intro k hk hbg
                refine i_X11_tell_49 _ _ _ _ _ _ _ _ _ _ ?_
                unfold B_X11_tell_49 V_X11_many B_X11_many_e
                rw [eA0]
                refine ⟨fun c => absurd (by rw [q_le (by omega) (by omega)] at c; exact c) (by omega), fun _ => v_has hM (by omega) (fun hz => ?_) (fun hz => ?_)⟩
                · have hz' : bi M g = true := decide_eq_true hz
                  have nk := ih3 (k + 1) (by omega) (Or.inl hz')
                  have xu : mu (bi M) (fun g => it h A (6 + g)) (it h A (6 + g)) (k + 1) = mu (bi M) (fun g => it h A (6 + g)) (it h A (6 + g)) k + (if bi M k = true ∧ it h A (6 + k) = it h A (6 + g) then 1 else 0) := rfl
                  have q1 := (hB.2.2.2.2.2.1 g (by rw [it_lo (by omega)]; omega)).2
                  have q2 := (hB.2.2.2.2.2.1 k (by rw [it_lo (by omega)]; omega)).2
                  refine br_f (by decide) (v_has hM (by omega) (fun hy => br_f (by decide) ⟨hvp k (by omega), hvp g (by omega), ?_⟩) (fun hy => br_t rfl ?_))
                  · rw [hcl k (by omega), hcl g (by omega), us_same, hrw (6 + k) (by omega), hrw (6 + g) (by omega)]
                    by_cases y : it h A (6 + k) = it h A (6 + g)
                    · rw [if_pos ⟨decide_eq_true hy, y⟩] at xu
                      refine fr_f (by rw [y]) ?_
                      rw [nI_1, nI_1, ← xu]
                      exact nk
                    · rw [if_neg (fun q => y q.2)] at xu
                      refine fr_t (by rw [q_eq (by omega) (by omega)]; exact y) ?_
                      rw [show (0 : Int32) = nI 0 from rfl, nI_add, nI_1, ← xu]
                      exact nk
                  · rw [if_neg (fun q => by have := of_decide_eq_true q.1; omega)] at xu
                    rw [show (0 : Int32) = nI 0 from rfl, nI_add, nI_1, ← xu]
                    exact nk
                · have hz' : ¬ bi M g = true := fun c => by have := of_decide_eq_true c; omega
                  have k0 : k = 0 := by rcases hbg with q | q; exact absurd q hz'; exact q
                  subst k0
                  rw [if_neg hz'] at x2
                  exact br_t rfl (last 0 (by omega) (by rw [x2]; omega))
            exact inner (A 0) 0 (by omega) (Or.inr rfl)
        exact outer (A 0) 0 (by omega)
  exact loop 21 0 1000000 (-1) row (by omega) (by omega) hrow rfl
set_option maxHeartbeats 4000000 in
set_option maxRecDepth 100000 in
theorem p_tell (hJ : J σ τ) : V_X10_tell σ (fun r σ' => V_X11_tell τ (fun r' τ' => r = r' ∧ J σ' τ')) := by
  obtain ⟨S, B, HC, HM, HW⟩ := hJ
  unfold V_X10_tell B_X10_tell_e V_X10_which B_X10_which_e V_X11_tell B_X11_tell_e
  have h7 := HW.1.2.1
  refine c_seen HC.1.1 HC.1.2.2.1 HW.1 (fun M σ1 hM f1 => ?_)
  have hlt : M < 2147483648 := by
    have : M < 2 ^ 7 := Nat.lt_pow_two_of_testBit M (fun i hi => by
      cases hb : M.testBit i with
      | false => rfl
      | true => have := ((hM i).mp hb).1; omega)
    omega
  have hne : M ≠ 0 → ∃ g, g < S 0 0 ∧ bi M g = true := fun h => by
    obtain ⟨i, hi⟩ := Nat.exists_testBit_of_ne_zero h
    refine ⟨i, ((hM i).mp hi).1, ?_⟩
    rw [Nat.testBit_eq_decide_div_mod_eq] at hi
    exact hi
  refine c_tell (HC.1.1.congr (fun q h1 h2 => f1 q (by omega))) HW.1 hlt (fun σ2 f2 => m_seen HM.1 HW.1 (fun N τ1 hN g1 => ?_))
  rw [← Mok_eq hM hN]
  refine m_tell (fun j hj => by rw [g1 1 (by omega)]; exact HM.1 j hj) HW.1 hlt hne (fun τ2 g2 => ⟨tf_i h7 21 0 (-1), JJ HC HM HW (fun q hq => by rw [f2 q (by omega), f1 q (by omega)]) (fun q hq => by rw [g2 q (by omega), g1 q (by omega)])⟩)
end O25
