section O21
variable {σ τ : St} {a1 a2 a3 a4 : Int32}
set_option maxHeartbeats 4000000 in
set_option maxRecDepth 100000 in
theorem m_kinds {A : Nat → Nat} {base w who n : Nat} (hR : RowN τ 1 181 A) (hn : n ≤ 6) (hbase : base ≤ 77) (hs : Sm A) (hw : w ≤ 1) (hwho : who < 1000) (hb : ∀ r, r < n → A (base + 4 * r + 1) ≤ 99 ∧ (w = 0 → A (base + 4 * r + 2) ≤ 8) ∧ (w = 1 → A (base + 4 * r + 2) ≤ 4)) {Q : Int32 → St → Prop} (hq : Q (km A base w who n 6) τ) : V_X11_kindsBy (nI who) (nI base) (nI n) (nI w) τ Q := by
  unfold V_X11_kindsBy B_X11_kindsBy_e
  have loop : ∀ d k, k + d = 6 → R_X11_kindsBy (nI who) (nI base) (nI n) (nI w) Q 6 [km A base w who n k, nI k] [] τ := by
    intro d
    induction d with
    | zero =>
      intro k hk
      refine i_X11_kindsBy_6 _ _ _ _ _ _ _ _ ?_
      unfold B_X11_kindsBy_6
      rw [(by omega : k = 6)]
      exact ⟨fun _ => hq, fun c => absurd (by decide) c⟩
    | succ d ih =>
      intro k hk
      refine i_X11_kindsBy_6 _ _ _ _ _ _ _ _ ?_
      unfold B_X11_kindsBy_6
      refine ⟨fun c => absurd (by rw [show (6 : Int32) = nI 6 from rfl, q_le (by omega) (by omega)] at c; exact c) (by omega), fun _ => ?_⟩
      have inner : ∀ d2 r, r + d2 = n → R_X11_kindsBy (nI who) (nI base) (nI n) (nI w) Q 19 [km A base w who n k, nI k, fi (fl A base w who k r), nI r] [] τ := by
        intro d2
        induction d2 with
        | zero =>
          intro r hr
          refine i_X11_kindsBy_19 _ _ _ _ _ _ _ _ _ _ ?_
          unfold B_X11_kindsBy_19
          rw [(by omega : r = n)]
          refine ⟨fun _ => ?_, fun c => absurd (by rw [q_le (by omega) (by omega)]; omega) c⟩
          have em : km A base w who n (k + 1) = if fl A base w who k n = true then km A base w who n k ||| ((1 : Int32) <<< (nI k &&& 31)) else km A base w who n k := rfl
          rw [nI_1]
          unfold fi
          by_cases z : fl A base w who k n = true
          · rw [if_pos z] at em ⊢
            refine br_f (by decide) (fun v1 e1 => ?_)
            rw [e1, ← em]
            exact ih (k + 1) (by omega)
          · rw [if_neg z] at em ⊢
            refine br_t rfl ?_
            rw [Int32.or_zero, ← em]
            exact ih (k + 1) (by omega)
        | succ d2 ih2 =>
          intro r hr
          refine i_X11_kindsBy_19 _ _ _ _ _ _ _ _ _ _ ?_
          unfold B_X11_kindsBy_19
          obtain ⟨b1, b2, b3⟩ := hb r (by omega)
          have e4 : nI base + (4 * nI r) = nI (base + 4 * r) := by rw [show (4 : Int32) = nI 4 from rfl, show nI 4 * nI r = nI (4 * r) from pk_mul 4 r, nI_add]
          have cell : ∀ j, j < 4 → vp_in (nI (base + 4 * r) + nI j) 181 ∧ τ 1 (nI (base + 4 * r) + nI j).toNatClampNeg = nI (A (base + 4 * r + j)) := fun j hj => by
            rw [nI_add, nI_clamp (by omega)]
            exact ⟨vp_in_nI (by omega) (by omega), hR _ (by omega)⟩
          have x1 := cell 1 (by omega)
          have x2 := cell 2 (by omega)
          have x3 := cell 3 (by omega)
          have ef : fl A base w who k (r + 1) = if fl A base w who k r = true then (if A (base + 4 * r) = who then decide (sy w k (A (base + 4 * r + 1)) (A (base + 4 * r + 2)) = A (base + 4 * r + 3)) else true) else false := rfl
          have nx := ih2 (r + 1) (by omega)
          rw [ef] at nx
          have k87 : R_X11_kindsBy (nI who) (nI base) (nI n) (nI w) Q 87 [km A base w who n k, nI k, fi (fl A base w who k r), nI r, nI (base + 4 * r), nI (sy w k (A (base + 4 * r + 1)) (A (base + 4 * r + 2)))] [] τ := by
            refine i_X11_kindsBy_87 _ _ _ _ _ _ _ _ _ _ _ _ ?_
            unfold B_X11_kindsBy_87
            rw [nI_1]
            by_cases z : fl A base w who k r = true
            · rw [if_pos z] at nx
              rw [z]
              refine br_f (by decide) ⟨vp_in_nI (by omega) (by omega), ?_⟩
              rw [nI_clamp (by omega), hR (base + 4 * r) (by omega)]
              have h0 := hs (base + 4 * r)
              have h3 := hs (base + 4 * r + 3)
              have hsy : sy w k (A (base + 4 * r + 1)) (A (base + 4 * r + 2)) ≤ 8 := sy_le (by
                rcases (by omega : w = 0 ∨ w = 1) with u | u
                · exact b2 u
                · have := b3 u; omega)
              by_cases y : A (base + 4 * r) = who
              · rw [if_pos y] at nx
                refine fr_f (by rw [y]) ⟨x3.1, ?_⟩
                rw [show τ 1 (nI (base + 4 * r) + 3).toNatClampNeg = _ from x3.2]
                by_cases x : sy w k (A (base + 4 * r + 1)) (A (base + 4 * r + 2)) = A (base + 4 * r + 3)
                · rw [decide_eq_true x] at nx
                  exact fr_f (by rw [x]) nx
                · rw [decide_eq_false x] at nx
                  exact fr_t (by rw [q_eq (by omega) (by omega)]; exact x) nx
              · rw [if_neg y] at nx
                exact fr_t (by rw [q_eq (by omega) (by omega)]; exact y) nx
            · rw [if_neg z] at nx
              rw [Bool.eq_false_iff.mpr z]
              exact br_t rfl nx
          rw [e4]
          refine ⟨fun c => absurd (by rw [q_le (by omega) (by omega)] at c; exact c) (by omega), fun _ => ?_⟩
          rw [show τ 1 (nI (base + 4 * r) + 1).toNatClampNeg = _ from x1.2, show τ 1 (nI (base + 4 * r) + 2).toNatClampNeg = _ from x2.2]
          unfold sy at k87
          rcases (by omega : w = 0 ∨ w = 1) with rfl | rfl
          · exact br_t rfl ⟨x1.1, x2.1, v_letsAs (by omega) (by omega) (b2 rfl) k87⟩
          · exact br_f (by decide) ⟨x1.1, x2.1, v_goesAs (by omega) (by omega) (b3 rfl) k87⟩
      exact inner n 0 (by omega)
  exact loop 6 0 (by omega)
set_option maxHeartbeats 4000000 in
set_option maxRecDepth 100000 in
theorem p_is (hJ : J σ τ) : V_X10_is a1 σ (fun r σ' => V_X11_is a1 τ (fun r' τ' => r = r' ∧ J σ' τ')) := by
  obtain ⟨S, B, HC, HM, HW⟩ := hJ
  unfold V_X10_is B_X10_is_e V_X11_is B_X11_is_e V_X11_kindsOfGlove B_X11_kindsOfGlove_e
  obtain ⟨wB, w0, w15, w2, w3, w4, w5, wse, wno, wma, wpa, wmk⟩ := id HW.1
  by_cases k1 : okI a1 0 ((S 0 0 : Int) - 1)
  · refine c_isG1 HC w0 k1 (br_f (by decide) ?_)
    obtain ⟨g, hg, rfl⟩ := okG k1
    have hb : ∀ r, r < S 0 3 → S 0 (53 + 4 * r + 1) ≤ 99 ∧ ((1 : Nat) = 0 → S 0 (53 + 4 * r + 2) ≤ 8) ∧ ((1 : Nat) = 1 → S 0 (53 + 4 * r + 2) ≤ 4) := fun r hr => ⟨(wno r hr).1, fun c => absurd c (by omega), fun _ => (wno r hr).2⟩
    refine c_kinds (w := 1) HC.1.2.2.2.1 w3 HW.1.sm (by omega) (by omega) hb ?_
    refine m_isG1 HM w0 k1 (br_f (by decide) ?_)
    rw [HM.1 3 (by omega)]
    exact m_kinds (w := 1) (base := 53) HM.1 w3 (by omega) HW.1.sm (by omega) (by omega) hb ⟨rfl, S, B, HC, HM, HW⟩
  · exact c_isG0 HC w0 k1 (br_t (by decide) (c_bad HC (fun σ' HC' => m_isG0 HM w0 k1 (br_t (by decide) (m_bad HM (fun τ' HM' => ⟨rfl, S, bb B 0, HC', HM', HW⟩))))))
set_option maxHeartbeats 4000000 in
set_option maxRecDepth 100000 in
theorem p_kinds (hJ : J σ τ) : V_X10_kinds a1 σ (fun r σ' => V_X11_kinds a1 τ (fun r' τ' => r = r' ∧ J σ' τ')) := by
  obtain ⟨S, B, HC, HM, HW⟩ := hJ
  unfold V_X10_kinds B_X10_kinds_e V_X11_kinds B_X11_kinds_e V_X11_kindsOfCrossing B_X11_kindsOfCrossing_e
  obtain ⟨wB, w0, w15, w2, w3, w4, w5, wse, wno, wma, wpa, wmk⟩ := id HW.1
  have h3 := wB.2.1
  by_cases k1 : okI a1 0 ((S 0 1 : Int) - 1)
  · refine c_isC1 HC h3 k1 (br_f (by decide) ?_)
    obtain ⟨g, hg, rfl⟩ := okG k1
    have hb : ∀ r, r < S 0 4 → S 0 (77 + 4 * r + 1) ≤ 99 ∧ ((0 : Nat) = 0 → S 0 (77 + 4 * r + 2) ≤ 8) ∧ ((0 : Nat) = 1 → S 0 (77 + 4 * r + 2) ≤ 4) := fun r hr => ⟨(wma r hr).1, fun _ => by have := (wma r hr).2; omega, fun c => absurd c (by omega)⟩
    refine c_kinds (w := 0) HC.1.2.2.2.2 w4 HW.1.sm (by omega) (by omega) hb ?_
    refine m_isC1 HM h3 k1 (br_f (by decide) ?_)
    rw [HM.1 4 (by omega)]
    exact m_kinds (w := 0) (base := 77) HM.1 w4 (by omega) HW.1.sm (by omega) (by omega) hb ⟨rfl, S, B, HC, HM, HW⟩
  · exact c_isC0 HC h3 k1 (br_t (by decide) (c_bad HC (fun σ' HC' => m_isC0 HM h3 k1 (br_t (by decide) (m_bad HM (fun τ' HM' => ⟨rfl, S, bb B 0, HC', HM', HW⟩))))))
end O21
