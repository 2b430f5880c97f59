section O29
variable {σ τ : St} {a1 a2 a3 a4 : Int32}
set_option maxHeartbeats 4000000 in
set_option maxRecDepth 100000 in
theorem m_heap {A : Nat → Nat} (hR : RowN τ 1 181 A) (hW : WFA A) {Q : Int32 → St → Prop} (hq : ∀ p τ', hpr A 31 p → (∀ q, q ≠ 5 → τ' q = τ q) → (a1 = 0 → Q (nI p.1) τ') ∧ (¬ a1 = 0 → a1 = 1 → Q (nI p.2.1) τ') ∧ (¬ a1 = 0 → ¬ a1 = 1 → Q p.2.2 τ')) : V_X11_layHand τ (fun s2 => R_X11_heap a1 Q 33 [0, 0, (-1), 0] [] s2) := by
  have h15 := hW.2.2.1
  have h7 := hW.2.1
  refine m_layHand hR (fun row hrow => ?_)
  have loop : ∀ d m (p : HP) (row : Nat → Int32), m + d = 31 → hpr A m p → (∀ j, j < 43 → row j = nI (it m A j)) → R_X11_heap a1 Q 33 [nI p.1, nI p.2.1, p.2.2, nI m] [] (us τ 5 row) := by
    intro d
    induction d with
    | zero =>
      intro m p row hm hpp hrw
      refine i_X11_heap_33 _ _ _ _ _ _ _ ?_
      unfold B_X11_heap_33
      rw [(by omega : m = 31)] at *
      obtain ⟨q0, q1, q2⟩ := hq p (us τ 5 row) hpp (fun q h => us_ne h)
      exact ⟨fun _ => ⟨fun c => ⟨fun c2 => q2 c c2, fun c2 => q1 c c2⟩, fun c => q0 c⟩, fun c => absurd (by decide) c⟩
    | succ d ih =>
      intro m p row hm hpp hrw
      refine i_X11_heap_33 _ _ _ _ _ _ _ ?_
      unfold B_X11_heap_33
      refine ⟨fun c => absurd (by rw [show (30 : Int32) = nI 30 from rfl, q_lt (by omega) (by omega)] at c; exact c) (by omega), fun _ => ?_⟩
      have hB := Bd_it hW.1 m (by omega)
      have hsm : Sm (it m A) := hB.2.2.2.2.2.2.2.2
      have e0 : it m A 0 = A 0 := it_lo (by omega) m
      have e1 : it m A 1 = A 1 := it_lo (by omega) m
      have h13 := hW.1.2.1
      have hR5 : RowN (us τ 5 row) 5 43 (it m A) := fun j hj => by rw [us_same]; exact hrw j hj
      obtain ⟨b1, b2, b3⟩ := hp_b (by omega) m p hpp
      have inner : ∀ d2 s (p' : HP), s + d2 = 23 → Iv (it m A) m (fun j => it m A (40 + j) < s) p p' → R_X11_heap a1 Q 43 [nI p'.1, nI p'.2.1, p'.2.2, nI m, nI s] [] (us τ 5 row) := by
        intro d2
        induction d2 with
        | zero =>
          intro s p' hs hI
          refine i_X11_heap_43 _ _ _ _ _ _ _ _ ?_
          unfold B_X11_heap_43
          rw [(by omega : s = 23)] at *
          refine ⟨fun _ => m_goHour (a := it m A) hR5 (by omega) (by omega) hB (fun row' hr' => ?_), fun c => absurd (by decide) c⟩
          rw [us_us, nI_1]
          refine ih (m + 1) p' row' (by omega) ⟨p, hpp, ?_⟩ (fun j hj => by rw [hr' j hj, it_succ])
          rcases hI with ⟨e, x⟩ | ⟨k0, k1, k2, e, x, y⟩
          · exact Or.inl ⟨e, fun j hj _ => x j hj (by have := (hB.2.2.2.2.2.2.1 j hj).2; omega)⟩
          · exact Or.inr ⟨k0, k1, trivial, e, x, fun j hj _ => y j hj (by have := (hB.2.2.2.2.2.2.1 j hj).2; omega)⟩
        | succ d2 ih2 =>
          intro s p' hs hI
          refine i_X11_heap_43 _ _ _ _ _ _ _ _ ?_
          unfold B_X11_heap_43
          have hp1 : p'.1 ≤ 8 := by
            rcases hI with ⟨e, -⟩ | ⟨k0, k1, k2, e, -, -⟩
            · rw [e]; exact b1
            · rw [e]
              have := cnt_le (a := it m A) (s := it m A (40 + k0)) (it m A 0)
              show hc (it m A) k0 ≤ 8
              unfold hc; omega
          have hbl := bh_le (s := s) hB
          have keep : ∀ n, n ≤ p'.1 → n ≤ 8 → Iv (it m A) m (fun j => it m A (40 + j) < s + 1) p p' → R_X11_heap a1 Q 76 [nI p'.1, nI p'.2.1, p'.2.2, nI m, nI s, nI n] [] (us τ 5 row) := fun n hn hn8 hI' => by
            refine i_X11_heap_76 _ _ _ _ _ _ _ _ _ ?_
            unfold B_X11_heap_76
            rw [nI_1]
            exact br_t (by rw [q_le (by omega) (by omega)]; exact hn) (ih2 (s + 1) p' (by omega) hI')
          refine ⟨fun c => absurd (by rw [show (23 : Int32) = nI 23 from rfl, q_le (by omega) (by omega)] at c; exact c) (by omega), fun _ => m_behind hR5 (by omega) (by omega) (by omega) hsm (by omega) ?_⟩
          by_cases z : bh (it m A) s = 0
          · refine fr_f (by rw [z]; decide) (keep 0 (by omega) (by omega) ?_)
            have no : ∀ j, j < it m A 1 → it m A (40 + j) ≠ s := fun j hj e => by
              have := bh_of hB hj
              rw [e, z] at this
              omega
            rcases hI with ⟨e, x⟩ | ⟨k0, k1, k2, e, x, y⟩
            · exact Or.inl ⟨e, fun j hj h => x j hj (by have := no j hj; omega)⟩
            · exact Or.inr ⟨k0, k1, by omega, e, x, fun j hj h => y j hj (by have := no j hj; omega)⟩
          · refine fr_t (fun c => z ((Eq.mp (q_m1 (by omega)) c))) (m_manyAt hR5 (by omega) (by omega) (by omega) hsm (by omega) ?_)
            have hk1 : bh (it m A) s - 1 < it m A 1 := by omega
            have es := bh_at z
            generalize bh (it m A) s - 1 = k at hk1 es
            have ec : cnt (it m A) s (it m A 0) = hc (it m A) k := by unfold hc; rw [es]
            have hcl := cnt_le (a := it m A) (s := s) (it m A 0)
            have one : ∀ j, j < it m A 1 → it m A (40 + j) < s + 1 → j = k ∨ it m A (40 + j) < s := fun j hj h => by
              by_cases w : it m A (40 + j) = s
              · exact Or.inl (hB.2.2.2.2.2.2.2.1 j k hj hk1 (by omega))
              · exact Or.inr (by omega)
            rw [ec] at hcl ⊢
            by_cases y : hc (it m A) k ≤ p'.1
            · refine keep _ y (by omega) ?_
              rcases hI with ⟨e, x⟩ | ⟨k0, k1, k2, e, x, w⟩
              · refine Or.inl ⟨e, fun j hj h => ?_⟩
                rcases one j hj h with q | q
                · rw [q, ← e]; exact y
                · exact x j hj q
              · refine Or.inr ⟨k0, k1, by omega, e, x, fun j hj h => ?_⟩
                rcases one j hj h with q | q
                · have e1' : p'.1 = hc (it m A) k0 := by rw [e]
                  rw [q]
                  exact ⟨by omega, fun _ => by omega⟩
                · exact w j hj q
            · refine i_X11_heap_76 _ _ _ _ _ _ _ _ _ ?_
              unfold B_X11_heap_76
              rw [nI_1]
              refine br_f (by rw [q_le (by omega) (by omega)]; exact y) (ih2 (s + 1) (hc (it m A) k, m, nI s) (by omega) ?_)
              refine Or.inr ⟨k, hk1, by omega, by rw [es], ?_, fun j hj h => ?_⟩
              · rcases hI with ⟨e, x⟩ | ⟨k0, k1, k2, e, x, w⟩
                · rw [e] at y; omega
                · have e1' : p'.1 = hc (it m A) k0 := by rw [e]
                  omega
              · rcases one j hj h with q | q
                · subst q; exact ⟨Nat.le_refl _, fun _ => Nat.le_refl _⟩
                · rcases hI with ⟨e, x⟩ | ⟨k0, k1, k2, e, x, w⟩
                  · have := x j hj q
                    rw [e] at y
                    exact ⟨by omega, fun h2 => absurd h2 (by omega)⟩
                  · have e1' : p'.1 = hc (it m A) k0 := by rw [e]
                    have := (w j hj q).1
                    exact ⟨by omega, fun h2 => absurd h2 (by omega)⟩
      exact inner 23 0 p (by omega) (Or.inl ⟨rfl, fun j hj h => absurd h (by omega)⟩)
  exact loop 31 0 (0, 0, -1) row (by omega) rfl hrow
set_option maxHeartbeats 4000000 in
set_option maxRecDepth 100000 in
theorem p_heap (hJ : J σ τ) : V_X10_heap a1 σ (fun r σ' => V_X11_heap a1 τ (fun r' τ' => r = r' ∧ J σ' τ')) := by
  obtain ⟨S, B, HC, HM, HW⟩ := hJ
  unfold V_X10_heap B_X10_heap_e V_X11_heap B_X11_heap_e
  by_cases k1 : okI a1 0 2
  · refine cw1 k1 rfl rfl (fr_t (by decide) (c_heap HC.1.1 HW.1 (fun p σ1 hpp hH f1 => ?_)))
    obtain ⟨h1, h2, h3⟩ := hH
    rw [h1, h2, h3]
    have go : ∀ x, ((a1 = 0 → x = nI p.1) ∧ (¬ a1 = 0 → a1 = 1 → x = nI p.2.1) ∧ (¬ a1 = 0 → ¬ a1 = 1 → x = p.2.2)) → B_X11_heap_e a1 (fun r' τ' => x = r' ∧ J σ1 τ') (R_X11_heap a1 (fun r' τ' => x = r' ∧ J σ1 τ')) τ := fun x hx => by
      unfold B_X11_heap_e
      refine mw1 k1 rfl rfl (fr_t (by decide) (m_heap HM.1 HW.1 (fun p' τ1 hpp' g1 => ?_)))
      have ep := hp_u 31 p' p hpp' hpp
      subst ep
      have hJ' : J σ1 τ1 := JJ HC HM HW (fun q hq => f1 q (by omega)) (fun q hq => g1 q (by omega))
      exact ⟨fun c => ⟨hx.1 c, hJ'⟩, fun c c2 => ⟨hx.2.1 c c2, hJ'⟩, fun c c2 => ⟨hx.2.2 c c2, hJ'⟩⟩
    exact ⟨fun c => go _ ⟨fun _ => rfl, fun c' => absurd c c', fun c' => absurd c c'⟩, fun c => ⟨fun c2 => go _ ⟨fun c' => absurd c' c, fun _ _ => rfl, fun _ c' => absurd c2 c'⟩, fun c2 => go _ ⟨fun c' => absurd c' c, fun _ c' => absurd c' c2, fun _ _ => rfl⟩⟩⟩
  · exact cw0 k1 rfl rfl (fr_f (by decide) (c_bad HC (fun σ' HC' => mw0 k1 rfl rfl (fr_f (by decide) (m_bad HM (fun τ' HM' => ⟨rfl, S, bb B 0, HC', HM', HW⟩))))))
end O29
