section O5
variable {σ τ : St} {a1 a2 a3 a4 : Int32}
set_option maxHeartbeats 4000000 in
set_option maxRecDepth 100000 in
theorem p_of (hJ : J σ τ) : V_X10_of a1 a2 σ (fun r σ' => V_X11_of a1 a2 τ (fun r' τ' => r = r' ∧ J σ' τ')) := by
  obtain ⟨S, B, HC, HM, HW⟩ := hJ
  unfold V_X10_of B_X10_of_e V_X11_of B_X11_of_e
  obtain ⟨wB, w0, w15, w2, w3, w4, w5, wse, wno, wma, wpa, wmk⟩ := HW.1
  have hsm : Sm (S 0) := wB.2.2.2.2.2.2.2.2
  by_cases k1 : okI a1 0 ((S 0 0 : Int) - 1)
  · refine c_isG1 HC w0 k1 (fr_t (by decide) ?_)
    have hg : ∃ g, g < S 0 0 ∧ a1 = nI g := by
      rcases Nat.eq_zero_or_pos (S 0 0) with z | z
      · have := k1.1; have := k1.2; omega
      · obtain ⟨g, -, hg, e⟩ := okI_ex (a := 0) (b := S 0 0 - 1) (x := a1) ⟨k1.1, by have := k1.2; omega⟩
        exact ⟨g, by omega, e⟩
    obtain ⟨g, hg, rfl⟩ := hg
    have hgl := wB.2.2.2.2.2.1 g hg
    obtain ⟨r0, r1, r14, r15, rw_, rk, rm, rs, rg, rb, rh⟩ := HC.1.1
    have ein : vp_in (nI g) 8 := vp_in_nI (by omega) (by omega)
    have ecl : (nI g).toNatClampNeg = g := nI_clamp (by omega)
    by_cases k2 : okI a2 0 4
    · obtain ⟨w, -, hw, rfl⟩ := okI_ex (a := 0) (b := 4) k2
      have mm : ∀ {Qm : Int32 → St → Prop}, ((nI w = 0 → Qm (nI (S 0 (22 + g))) τ) ∧ (nI w = 1 → Qm (nI (S 0 (30 + g))) τ) ∧ (nI w = 2 → Qm (nI (S 0 (6 + g))) τ) ∧ (nI w = 3 → Qm (if bh (S 0) (S 0 (6 + g)) = 0 then 0 else 1) τ) ∧ (w = 4 → Qm (nI (gon (S 0) g)) τ)) → V_X11_isGlove (nI g) τ (fun r1 s1 => (r1 = 0 → R_X11_of (nI g) (nI w) Qm 20 [] [] s1) ∧ (¬ r1 = 0 → V_X11_in (nI w).toInt64 0 4 s1 (fun r2 s2 => (¬ r2 = 0 → (nI w = 0 → vp_in (22 + nI g) 181 ∧ Qm (s2 1 (22 + nI g).toNatClampNeg) s2) ∧ (¬ nI w = 0 → (nI w = 1 → vp_in (30 + nI g) 181 ∧ Qm (s2 1 (30 + nI g).toNatClampNeg) s2) ∧ (¬ nI w = 1 → (nI w = 2 → vp_in (6 + nI g) 181 ∧ Qm (s2 1 (6 + nI g).toNatClampNeg) s2) ∧ (¬ nI w = 2 → (nI w = 3 → V_X11_waits 1 181 (nI g) s2 (fun r3 s3 => (r3 = 0 → Qm 0 s3) ∧ (¬ r3 = 0 → Qm 1 s3))) ∧ (¬ nI w = 3 → V_X11_goesNow 1 181 (nI g) s2 (fun r4 s4 => Qm r4 s4)))))) ∧ (r2 = 0 → R_X11_of (nI g) (nI w) Qm 20 [] [] s2)))) := fun {Qm} q => by
        refine m_isG1 HM w0 k1 (br_f (by decide) (mw1 k2 rfl rfl (fr_t (by decide) ?_)))
        have e22 : (22 + nI g).toNatClampNeg = 22 + g := by rw [show (22 : Int32) = nI 22 from rfl, nI_add, nI_clamp (by omega)]
        have e30 : (30 + nI g).toNatClampNeg = 30 + g := by rw [show (30 : Int32) = nI 30 from rfl, nI_add, nI_clamp (by omega)]
        have e6 : (6 + nI g).toNatClampNeg = 6 + g := by rw [show (6 : Int32) = nI 6 from rfl, nI_add, nI_clamp (by omega)]
        rw [e22, e30, e6, HM.1 (22 + g) (by omega), HM.1 (30 + g) (by omega), HM.1 (6 + g) (by omega)]
        refine ⟨fun c => ⟨by rw [show (22 : Int32) = nI 22 from rfl, nI_add]; exact vp_in_nI (by omega) (by omega), q.1 c⟩, fun n0 => ⟨fun c => ⟨by rw [show (30 : Int32) = nI 30 from rfl, nI_add]; exact vp_in_nI (by omega) (by omega), q.2.1 c⟩, fun n1 => ⟨fun c => ⟨by rw [show (6 : Int32) = nI 6 from rfl, nI_add]; exact vp_in_nI (by omega) (by omega), q.2.2.1 c⟩, fun n2 => ⟨fun c => ?_, fun n3 => ?_⟩⟩⟩⟩
        · refine m_waits HM.1 (by omega) (by omega) wB.2.1 hsm (by omega) ?_
          have := q.2.2.2.1 c
          split at this
          · rename_i z; rw [if_pos z]; exact ⟨fun _ => this, fun c => absurd rfl c⟩
          · rename_i z; rw [if_neg z]; exact ⟨fun c => absurd c (by decide), fun _ => this⟩
        · refine m_goesNow HM.1 (by omega) (by omega) hsm (by omega) hgl.1 wB.2.2.2.2.1 (q.2.2.2.2 ?_)
          rw [show (0 : Int32) = nI 0 from rfl, q_eq (by omega) (by omega)] at n0
          rw [show (1 : Int32) = nI 1 from rfl, q_eq (by omega) (by omega)] at n1
          rw [show (2 : Int32) = nI 2 from rfl, q_eq (by omega) (by omega)] at n2
          rw [show (3 : Int32) = nI 3 from rfl, q_eq (by omega) (by omega)] at n3
          omega
      have jj : J σ τ := ⟨S, B, HC, HM, HW⟩
      rw [ecl, show σ 4 g = nI (S 0 (22 + g)) from rk g hg, show σ 5 g = nI (S 0 (30 + g)) from rm g hg (by omega), show σ 6 g = nI (S 0 (6 + g)) from rs g hg]
      rcases (by omega : w = 0 ∨ w = 1 ∨ w = 2 ∨ w = 3 ∨ w = 4) with rfl | rfl | rfl | rfl | rfl
      · exact br_t rfl ⟨ein, mm ⟨fun _ => ⟨rfl, jj⟩, fun c => absurd c (by decide), fun c => absurd c (by decide), fun c => absurd c (by decide), fun c => absurd c (by decide)⟩⟩
      · exact br_f (by decide) (br_t rfl ⟨ein, mm ⟨fun c => absurd c (by decide), fun _ => ⟨rfl, jj⟩, fun c => absurd c (by decide), fun c => absurd c (by decide), fun c => absurd c (by decide)⟩⟩)
      · exact br_f (by decide) (br_f (by decide) (br_t rfl ⟨ein, mm ⟨fun c => absurd c (by decide), fun c => absurd c (by decide), fun _ => ⟨rfl, jj⟩, fun c => absurd c (by decide), fun c => absurd c (by decide)⟩⟩))
      · refine br_f (by decide) (br_f (by decide) (br_f (by decide) (br_t rfl (s_waits HC.1.1 hsm hg (by omega) hgl.2 (fun z => br_t rfl (mm ⟨fun c => absurd c (by decide), fun c => absurd c (by decide), fun c => absurd c (by decide), fun _ => ?_, fun c => absurd c (by decide)⟩)) (fun z => br_f (by decide) (mm ⟨fun c => absurd c (by decide), fun c => absurd c (by decide), fun c => absurd c (by decide), fun _ => ?_, fun c => absurd c (by decide)⟩))))))
        · rw [if_pos z]; exact ⟨rfl, jj⟩
        · rw [if_neg z]; exact ⟨rfl, jj⟩
      · exact br_f (by decide) (br_f (by decide) (br_f (by decide) (br_f (by decide) (br_t rfl (s_goesNow HC.1.1 hsm (by omega) hg hgl.1 wB.2.2.2.2.1 (mm ⟨fun c => absurd c (by decide), fun c => absurd c (by decide), fun c => absurd c (by decide), fun c => absurd c (by decide), fun _ => ⟨rfl, jj⟩⟩))))))
    · have n : ∀ j : Nat, j ≤ 4 → ¬ a2 = nI j := fun j hj e => k2 (by rw [e]; exact (okI_nI (n := 4) (by omega)).mpr hj)
      exact br_f (n 0 (by omega)) (br_f (n 1 (by omega)) (br_f (n 2 (by omega)) (br_f (n 3 (by omega)) (br_f (n 4 (by omega)) (c_bad HC (fun σ' HC' => m_isG1 HM w0 k1 (br_f (by decide) (mw0 k2 rfl rfl (fr_f (by decide) (i_X11_of_20 _ _ _ _ (m_bad HM (fun τ' HM' => ⟨rfl, S, bb B 0, HC', HM', HW⟩))))))))))))
  · exact c_isG0 HC w0 k1 (fr_f (by decide) (c_bad HC (fun σ' HC' => m_isG0 HM w0 k1 (br_t rfl (i_X11_of_20 _ _ _ _ (m_bad HM (fun τ' HM' => ⟨rfl, S, bb B 0, HC', HM', HW⟩)))))))
end O5
