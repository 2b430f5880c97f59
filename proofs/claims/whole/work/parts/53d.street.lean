section O4d
variable {σ τ : St} {a1 a2 a3 a4 : Int32}
set_option maxHeartbeats 4000000 in
set_option maxRecDepth 100000 in
theorem p_street (hJ : J σ τ) : V_X10_street σ (fun r σ' => V_X11_street τ (fun r' τ' => r = r' ∧ J σ' τ')) := by
  obtain ⟨S, B, HC, HM, HW⟩ := hJ
  unfold V_X10_street B_X10_street_e V_X11_street B_X11_street_e V_X11_many B_X11_many_e
  refine c_empty HC (A' := zA (S 0)) (fun i hi => zA_lo hi) (fun σ1 HC1 _ => m_begin (a := S 0) (by omega) (by omega) (fun row h1 h2 => ?_))
  refine ⟨by rw [show σ 2 8 = nI (S 0 0) from HC.1.1.1, HM.1 0 (by omega)], _, B, HC1, HM.row (fun i hi => ?_), HW.sA (WFA_z HW.1.sm)⟩
  unfold zA
  split
  · rw [h1 i (by omega)]; rfl
  · rw [h2 i (by omega)]; exact HM.1 i hi
end O4d
