def J (σ τ : St) : Prop := ∃ S B, CR σ S B ∧ MR τ S B ∧ WF S
theorem WF.sA {S : SS} {A : Nat → Nat} (h : WF S) (hA : WFA A) : WF (sA S A) := by
  obtain ⟨h1, h2⟩ := h
  unfold WF
  rw [sA_0, sA_n (i := 1) (by omega), sA_n (i := 2) (by omega), sA_n (i := 3) (by omega), sA_n (i := 4) (by omega), sA_n (i := 5) (by omega), sA_n (i := 6) (by omega)]
  exact ⟨hA, h2⟩
theorem WFA.bd {A : Nat → Nat} (h : WFA A) : Bd A := h.1
theorem WFA.sm {A : Nat → Nat} (h : WFA A) : Sm A := h.1.2.2.2.2.2.2.2.2
section O1
variable {σ τ : St} {a1 a2 a3 a4 : Int32}
set_option maxHeartbeats 4000000 in
set_option maxRecDepth 100000 in
theorem p_clear (hJ : J σ τ) : V_X10_clear σ (fun r σ' => V_X11_clear τ (fun r' τ' => r = r' ∧ J σ' τ')) := by
  obtain ⟨S, B, HC, HM, HW⟩ := hJ
  unfold V_X10_clear B_X10_clear_e V_X11_clear B_X11_clear_e
  intro s1 e1 s2 e2
  subst e1; subst e2
  let S' : SS := fun i => if i = 6 then (fun _ => 0) else S i
  have d : ∀ i, i ≠ 6 → S' i = S i := fun i hi => if_neg hi
  have d6 : S' 6 0 = 0 := rfl
  obtain ⟨c1, c2, c3, c4, c5, c6, c7, c8, c9, c10, c11, c12⟩ := HC
  obtain ⟨m1, m2, m3, m4, m5, m6, m7, m8, m9, m10⟩ := HM
  obtain ⟨w1, w2, w3, w4, w5, w6, w7, w8, w9⟩ := HW
  refine ⟨by rw [c11, m9], S', B, ?_, ?_, ?_⟩
  · unfold CR RowC
    rw [d 0 (by omega), d 1 (by omega), d 2 (by omega), d 3 (by omega), d 4 (by omega), d 5 (by omega), d6]
    simp (disch := omega) only [us_same, us_ne, pk_us]
    exact ⟨c1.congr (fun q _ _ => us_ne (by omega)), fun c => (c2 c).congr (fun q _ _ => us_ne (by omega)), fun c => (c3 c).congr (fun q _ _ => us_ne (by omega)), c4, c5, c6, c7, c8, c9, c10, rfl, fun i hi => absurd hi (by omega)⟩
  · unfold MR
    rw [d 0 (by omega), d 1 (by omega), d 2 (by omega), d 3 (by omega), d 4 (by omega), d 5 (by omega), d6]
    have eR : RowN (us τ 0 (upd (τ 0) 11 0)) 1 181 (S 0) := fun i hi => by rw [us_ne (by omega)]; exact m1 i hi
    refine ⟨eR, ?_⟩
    simp (disch := omega) only [us_same, us_ne, pk_us, pk_un]
    exact ⟨m2, m3, m4, m5, m6, m7, m8, rfl, fun i hi => absurd hi (by omega)⟩
  · unfold WF
    rw [d 0 (by omega), d 1 (by omega), d 2 (by omega), d 3 (by omega), d 4 (by omega), d 5 (by omega), d6]
    exact ⟨w1, w2, w3, w4, w5, w6, w7, by omega, fun i hi => absurd hi (by omega)⟩
set_option maxHeartbeats 4000000 in
set_option maxRecDepth 100000 in
theorem p_type (hJ : J σ τ) : V_X10_type a1 σ (fun r σ' => V_X11_type a1 τ (fun r' τ' => r = r' ∧ J σ' τ')) := by
  obtain ⟨S, B, HC, HM, HW⟩ := hJ
  unfold V_X10_type B_X10_type_e V_X11_type B_X11_type_e
  have hL := HW.2.2.2.2.2.2.2.1
  by_cases k1 : okI a1 0 127
  · obtain ⟨v, -, hv, rfl⟩ := okI_ex (a := 0) (b := 127) k1
    refine cw1 k1 rfl rfl (fr_t (by decide) ?_)
    rw [show σ 70 1 = nI (S 6 0) from HC.2.2.2.2.2.2.2.2.2.2.1]
    by_cases kf : S 6 0 = 150
    · rw [kf]
      refine br_f (by decide) (c_full HC (fun σ' HC' => mw1 k1 rfl rfl (fr_t (by decide) ?_)))
      rw [show τ 0 11 = nI (S 6 0) from HM.2.2.2.2.2.2.2.2.1, kf]
      exact fr_f (by decide) (m_full HM (fun τ' HM' => ⟨rfl, S, bb B 2, HC', HM', HW⟩))
    · refine br_t (by rw [show (150 : Int32) = nI 150 from rfl, q_lt (by omega) (by omega)]; omega) ?_
      unfold V_X9_append B_X9_append_e
      rw [show σ 70 1 = nI (S 6 0) from HC.2.2.2.2.2.2.2.2.2.2.1]
      refine br_f (by rw [show (150 : Int32) = nI 150 from rfl, q_le (by omega) (by omega)]; omega) ⟨vp_in_nI (by omega) (by omega), fun s1 e1 s2 e2 => mw1 k1 rfl rfl (fr_t (by decide) ?_)⟩
      rw [show τ 0 11 = nI (S 6 0) from HM.2.2.2.2.2.2.2.2.1]
      refine fr_t (by rw [show (150 : Int32) = nI 150 from rfl, q_eq (by omega) (by omega)]; exact kf) ⟨vp_in_nI (by omega) (by omega), fun t1 f1 t2 f2 => ?_⟩
      subst e1; subst e2; subst f1; subst f2
      rw [nI_clamp (by omega)]
      let S' : SS := fun i => if i = 6 then (fun _ => S 6 0 + 1) else if i = 5 then upN (S 5) (S 6 0) v else S i
      have d : ∀ i, i ≠ 6 → i ≠ 5 → S' i = S i := fun i hi h5 => by show (if i = 6 then _ else if i = 5 then _ else S i) = S i; rw [if_neg hi, if_neg h5]
      have d6 : S' 6 0 = S 6 0 + 1 := rfl
      have d5 : S' 5 = upN (S 5) (S 6 0) v := rfl
      obtain ⟨c1, c2, c3, c4, c5, c6, c7, c8, c9, c10, c11, c12⟩ := HC
      obtain ⟨m1, m2, m3, m4, m5, m6, m7, m8, m9, m10⟩ := HM
      obtain ⟨w1, w2, w3, w4, w5, w6, w7, w8, w9⟩ := HW
      have ev : ∀ {f : Nat → Int32}, (∀ i, i < S 6 0 → f i = nI (S 5 i)) → ∀ i, i < S 6 0 + 1 → upd f (S 6 0) (nI v) i = nI (upN (S 5) (S 6 0) v i) := fun {f} hf i hi => by
        unfold upd upN
        split
        · rfl
        · exact hf i (by omega)
      refine ⟨?_, S', B, ?_, ?_, ?_⟩
      · simp (disch := omega) only [us_same, us_ne, pk_us]
        rw [c11, m9]
      · unfold CR RowC
        rw [d 0 (by omega) (by omega), d 1 (by omega) (by omega), d 2 (by omega) (by omega), d 3 (by omega) (by omega), d 4 (by omega) (by omega), d5, d6]
        simp (disch := omega) only [us_same, us_ne, pk_us]
        exact ⟨c1.congr (fun q _ _ => by rw [us_ne (by omega), us_ne (by omega)]), fun c => (c2 c).congr (fun q _ _ => by rw [us_ne (by omega), us_ne (by omega)]), fun c => (c3 c).congr (fun q _ _ => by rw [us_ne (by omega), us_ne (by omega)]), c4, c5, c6, c7, c8, c9, c10, by rw [c11, nI_1], ev c12⟩
      · unfold MR
        rw [d 0 (by omega) (by omega), d 1 (by omega) (by omega), d 2 (by omega) (by omega), d 3 (by omega) (by omega), d 4 (by omega) (by omega), d5, d6]
        have eR : ∀ f g, RowN (us (us τ 9 f) 0 g) 1 181 (S 0) := fun f g i hi => by rw [us_ne (by omega), us_ne (by omega)]; exact m1 i hi
        refine ⟨eR _ _, ?_⟩
        simp (disch := omega) only [us_same, us_ne, pk_us, pk_un]
        exact ⟨m2, m3, m4, m5, m6, m7, m8, by rw [m9, nI_1], ev m10⟩
      · unfold WF
        rw [d 0 (by omega) (by omega), d 1 (by omega) (by omega), d 2 (by omega) (by omega), d 3 (by omega) (by omega), d 4 (by omega) (by omega), d5, d6]
        refine ⟨w1, w2, w3, w4, w5, w6, w7, by omega, fun i hi => ?_⟩
        unfold upN
        split
        · exact hv
        · exact w9 i (by omega)
  · refine cw0 k1 rfl rfl (fr_f (by decide) (c_bad HC (fun σ' HC' => mw0 k1 rfl rfl (fr_f (by decide) (m_bad HM (fun τ' HM' => ⟨rfl, S, bb B 0, HC', HM', HW⟩))))))
set_option maxHeartbeats 4000000 in
set_option maxRecDepth 100000 in
theorem p_status (hJ : J σ τ) : V_X10_status a1 σ (fun r σ' => V_X11_status a1 τ (fun r' τ' => r = r' ∧ J σ' τ')) := by
  obtain ⟨S, B, HC, HM, HW⟩ := hJ
  unfold V_X10_status B_X10_status_e V_X11_status B_X11_status_e
  have hm := HM.2.2.2.2.2.1
  have h10 : σ 0 10 = B 0 := HC.2.2.2.2.2.2.2.1
  have h11 : σ 0 11 = B 1 := HC.2.2.2.2.2.2.2.2.1
  have h12 : σ 0 12 = B 2 := HC.2.2.2.2.2.2.2.2.2.1
  by_cases k1 : okI a1 0 2
  · obtain ⟨v, -, hv, rfl⟩ := okI_ex (a := 0) (b := 2) k1
    have fin : ∀ j, j < 3 → nI v = nI j → V_X11_in (nI v).toInt64 0 2 τ (fun r1 s1 => (r1 = 0 → V_X11_bad (-1) s1 (fun r' τ' => B j = r' ∧ J σ τ')) ∧ (¬ r1 = 0 → vp_in (nI v) 3 ∧ (B j = s1 4 (nI v).toNatClampNeg ∧ J σ s1))) := fun j hj e => by
      have ej : v = j := (q_eq (a := v) (b := j) (by omega) (by omega)) ▸ e
      subst ej
      refine mw1 k1 rfl rfl (br_f (by decide) ⟨vp_in_nI (by omega) (by omega), ?_, S, B, HC, HM, HW⟩)
      rw [nI_clamp (by omega), hm _ hj]
    rcases (by omega : v = 0 ∨ v = 1 ∨ v = 2) with rfl | rfl | rfl
    · refine br_t rfl ?_
      rw [h10]
      exact fin 0 (by omega) rfl
    · refine br_f (by decide) (br_t rfl ?_)
      rw [h11]
      exact fin 1 (by omega) rfl
    · refine br_f (by decide) (br_f (by decide) (br_t rfl ?_))
      rw [h12]
      exact fin 2 (by omega) rfl
  · have n : ∀ j : Nat, j ≤ 2 → ¬ a1 = nI j := fun j hj e => k1 (by rw [e]; exact (okI_nI (n := 2) (by omega)).mpr hj)
    refine br_f (n 0 (by omega)) (br_f (n 1 (by omega)) (br_f (n 2 (by omega)) (fun s1 e1 => ?_)))
    subst e1
    exact mw0 k1 rfl rfl (br_t rfl (m_bad HM (fun τ' HM' => ⟨rfl, S, bb B 0, HC.bump (k := 0) (by omega), HM', HW⟩)))
set_option maxHeartbeats 4000000 in
set_option maxRecDepth 100000 in
theorem p_wet (hJ : J σ τ) : V_X10_wet a1 a2 σ (fun r σ' => V_X11_wet a1 a2 τ (fun r' τ' => r = r' ∧ J σ' τ')) := by
  obtain ⟨S, B, HC, HM, HW⟩ := hJ
  unfold V_X10_wet B_X10_wet_e V_X11_wet B_X11_wet_e
  by_cases k1 : okI a1 0 5
  · refine cw1 k1 rfl rfl (br_f (by decide) ?_)
    by_cases k2 : okI a2 0 4
    · obtain ⟨v, -, hv, rfl⟩ := okI_ex (a := 0) (b := 5) k1
      obtain ⟨w, -, hw, rfl⟩ := okI_ex (a := 0) (b := 4) k2
      have HC0 := HC
      obtain ⟨⟨hst, hpa, hse, hno, hma⟩, c2, c3, c4, c5⟩ := HC0
      have ein : vp_in (nI v) 6 := vp_in_nI (by omega) (by omega)
      refine cw1 k2 rfl rfl (fr_t (by decide) ⟨ein, ein, fun s1 e1 s2 e2 => mw1 k1 rfl rfl (br_f (by decide) ?_)⟩)
      unfold V_X11_isWet B_X11_isWet_e
      refine mw1 k2 rfl rfl (fr_t (by decide) ?_)
      rw [show (16 : Int32) = nI 16 from rfl, nI_add, nI_clamp (by omega)]
      refine ⟨vp_in_nI (by omega) (by omega), fun x ex => ⟨vp_in_nI (by omega) (by omega), fun t1 f1 t2 f2 => ?_⟩⟩
      subst e1; subst e2; subst ex; subst f1; subst f2
      rw [nI_clamp (by omega)]
      have HM2 := (HM.up (i := 16 + v) (v := w)).up (i := 5) (v := 0)
      rw [sA_sA, sA_0] at HM2
      obtain ⟨wB, w0, w15, w2, w3, w4, w5, wse, wno, wma, wpa, wmk⟩ := HW.1
      obtain ⟨b0, b1, b14, b15, bw, bg, bc, bd, bs⟩ := wB
      have hst2 : σ 3 v = nI (S 0 (16 + v)) := hst.2.2.2.2.1 v (by omega)
      refine ⟨by rw [hst2]; exact (HM.1 _ (by omega)).symm, _, B, HC.sc (A' := upN (upN (S 0) (16 + v) w) 5 0) (fun q hq => ?_) ?_ ?_, HM2, HW.sA ?_⟩
      · rw [us_ne (by omega), us_ne (by omega)]
      · refine ⟨?_, PaR.z (by rw [us_same, pk_us]; rfl) upN_s, hse.c (by rw [us_ne (by omega), us_ne (by omega)]) (by rw [us_ne (by omega), us_ne (by omega)]) w2 (by rw [upN_n (by omega), upN_n (by omega)]) (fun i hi _ => by rw [upN_n (by omega), upN_n (by omega)]), hno.c (by rw [us_ne (by omega), us_ne (by omega)]) (by rw [us_ne (by omega), us_ne (by omega)]) w3 (by rw [upN_n (by omega), upN_n (by omega)]) (fun i hi _ => by rw [upN_n (by omega), upN_n (by omega)]), hma.c (by rw [us_ne (by omega), us_ne (by omega)]) (by rw [us_ne (by omega), us_ne (by omega)]) w4 (by rw [upN_n (by omega), upN_n (by omega)]) (fun i hi _ => by rw [upN_n (by omega), upN_n (by omega)])⟩
        obtain ⟨r0, r1, r14, r15, rw_, rk, rm, rs, rg, rb, rh⟩ := hst
        have eb : ∀ s, bh (upN (upN (S 0) (16 + v) w) 5 0) s = bh (S 0) s := fun s => by
          unfold bh
          rw [upN_n (j := 1) (by omega), upN_n (j := 1) (by omega), upN_n (j := 40) (by omega), upN_n (j := 40) (by omega), upN_n (j := 41) (by omega), upN_n (j := 41) (by omega), upN_n (j := 42) (by omega), upN_n (j := 42) (by omega)]
        unfold StR
        simp (disch := omega) only [us_same, us_ne, upN_n]
        refine ⟨r0, r1, r14, r15, fun i hi => ?_, fun j hj => ?_, fun j hj h7 => ?_, fun j hj => ?_, fun k hk => ?_, fun k hk => ?_, fun s hs => by rw [eb]; exact rh s hs⟩
        · unfold upd
          by_cases e : i = v
          · subst e; rw [if_pos rfl, upN_s]
          · rw [if_neg e, upN_n (by omega)]; exact rw_ i hi
        · exact rk j hj
        · exact rm j hj h7
        · rw [upN_n (by omega)]; exact rs j hj
        · exact rg k hk
        · exact rb k hk
      · unfold RowC at *
        simp (disch := omega) only [us_same, us_ne]
        exact c4
      · have u : ∀ i, i ≠ 16 + v → i ≠ 5 → upN (upN (S 0) (16 + v) w) 5 0 i = S 0 i := fun i h1 h2 => by rw [upN_n h2, upN_n h1]
        have u5 : upN (upN (S 0) (16 + v) w) 5 0 5 = 0 := upN_s
        unfold WFA Bd
        rw [u5, u 0 (by omega) (by omega), u 1 (by omega) (by omega), u 2 (by omega) (by omega), u 3 (by omega) (by omega), u 4 (by omega) (by omega), u 14 (by omega) (by omega), u 15 (by omega) (by omega)]
        refine ⟨⟨b0, b1, b14, b15, fun i hi => ?_, fun g hg => ?_, fun k hk => ?_, fun j k hj hk => ?_, fun i => ?_⟩, w0, w15, w2, w3, w4, by omega, fun i hi => ?_, fun i hi => ?_, fun i hi => ?_, fun r hr => absurd hr (by omega), fun g hg => ?_⟩
        · rw [upN_n (by omega)]
          by_cases e : i = v
          · rw [e, upN_s]; exact hw
          · rw [upN_n (by omega)]; exact bw i hi
        · rw [u _ (by omega) (by omega), u _ (by omega) (by omega)]; exact bg g hg
        · rw [u _ (by omega) (by omega), u _ (by omega) (by omega)]; exact bc k hk
        · rw [u _ (by omega) (by omega), u _ (by omega) (by omega)]; exact bd j k hj hk
        · unfold upN
          split
          · omega
          · split
            · omega
            · exact bs i
        · rw [u _ (by omega) (by omega), u _ (by omega) (by omega)]; exact wse i hi
        · rw [u _ (by omega) (by omega), u _ (by omega) (by omega)]; exact wno i hi
        · rw [u _ (by omega) (by omega), u _ (by omega) (by omega)]; exact wma i hi
        · rw [u _ (by omega) (by omega)]; exact wmk g hg
    · refine cw0 k2 rfl rfl (fr_f (by decide) (c_bad HC (fun σ' HC' => mw1 k1 rfl rfl (br_f (by decide) ?_))))
      unfold V_X11_isWet B_X11_isWet_e
      exact mw0 k2 rfl rfl (fr_f (by decide) (i_X11_wet_19 _ _ _ _ (m_bad HM (fun τ' HM' => ⟨rfl, S, bb B 0, HC', HM', HW⟩))))
  · exact cw0 k1 rfl rfl (br_t rfl (c_bad HC (fun σ' HC' => mw0 k1 rfl rfl (br_t rfl (i_X11_wet_19 _ _ _ _ (m_bad HM (fun τ' HM' => ⟨rfl, S, bb B 0, HC', HM', HW⟩)))))))
end O1
