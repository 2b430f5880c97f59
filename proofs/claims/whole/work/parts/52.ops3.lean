section O3
variable {σ τ : St} {a1 a2 a3 a4 : Int32}
/-- a change of the street alone, with nothing to undo behind it -/
theorem CR.street {σ σ' : St} {S : SS} {B : CB} {A' : Nat → Nat} (H : CR σ S B) (hW : WFA (S 0)) (e : ∀ q, ¬ (2 ≤ q ∧ q ≤ 11) → σ' q = σ q) (hs : StR σ' 2 A') (h11 : σ' 11 1 = nI 0) (h5 : A' 5 = 0) (f2 : A' 2 = S 0 2) (f3 : A' 3 = S 0 3) (f4 : A' 4 = S 0 4) (f : ∀ i, 43 ≤ i → i < 101 → A' i = S 0 i) : CR σ' (sA S A') B := by
  obtain ⟨-, -, -, w2, w3, w4, -⟩ := hW
  refine H.sc (fun q hq => e q (by omega)) ⟨hs, PaR.z h11 h5, H.1.2.2.1.c (e _ (by omega)) (e _ (by omega)) w2 f2 (fun i h1 h2 => f i h1 (by omega)), H.1.2.2.2.1.c (e _ (by omega)) (e _ (by omega)) w3 f3 (fun i h1 h2 => f i (by omega) (by omega)), H.1.2.2.2.2.c (e _ (by omega)) (e _ (by omega)) w4 f4 (fun i h1 h2 => f i (by omega) (by omega))⟩ ?_
  obtain ⟨-, -, -, h4, -⟩ := H
  unfold RowC at *
  rw [e 13 (by omega), e 15 (by omega), e 17 (by omega)]
  exact h4
set_option maxHeartbeats 4000000 in
set_option maxRecDepth 100000 in
theorem m_layGlove {n h k m s : Nat} {a : Nat → Nat} (hR : RowN σ h n a) (hn : 43 ≤ n) (hn2 : n < 2147483648) (h7 : a 0 < 7) {Q : St → Prop} (hq : ∀ row : Nat → Int32, (∀ i, i < n → row i = nI (ag a k m s i)) → Q (us σ h row)) : V_X11_layGlove h n (nI k) (nI m) (nI s) σ Q := by
  unfold V_X11_layGlove B_X11_layGlove_e
  rw [hR 0 (by omega)]
  simp (disch := omega) only [q_m1, q_m1n, q_m1a, q_eq, q_le, q_lt, nI_add, pk_sub, pk_mul, pk_div, pk_rem, nI_clamp, q_in, zl0, zl1, zl2, zl3, zl4, zl5, zl6, zl7, zl8, zl9, zl10, zl11, zl12, zl13, zl14, zl15, zl16, zl17, zl18, zl19, zl20, zl21, zl22, zl23, zl24, zl25, zl26, zl27, zl28, zl29, zl30, zl31, zl32, zl36, zl37, zl38, zl40, zl42, zl43, zl44, zl48, zl53, zl54, zl57, zl59, zl60, zl61, zl63, zl64, zl70, zl71, zl72, zl77, zl78, zl90, zl97, zl98, zl99, zl100, zl101, zl102, zl106, zl111, zl122, zl127, zl128, zl150, zl181, zl256, zl362, zl9999, zl999999, zl1000000]
  refine ⟨by omega, by omega, fun s1 e1 => ⟨by omega, fun s2 e2 => ⟨by omega, fun s3 e3 => ⟨by omega, by omega, fun s4 e4 => ?_⟩⟩⟩⟩
  subst e1; subst e2; subst e3; subst e4
  simp only [us_us, us_same]
  refine hq _ (fun i hi => ?_)
  unfold ag
  rw [if_pos h7]
  unfold upd upN
  split
  · rw [if_neg (by omega), if_neg (by omega), if_neg (by omega), hR 0 (by omega), nI_add]
  · split
    · rfl
    · split
      · rfl
      · split
        · rfl
        · exact hR i hi
set_option maxHeartbeats 4000000 in
set_option maxRecDepth 100000 in
theorem m_layCrossing {n h k s : Nat} {a : Nat → Nat} (hR : RowN σ h n a) (hn : 43 ≤ n) (hn2 : n < 2147483648) (h3 : a 1 < 3) {Q : St → Prop} (hq : ∀ row : Nat → Int32, (∀ i, i < n → row i = nI (ac a k s i)) → Q (us σ h row)) : V_X11_layCrossing h n (nI k) (nI s) σ Q := by
  unfold V_X11_layCrossing B_X11_layCrossing_e
  rw [hR 1 (by omega)]
  simp (disch := omega) only [q_m1, q_m1n, q_m1a, q_eq, q_le, q_lt, nI_add, pk_sub, pk_mul, pk_div, pk_rem, nI_clamp, q_in, zl0, zl1, zl2, zl3, zl4, zl5, zl6, zl7, zl8, zl9, zl10, zl11, zl12, zl13, zl14, zl15, zl16, zl17, zl18, zl19, zl20, zl21, zl22, zl23, zl24, zl25, zl26, zl27, zl28, zl29, zl30, zl31, zl32, zl36, zl37, zl38, zl40, zl42, zl43, zl44, zl48, zl53, zl54, zl57, zl59, zl60, zl61, zl63, zl64, zl70, zl71, zl72, zl77, zl78, zl90, zl97, zl98, zl99, zl100, zl101, zl102, zl106, zl111, zl122, zl127, zl128, zl150, zl181, zl256, zl362, zl9999, zl999999, zl1000000]
  refine ⟨by omega, by omega, fun s1 e1 => ⟨by omega, fun s2 e2 => ⟨by omega, by omega, fun s4 e4 => ?_⟩⟩⟩
  subst e1; subst e2; subst e4
  simp only [us_us, us_same]
  refine hq _ (fun i hi => ?_)
  unfold ac
  unfold upd upN
  split
  · rw [if_neg (by omega), if_neg (by omega), hR 1 (by omega), nI_add]
  · split
    · rfl
    · split
      · rfl
      · exact hR i hi
set_option maxHeartbeats 4000000 in
set_option maxRecDepth 100000 in
theorem p_glove (hJ : J σ τ) : V_X10_glove a1 a2 a3 σ (fun r σ' => V_X11_glove a1 a2 a3 τ (fun r' τ' => r = r' ∧ J σ' τ')) := by
  obtain ⟨S, B, HC, HM, HW⟩ := hJ
  unfold V_X10_glove B_X10_glove_e V_X11_glove B_X11_glove_e V_X10_isKind B_X10_isKind_e V_X11_isKind B_X11_isKind_e V_X11_isMark B_X11_isMark_e
  by_cases k1 : okI a1 0 5
  · refine cw1 k1 rfl rfl (br_f (by decide) ?_)
    by_cases k2 : okI a2 1 9
    · refine cw1 k2 rfl rfl (br_f (by decide) ?_)
      by_cases k3 : okI a3 0 23
      · refine cw1 k3 rfl rfl (fr_t (by decide) ?_)
        obtain ⟨wB, w0, w15, w2, w3, w4, w5, wse, wno, wma, wpa, wmk⟩ := HW.1
        rw [show σ 2 8 = nI (S 0 0) from HC.1.1.1]
        by_cases kf : S 0 0 = 7
        · rw [kf]
          refine br_f (by decide) (c_full HC (fun σ' HC' => mw1 k1 rfl rfl (br_f (by decide) (mw1 k2 rfl rfl (br_f (by decide) (mw1 k3 rfl rfl (fr_t (by decide) ?_)))))))
          unfold V_X11_many B_X11_many_e
          rw [show τ 1 0 = nI (S 0 0) from HM.1 0 (by omega), kf]
          exact fr_f (by decide) (m_full HM (fun τ' HM' => ⟨rfl, S, bb B 2, HC', HM', HW⟩))
        · refine br_t (by rw [show (7 : Int32) = nI 7 from rfl, q_lt (by omega) (by omega)]; omega) (fun s1 e1 => ?_)
          obtain ⟨k, -, hk, rfl⟩ := okI_ex (a := 0) (b := 5) k1
          obtain ⟨m, -, hm, rfl⟩ := okI_ex (a := 1) (b := 9) k2
          obtain ⟨s, -, hs, rfl⟩ := okI_ex (a := 0) (b := 23) k3
          subst e1
          have H1 : StR (us σ 11 (upd (σ 11) 1 0)) 2 (S 0) := HC.1.1.congr (fun q _ _ => us_ne (by omega))
          refine s_addGlove H1 w0 (fun σ2 H2 hf2 => mw1 k1 rfl rfl (br_f (by decide) (mw1 k2 rfl rfl (br_f (by decide) (mw1 k3 rfl rfl (fr_t (by decide) ?_))))))
          unfold V_X11_many B_X11_many_e
          rw [show τ 1 0 = nI (S 0 0) from HM.1 0 (by omega)]
          refine fr_t (by rw [show (7 : Int32) = nI 7 from rfl, q_eq (by omega) (by omega)]; exact kf) ?_
          refine m_layGlove HM.1 (by omega) (by omega) (by omega) (fun row hrow t1 f1 => ?_)
          subst f1
          have HM2 := (HM.row hrow).up (i := 5) (v := 0)
          rw [sA_sA, sA_0] at HM2
          have o : ∀ i, i ≠ 0 → (i < 6 ∨ 14 ≤ i) → (i < 22 ∨ 37 ≤ i) → ag (S 0) k m s i = S 0 i := fun i h1 h2 h3 => ag_o h1 (by omega) (by omega) (by omega)
          have hB2 := Bd_ag (k := k) (m := m) (s := s) wB w0 hk hm hs
          have hBf : Bd (upN (ag (S 0) k m s) 5 0) := by
            obtain ⟨b0, b1, b14, b15, bw, bg, bc, bd, bs⟩ := hB2
            unfold Bd
            rw [upN_n (j := 0) (by omega), upN_n (j := 1) (by omega), upN_n (j := 14) (by omega), upN_n (j := 15) (by omega)]
            refine ⟨b0, b1, b14, b15, fun i hi => by rw [upN_n (by omega)]; exact bw i hi, fun g hg => by rw [upN_n (by omega), upN_n (by omega)]; exact bg g hg, fun j hj => by rw [upN_n (by omega), upN_n (by omega)]; exact bc j hj, fun i j hi hj => by rw [upN_n (by omega), upN_n (by omega)]; exact bd i j hi hj, fun i => ?_⟩
            unfold upN
            split
            · omega
            · exact bs i
          refine ⟨?_, _, B, HC.street HW.1 (fun q hq => ?_) (H2.cA (fun i h1 h2 => upN_n (by omega)) (by rw [ag_0]; omega) (by rw [o 1 (by omega) (by omega) (by omega)]; exact wB.2.1)) ?_ upN_s (by rw [upN_n (by omega)]; exact o 2 (by omega) (by omega) (by omega)) (by rw [upN_n (by omega)]; exact o 3 (by omega) (by omega) (by omega)) (by rw [upN_n (by omega)]; exact o 4 (by omega) (by omega) (by omega)) (fun i h1 h2 => by rw [upN_n (by omega)]; exact o i (by omega) (by omega) (by omega)), HM2, HW.sA (HW.1.upd hBf ?_ ?_ ⟨?_, fun i h1 h2 => ?_⟩ ⟨?_, fun i h1 h2 => ?_⟩ ⟨?_, fun i h1 h2 => ?_⟩ (Or.inl upN_s) (fun g hg => ?_))⟩
          · rw [us_same, pk_un (by omega), us_same, hrow 0 (by omega), ag_0, nI_pred]
          · rw [hf2 q (by omega), us_ne (by omega)]
          · rw [hf2 11 (by omega), us_same, pk_us]; rfl
          · rw [upN_n (by omega), ag_0]; omega
          · rw [upN_n (by omega), o 15 (by omega) (by omega) (by omega)]; exact w15
          · rw [upN_n (by omega)]; exact o _ (by omega) (by omega) (by omega)
          · rw [upN_n (by omega)]; exact o _ (by omega) (by omega) (by omega)
          · rw [upN_n (by omega)]; exact o _ (by omega) (by omega) (by omega)
          · rw [upN_n (by omega)]; exact o _ (by omega) (by omega) (by omega)
          · rw [upN_n (by omega)]; exact o _ (by omega) (by omega) (by omega)
          · rw [upN_n (by omega)]; exact o _ (by omega) (by omega) (by omega)
          · rw [upN_n (by omega), ag_0] at hg
            rw [upN_n (by omega)]
            by_cases e : g = S 0 0
            · subst e; rw [ag_mk (by omega)]; exact hm
            · rw [ag_o (by omega) (by omega) (by omega) (by omega)]; exact wmk g (by omega)
      · exact cw0 k3 rfl rfl (fr_f (by decide) (c_bad HC (fun σ' HC' => mw1 k1 rfl rfl (br_f (by decide) (mw1 k2 rfl rfl (br_f (by decide) (mw0 k3 rfl rfl (fr_f (by decide) (i_X11_glove_26 _ _ _ _ _ (m_bad HM (fun τ' HM' => ⟨rfl, S, bb B 0, HC', HM', HW⟩)))))))))))
    · exact cw0 k2 rfl rfl (br_t rfl (c_bad HC (fun σ' HC' => mw1 k1 rfl rfl (br_f (by decide) (mw0 k2 rfl rfl (br_t rfl (i_X11_glove_26 _ _ _ _ _ (m_bad HM (fun τ' HM' => ⟨rfl, S, bb B 0, HC', HM', HW⟩)))))))))
  · exact cw0 k1 rfl rfl (br_t rfl (c_bad HC (fun σ' HC' => mw0 k1 rfl rfl (br_t rfl (i_X11_glove_26 _ _ _ _ _ (m_bad HM (fun τ' HM' => ⟨rfl, S, bb B 0, HC', HM', HW⟩)))))))
theorem s_has1 {h s : Nat} {a : Nat → Nat} (H : StR σ h a) (hs : s ≤ 23) (hb : bh a s ≠ 0) {Q : Int32 → St → Prop} (q : Q 1 σ) : V_X8_hasCrossing h (nI s) σ Q := by
  unfold V_X8_hasCrossing B_X8_hasCrossing_e
  have h3 := bh_sm (a := a) (s := s)
  refine cw1 (l := 0) (u := 23) ((okI_nI (n := 23) (by omega)).mpr hs) rfl rfl (br_f (by decide) ⟨vp_in_nI (by omega) (by omega), ?_⟩)
  rw [nI_clamp (by omega), H.2.2.2.2.2.2.2.2.2.2 s (by omega)]
  exact br_f (by rw [show (0 : Int32) = nI 0 from rfl, q_eq (by omega) (by omega)]; exact hb) q
theorem s_has0 {h s : Nat} {a : Nat → Nat} (H : StR σ h a) (hs : s ≤ 23) (hb : bh a s = 0) {Q : Int32 → St → Prop} (q : Q 0 σ) : V_X8_hasCrossing h (nI s) σ Q := by
  unfold V_X8_hasCrossing B_X8_hasCrossing_e
  refine cw1 (l := 0) (u := 23) ((okI_nI (n := 23) (by omega)).mpr hs) rfl rfl (br_f (by decide) ⟨vp_in_nI (by omega) (by omega), ?_⟩)
  rw [nI_clamp (by omega), H.2.2.2.2.2.2.2.2.2.2 s (by omega), hb]
  exact br_t rfl q
set_option maxHeartbeats 4000000 in
set_option maxRecDepth 100000 in
theorem p_crossing (hJ : J σ τ) : V_X10_crossing a1 a2 σ (fun r σ' => V_X11_crossing a1 a2 τ (fun r' τ' => r = r' ∧ J σ' τ')) := by
  obtain ⟨S, B, HC, HM, HW⟩ := hJ
  unfold V_X10_crossing B_X10_crossing_e V_X11_crossing B_X11_crossing_e V_X10_isKind B_X10_isKind_e V_X11_isKind B_X11_isKind_e
  obtain ⟨wB, w0, w15, w2, w3, w4, w5, wse, wno, wma, wpa, wmk⟩ := HW.1
  have hsm : Sm (S 0) := wB.2.2.2.2.2.2.2.2
  have h1 := wB.2.1
  by_cases k1 : okI a1 0 5
  · refine cw1 k1 rfl rfl (br_f (by decide) ?_)
    by_cases k2 : okI a2 0 22
    · refine cw1 k2 rfl rfl (br_f (by decide) ?_)
      obtain ⟨k, -, hk, rfl⟩ := okI_ex (a := 0) (b := 5) k1
      obtain ⟨s, -, hs, rfl⟩ := okI_ex (a := 0) (b := 22) k2
      have h3 := bh_sm (a := S 0) (s := s)
      by_cases kb : bh (S 0) s = 0
      · refine s_has0 HC.1.1 (by omega) kb (br_t rfl ?_)
        rw [show σ 2 9 = nI (S 0 1) from HC.1.1.2.1]
        have mm : ∀ {Qm : Int32 → St → Prop}, Qm (-1) τ → V_X11_behind 1 181 (nI s) τ Qm := fun {Qm} q => m_behind HM.1 (by omega) (by omega) h1 hsm (by omega) (by rw [kb]; exact q)
        by_cases kf : S 0 1 = 3
        · rw [kf]
          refine br_f (by decide) (c_full HC (fun σ' HC' => mw1 k1 rfl rfl (br_f (by decide) (mw1 k2 rfl rfl (br_f (by decide) (mm (br_t rfl ?_)))))))
          rw [show τ 1 1 = nI (S 0 1) from HM.1 1 (by omega), kf]
          exact fr_f (by decide) (m_full HM (fun τ' HM' => ⟨rfl, S, bb B 2, HC', HM', HW⟩))
        · refine br_t (by rw [show (3 : Int32) = nI 3 from rfl, q_lt (by omega) (by omega)]; omega) (fun s1 e1 => ?_)
          subst e1
          have H1 : StR (us σ 11 (upd (σ 11) 1 0)) 2 (S 0) := HC.1.1.congr (fun q _ _ => us_ne (by omega))
          refine s_addCrossing H1 wB (by omega) hk hs kb (fun σ2 H2 hf2 => mw1 k1 rfl rfl (br_f (by decide) (mw1 k2 rfl rfl (br_f (by decide) (mm (br_t rfl ?_))))))
          rw [show τ 1 1 = nI (S 0 1) from HM.1 1 (by omega)]
          refine fr_t (by rw [show (3 : Int32) = nI 3 from rfl, q_eq (by omega) (by omega)]; exact kf) ?_
          refine m_layCrossing HM.1 (by omega) (by omega) (by omega) (fun row hrow t1 f1 => ?_)
          subst f1
          have HM2 := (HM.row hrow).up (i := 5) (v := 0)
          rw [sA_sA, sA_0] at HM2
          have o : ∀ i, i ≠ 1 → (i < 37 ∨ 43 ≤ i) → ac (S 0) k s i = S 0 i := fun i h1 h2 => ac_o h1 (by omega) (by omega)
          have hB2 := Bd_ac (k := k) (s := s) wB (by omega) hk hs kb
          have hBf : Bd (upN (ac (S 0) k s) 5 0) := by
            obtain ⟨b0, b1, b14, b15, bw, bg, bc, bd, bs⟩ := hB2
            unfold Bd
            rw [upN_n (j := 0) (by omega), upN_n (j := 1) (by omega), upN_n (j := 14) (by omega), upN_n (j := 15) (by omega)]
            refine ⟨b0, b1, b14, b15, fun i hi => by rw [upN_n (by omega)]; exact bw i hi, fun g hg => by rw [upN_n (by omega), upN_n (by omega)]; exact bg g hg, fun j hj => by rw [upN_n (by omega), upN_n (by omega)]; exact bc j hj, fun i j hi hj => by rw [upN_n (by omega), upN_n (by omega)]; exact bd i j hi hj, fun i => ?_⟩
            unfold upN
            split
            · omega
            · exact bs i
          refine ⟨?_, _, B, HC.street HW.1 (fun q hq => ?_) (H2.cA (fun i h1 h2 => upN_n (by omega)) (by rw [o 0 (by omega) (by omega)]; exact w0) (by rw [ac_1]; omega)) ?_ upN_s (by rw [upN_n (by omega)]; exact o 2 (by omega) (by omega)) (by rw [upN_n (by omega)]; exact o 3 (by omega) (by omega)) (by rw [upN_n (by omega)]; exact o 4 (by omega) (by omega)) (fun i h1 h2 => by rw [upN_n (by omega)]; exact o i (by omega) (by omega)), HM2, HW.sA (HW.1.upd hBf ?_ ?_ ⟨?_, fun i h1 h2 => ?_⟩ ⟨?_, fun i h1 h2 => ?_⟩ ⟨?_, fun i h1 h2 => ?_⟩ (Or.inl upN_s) (fun g hg => ?_))⟩
          · rw [us_same, pk_un (by omega), us_same, hrow 1 (by omega), ac_1, nI_pred]
          · rw [hf2 q (by omega), us_ne (by omega)]
          · rw [hf2 11 (by omega), us_same, pk_us]; rfl
          · rw [upN_n (by omega), o 0 (by omega) (by omega)]; exact w0
          · rw [upN_n (by omega), o 15 (by omega) (by omega)]; exact w15
          · rw [upN_n (by omega)]; exact o _ (by omega) (by omega)
          · rw [upN_n (by omega)]; exact o _ (by omega) (by omega)
          · rw [upN_n (by omega)]; exact o _ (by omega) (by omega)
          · rw [upN_n (by omega)]; exact o _ (by omega) (by omega)
          · rw [upN_n (by omega)]; exact o _ (by omega) (by omega)
          · rw [upN_n (by omega)]; exact o _ (by omega) (by omega)
          · rw [upN_n (by omega), o 0 (by omega) (by omega)] at hg
            rw [upN_n (by omega), o _ (by omega) (by omega)]; exact wmk g hg
      · refine s_has1 HC.1.1 (by omega) kb (br_f (by decide) (c_bad HC (fun σ' HC' => mw1 k1 rfl rfl (br_f (by decide) (mw1 k2 rfl rfl (br_f (by decide) (m_behind HM.1 (by omega) (by omega) h1 hsm (by omega) (br_f ?_ (i_X11_crossing_31 _ _ _ _ (m_bad HM (fun τ' HM' => ⟨rfl, S, bb B 0, HC', HM', HW⟩)))))))))))
        have := q_m1 (b := bh (S 0) s) (by omega)
        intro q
        rw [show (1 : Int32) = nI 1 from rfl] at q
        rw [this] at q
        exact kb q
    · exact cw0 k2 rfl rfl (br_t rfl (c_bad HC (fun σ' HC' => mw1 k1 rfl rfl (br_f (by decide) (mw0 k2 rfl rfl (br_t rfl (i_X11_crossing_31 _ _ _ _ (m_bad HM (fun τ' HM' => ⟨rfl, S, bb B 0, HC', HM', HW⟩)))))))))
  · exact cw0 k1 rfl rfl (br_t rfl (c_bad HC (fun σ' HC' => mw0 k1 rfl rfl (br_t rfl (i_X11_crossing_31 _ _ _ _ (m_bad HM (fun τ' HM' => ⟨rfl, S, bb B 0, HC', HM', HW⟩)))))))
end O3
