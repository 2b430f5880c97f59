/-! the class's calls alone, at what may be asked -/
theorem okN {n m : Nat} (h : n < m) (hm : m < 1000) : okI (nI n) 0 ((m : Int) - 1) := by
  unfold okI
  rw [nI_toInt (by omega)]
  omega
theorem okL {n a b : Nat} (h1 : a ≤ n) (h2 : n ≤ b) (hb : b < 1000000) : okI (nI n) (a : Int) (b : Int) := by
  unfold okI
  rw [nI_toInt (by omega)]
  omega
section K1
variable {σ : St} {S : SS} {B : CB} {Q : Int32 → St → Prop}
set_option maxHeartbeats 4000000 in
set_option maxRecDepth 100000 in
theorem k_street (HC : CR σ S B) (HW : WF S) (hq : ∀ σ', CR σ' (sA S (zA (S 0))) B → WF (sA S (zA (S 0))) → Q (nI (S 0 0)) σ') : V_X10_street σ Q := by
  unfold V_X10_street B_X10_street_e
  refine c_empty HC (A' := zA (S 0)) (fun i hi => zA_lo hi) (fun σ1 HC1 _ => ?_)
  rw [show σ 2 8 = nI (S 0 0) from HC.1.1.1]
  exact hq _ HC1 (HW.sA (WFA_z HW.1.sm))
set_option maxHeartbeats 4000000 in
set_option maxRecDepth 100000 in
theorem k_wet (HC : CR σ S B) (HW : WF S) {v w : Nat} (hv : v ≤ 5) (hw : w ≤ 4) (hq : ∀ σ', CR σ' (sA S (upN (upN (S 0) (16 + v) w) 5 0)) B → WF (sA S (upN (upN (S 0) (16 + v) w) 5 0)) → Q (nI (S 0 (16 + v))) σ') : V_X10_wet (nI v) (nI w) σ Q := by
  unfold V_X10_wet B_X10_wet_e
  refine cw1 (okL (a := 0) (b := 5) (by omega) hv (by omega)) rfl rfl (br_f (by decide) ?_)
  have HC0 := HC
  obtain ⟨⟨hst, hpa, hse, hno, hma⟩, c2, c3, c4, c5⟩ := HC0
  have ein : vp_in (nI v) 6 := vp_in_nI (by omega) (by omega)
  refine cw1 (okL (a := 0) (b := 4) (by omega) hw (by omega)) rfl rfl (fr_t (by decide) ⟨ein, ein, fun s1 e1 s2 e2 => ?_⟩)
  rw [nI_clamp (by omega)] at e1
  rw [nI_clamp (by omega)]
  subst e1; subst e2
  obtain ⟨wB, w0, w15, w2, w3, w4, w5, wse, wno, wma, wpa, wmk⟩ := HW.1
  obtain ⟨b0, b1, b14, b15, bw, bg, bc, bd, bs⟩ := wB
  have hst2 : σ 3 v = nI (S 0 (16 + v)) := hst.2.2.2.2.1 v (by omega)
  have key := hq (us (us σ 3 (upd (σ 3) v (nI w))) 11 (upd ((us σ 3 (upd (σ 3) v (nI w))) 11) 1 0)) (HC.sc (A' := upN (upN (S 0) (16 + v) w) 5 0) (fun q hq => by rw [us_ne (by omega), us_ne (by omega)]) ?_ ?_) (HW.sA ?_)
  · rw [hst2]
    exact key
  · refine ⟨?_, PaR.z (by rw [us_same, pk_us]; rfl) upN_s, hse.c (by rw [us_ne (by omega), us_ne (by omega)]) (by rw [us_ne (by omega), us_ne (by omega)]) w2 (by rw [upN_n (by omega), upN_n (by omega)]) (fun i hi _ => by rw [upN_n (by omega), upN_n (by omega)]), hno.c (by rw [us_ne (by omega), us_ne (by omega)]) (by rw [us_ne (by omega), us_ne (by omega)]) w3 (by rw [upN_n (by omega), upN_n (by omega)]) (fun i hi _ => by rw [upN_n (by omega), upN_n (by omega)]), hma.c (by rw [us_ne (by omega), us_ne (by omega)]) (by rw [us_ne (by omega), us_ne (by omega)]) w4 (by rw [upN_n (by omega), upN_n (by omega)]) (fun i hi _ => by rw [upN_n (by omega), upN_n (by omega)])⟩
    obtain ⟨r0, r1, r14, r15, rw_, rk, rm, rs, rg, rb, rh⟩ := hst
    have eb : ∀ s, bh (upN (upN (S 0) (16 + v) w) 5 0) s = bh (S 0) s := fun s => by
      unfold bh
      rw [upN_n (j := 1) (by omega), upN_n (j := 1) (by omega), upN_n (j := 40) (by omega), upN_n (j := 40) (by omega), upN_n (j := 41) (by omega), upN_n (j := 41) (by omega), upN_n (j := 42) (by omega), upN_n (j := 42) (by omega)]
    unfold StR
    simp (disch := omega) only [us_same, us_ne, upN_n]
    refine ⟨r0, r1, r14, r15, fun i hi => ?_, fun j hj => ?_, fun j hj h7 => ?_, fun j hj => ?_, fun k hk => ?_, fun k hk => ?_, fun s hs => by rw [eb]; exact rh s hs⟩
    · unfold upd
      by_cases e : i = v
      · subst e; rw [if_pos rfl, upN_s]
      · rw [if_neg e, upN_n (by omega)]; exact rw_ i hi
    · exact rk j hj
    · exact rm j hj h7
    · rw [upN_n (by omega)]; exact rs j hj
    · exact rg k hk
    · exact rb k hk
  · unfold RowC at *
    simp (disch := omega) only [us_same, us_ne]
    exact c4
  · have u : ∀ i, i ≠ 16 + v → i ≠ 5 → upN (upN (S 0) (16 + v) w) 5 0 i = S 0 i := fun i h1 h2 => by rw [upN_n h2, upN_n h1]
    have u5 : upN (upN (S 0) (16 + v) w) 5 0 5 = 0 := upN_s
    unfold WFA Bd
    rw [u5, u 0 (by omega) (by omega), u 1 (by omega) (by omega), u 2 (by omega) (by omega), u 3 (by omega) (by omega), u 4 (by omega) (by omega), u 14 (by omega) (by omega), u 15 (by omega) (by omega)]
    refine ⟨⟨b0, b1, b14, b15, fun i hi => ?_, fun g hg => ?_, fun k hk => ?_, fun j k hj hk => ?_, fun i => ?_⟩, w0, w15, w2, w3, w4, by omega, fun i hi => ?_, fun i hi => ?_, fun i hi => ?_, fun r hr => absurd hr (by omega), fun g hg => ?_⟩
    · rw [upN_n (by omega)]
      by_cases e : i = v
      · rw [e, upN_s]; exact hw
      · rw [upN_n (by omega)]; exact bw i hi
    · rw [u _ (by omega) (by omega), u _ (by omega) (by omega)]; exact bg g hg
    · rw [u _ (by omega) (by omega), u _ (by omega) (by omega)]; exact bc k hk
    · rw [u _ (by omega) (by omega), u _ (by omega) (by omega)]; exact bd j k hj hk
    · unfold upN
      split
      · omega
      · split
        · omega
        · exact bs i
    · rw [u _ (by omega) (by omega), u _ (by omega) (by omega)]; exact wse i hi
    · rw [u _ (by omega) (by omega), u _ (by omega) (by omega)]; exact wno i hi
    · rw [u _ (by omega) (by omega), u _ (by omega) (by omega)]; exact wma i hi
    · rw [u _ (by omega) (by omega)]; exact wmk g hg
set_option maxHeartbeats 4000000 in
set_option maxRecDepth 100000 in
theorem k_glove (HC : CR σ S B) (HW : WF S) {k m s : Nat} (hk : k ≤ 5) (hm1 : 1 ≤ m) (hm : m ≤ 9) (hs : s ≤ 23) (h6 : S 0 0 < 7) (hq : ∀ σ', CR σ' (sA S (upN (ag (S 0) k m s) 5 0)) B → WF (sA S (upN (ag (S 0) k m s) 5 0)) → Q (nI (S 0 0)) σ') : V_X10_glove (nI k) (nI m) (nI s) σ Q := by
  unfold V_X10_glove B_X10_glove_e V_X10_isKind B_X10_isKind_e
  refine cw1 (okL (a := 0) (b := 5) (by omega) hk (by omega)) rfl rfl (br_f (by decide) ?_)
  refine cw1 (okL (a := 1) (b := 9) hm1 hm (by omega)) rfl rfl (br_f (by decide) ?_)
  refine cw1 (okL (a := 0) (b := 23) (by omega) hs (by omega)) rfl rfl (fr_t (by decide) ?_)
  obtain ⟨wB, w0, w15, w2, w3, w4, w5, wse, wno, wma, wpa, wmk⟩ := HW.1
  rw [show σ 2 8 = nI (S 0 0) from HC.1.1.1]
  refine br_t (by rw [show (7 : Int32) = nI 7 from rfl, q_lt (by omega) (by omega)]; omega) (fun s1 e1 => ?_)
  subst e1
  have H1 : StR (us σ 11 (upd (σ 11) 1 0)) 2 (S 0) := HC.1.1.congr (fun q _ _ => us_ne (by omega))
  refine s_addGlove H1 w0 (fun σ2 H2 hf2 => ?_)
  have o : ∀ i, i ≠ 0 → (i < 6 ∨ 14 ≤ i) → (i < 22 ∨ 37 ≤ i) → ag (S 0) k m s i = S 0 i := fun i h1 h2 h3 => ag_o h1 (by omega) (by omega) (by omega)
  have hB2 := Bd_ag (k := k) (m := m) (s := s) wB w0 hk hm hs
  have hBf : Bd (upN (ag (S 0) k m s) 5 0) := by
    obtain ⟨b0, b1, b14, b15, bw, bg, bc, bd, bs⟩ := hB2
    unfold Bd
    rw [upN_n (j := 0) (by omega), upN_n (j := 1) (by omega), upN_n (j := 14) (by omega), upN_n (j := 15) (by omega)]
    refine ⟨b0, b1, b14, b15, fun i hi => by rw [upN_n (by omega)]; exact bw i hi, fun g hg => by rw [upN_n (by omega), upN_n (by omega)]; exact bg g hg, fun j hj => by rw [upN_n (by omega), upN_n (by omega)]; exact bc j hj, fun i j hi hj => by rw [upN_n (by omega), upN_n (by omega)]; exact bd i j hi hj, fun i => ?_⟩
    unfold upN
    split
    · omega
    · exact bs i
  refine hq _ (HC.street HW.1 (fun q hq => ?_) (H2.cA (fun i h1 h2 => upN_n (by omega)) (by rw [ag_0]; omega) (by rw [o 1 (by omega) (by omega) (by omega)]; exact wB.2.1)) ?_ upN_s (by rw [upN_n (by omega)]; exact o 2 (by omega) (by omega) (by omega)) (by rw [upN_n (by omega)]; exact o 3 (by omega) (by omega) (by omega)) (by rw [upN_n (by omega)]; exact o 4 (by omega) (by omega) (by omega)) (fun i h1 h2 => by rw [upN_n (by omega)]; exact o i (by omega) (by omega) (by omega))) (HW.sA (HW.1.upd hBf ?_ ?_ ⟨?_, fun i h1 h2 => ?_⟩ ⟨?_, fun i h1 h2 => ?_⟩ ⟨?_, fun i h1 h2 => ?_⟩ (Or.inl upN_s) (fun g hg => ?_)))
  · rw [hf2 q (by omega), us_ne (by omega)]
  · rw [hf2 11 (by omega), us_same, pk_us]; rfl
  · rw [upN_n (by omega), ag_0]; omega
  · rw [upN_n (by omega), o 15 (by omega) (by omega) (by omega)]; exact w15
  · rw [upN_n (by omega)]; exact o _ (by omega) (by omega) (by omega)
  · rw [upN_n (by omega)]; exact o _ (by omega) (by omega) (by omega)
  · rw [upN_n (by omega)]; exact o _ (by omega) (by omega) (by omega)
  · rw [upN_n (by omega)]; exact o _ (by omega) (by omega) (by omega)
  · rw [upN_n (by omega)]; exact o _ (by omega) (by omega) (by omega)
  · rw [upN_n (by omega)]; exact o _ (by omega) (by omega) (by omega)
  · rw [upN_n (by omega), ag_0] at hg
    rw [upN_n (by omega)]
    by_cases e : g = S 0 0
    · subst e; rw [ag_mk (by omega)]; exact hm
    · rw [ag_o (by omega) (by omega) (by omega) (by omega)]; exact wmk g (by omega)
set_option maxHeartbeats 4000000 in
set_option maxRecDepth 100000 in
theorem k_crossing (HC : CR σ S B) (HW : WF S) {k s : Nat} (hk : k ≤ 5) (hs : s ≤ 22) (kb : bh (S 0) s = 0) (h3' : S 0 1 < 3) (hq : ∀ σ', CR σ' (sA S (upN (ac (S 0) k s) 5 0)) B → WF (sA S (upN (ac (S 0) k s) 5 0)) → Q (nI (S 0 1)) σ') : V_X10_crossing (nI k) (nI s) σ Q := by
  unfold V_X10_crossing B_X10_crossing_e V_X10_isKind B_X10_isKind_e
  obtain ⟨wB, w0, w15, w2, w3, w4, w5, wse, wno, wma, wpa, wmk⟩ := HW.1
  have hsm : Sm (S 0) := wB.2.2.2.2.2.2.2.2
  have h1 := wB.2.1
  refine cw1 (okL (a := 0) (b := 5) (by omega) hk (by omega)) rfl rfl (br_f (by decide) ?_)
  refine cw1 (okL (a := 0) (b := 22) (by omega) hs (by omega)) rfl rfl (br_f (by decide) ?_)
  have h3 := bh_sm (a := S 0) (s := s)
  refine s_has0 HC.1.1 (by omega) kb (br_t rfl ?_)
  rw [show σ 2 9 = nI (S 0 1) from HC.1.1.2.1]
  refine br_t (by rw [show (3 : Int32) = nI 3 from rfl, q_lt (by omega) (by omega)]; omega) (fun s1 e1 => ?_)
  subst e1
  have H1 : StR (us σ 11 (upd (σ 11) 1 0)) 2 (S 0) := HC.1.1.congr (fun q _ _ => us_ne (by omega))
  refine s_addCrossing H1 wB (by omega) hk hs kb (fun σ2 H2 hf2 => ?_)
  have o : ∀ i, i ≠ 1 → (i < 37 ∨ 43 ≤ i) → ac (S 0) k s i = S 0 i := fun i h1 h2 => ac_o h1 (by omega) (by omega)
  have hB2 := Bd_ac (k := k) (s := s) wB (by omega) hk hs kb
  have hBf : Bd (upN (ac (S 0) k s) 5 0) := by
    obtain ⟨b0, b1, b14, b15, bw, bg, bc, bd, bs⟩ := hB2
    unfold Bd
    rw [upN_n (j := 0) (by omega), upN_n (j := 1) (by omega), upN_n (j := 14) (by omega), upN_n (j := 15) (by omega)]
    refine ⟨b0, b1, b14, b15, fun i hi => by rw [upN_n (by omega)]; exact bw i hi, fun g hg => by rw [upN_n (by omega), upN_n (by omega)]; exact bg g hg, fun j hj => by rw [upN_n (by omega), upN_n (by omega)]; exact bc j hj, fun i j hi hj => by rw [upN_n (by omega), upN_n (by omega)]; exact bd i j hi hj, fun i => ?_⟩
    unfold upN
    split
    · omega
    · exact bs i
  refine hq _ (HC.street HW.1 (fun q hq => ?_) (H2.cA (fun i h1 h2 => upN_n (by omega)) (by rw [o 0 (by omega) (by omega)]; exact w0) (by rw [ac_1]; omega)) ?_ upN_s (by rw [upN_n (by omega)]; exact o 2 (by omega) (by omega)) (by rw [upN_n (by omega)]; exact o 3 (by omega) (by omega)) (by rw [upN_n (by omega)]; exact o 4 (by omega) (by omega)) (fun i h1 h2 => by rw [upN_n (by omega)]; exact o i (by omega) (by omega))) (HW.sA (HW.1.upd hBf ?_ ?_ ⟨?_, fun i h1 h2 => ?_⟩ ⟨?_, fun i h1 h2 => ?_⟩ ⟨?_, fun i h1 h2 => ?_⟩ (Or.inl upN_s) (fun g hg => ?_)))
  · rw [hf2 q (by omega), us_ne (by omega)]
  · rw [hf2 11 (by omega), us_same, pk_us]; rfl
  · rw [upN_n (by omega), o 0 (by omega) (by omega)]; exact w0
  · rw [upN_n (by omega), o 15 (by omega) (by omega)]; exact w15
  · rw [upN_n (by omega)]; exact o _ (by omega) (by omega)
  · rw [upN_n (by omega)]; exact o _ (by omega) (by omega)
  · rw [upN_n (by omega)]; exact o _ (by omega) (by omega)
  · rw [upN_n (by omega)]; exact o _ (by omega) (by omega)
  · rw [upN_n (by omega)]; exact o _ (by omega) (by omega)
  · rw [upN_n (by omega)]; exact o _ (by omega) (by omega)
  · rw [upN_n (by omega), o 0 (by omega) (by omega)] at hg
    rw [upN_n (by omega), o _ (by omega) (by omega)]; exact wmk g hg
set_option maxHeartbeats 4000000 in
set_option maxRecDepth 100000 in
theorem k_of2 (HC : CR σ S B) (HW : WF S) {g : Nat} (hg : g < S 0 0) (hq : Q (nI (S 0 (6 + g))) σ) : V_X10_of (nI g) 2 σ Q := by
  unfold V_X10_of B_X10_of_e
  obtain ⟨wB, w0, -⟩ := HW.1
  refine c_isG1 HC w0 (okN hg (by omega)) (fr_t (by decide) ?_)
  have ein : vp_in (nI g) 8 := vp_in_nI (by omega) (by omega)
  rw [nI_clamp (by omega), show σ 6 g = nI (S 0 (6 + g)) from HC.1.1.2.2.2.2.2.2.2.1 g hg]
  exact br_f (by decide) (br_f (by decide) (br_t rfl ⟨ein, hq⟩))
set_option maxHeartbeats 4000000 in
set_option maxRecDepth 100000 in
theorem k_of3 (HC : CR σ S B) (HW : WF S) {g : Nat} (hg : g < S 0 0) (hq : Q (nI (if bh (S 0) (S 0 (6 + g)) = 0 then 0 else 1)) σ) : V_X10_of (nI g) 3 σ Q := by
  unfold V_X10_of B_X10_of_e
  obtain ⟨wB, w0, -⟩ := HW.1
  have hsm := HW.1.sm
  have hgl := wB.2.2.2.2.2.1 g hg
  refine c_isG1 HC w0 (okN hg (by omega)) (fr_t (by decide) ?_)
  refine br_f (by decide) (br_f (by decide) (br_f (by decide) (br_t rfl (s_waits HC.1.1 hsm hg (by omega) hgl.2 (fun z => br_t rfl ?_) (fun z => br_f (by decide) ?_)))))
  · rw [if_pos z] at hq; exact hq
  · rw [if_neg z] at hq; exact hq
set_option maxHeartbeats 4000000 in
set_option maxRecDepth 100000 in
theorem k_of4 (HC : CR σ S B) (HW : WF S) {g : Nat} (hg : g < S 0 0) (hq : Q (nI (gon (S 0) g)) σ) : V_X10_of (nI g) 4 σ Q := by
  unfold V_X10_of B_X10_of_e
  obtain ⟨wB, w0, -⟩ := HW.1
  have hsm := HW.1.sm
  have hgl := wB.2.2.2.2.2.1 g hg
  refine c_isG1 HC w0 (okN hg (by omega)) (fr_t (by decide) ?_)
  exact br_f (by decide) (br_f (by decide) (br_f (by decide) (br_f (by decide) (br_t rfl (s_goesNow HC.1.1 hsm (by omega) hg hgl.1 wB.2.2.2.2.1 hq)))))
set_option maxHeartbeats 4000000 in
set_option maxRecDepth 100000 in
theorem k_ab1 (HC : CR σ S B) (HW : WF S) {k : Nat} (hk : k < S 0 1) (hq : Q (nI (S 0 (40 + k))) σ) : V_X10_about (nI k) 1 σ Q := by
  unfold V_X10_about B_X10_about_e
  have h3 := HW.1.1.2.1
  refine c_isC1 HC h3 (okN hk (by omega)) (fr_t (by decide) ?_)
  have ein : vp_in (nI k) 3 := vp_in_nI (by omega) (by omega)
  rw [nI_clamp (by omega), show σ 8 k = nI (S 0 (40 + k)) from HC.1.1.2.2.2.2.2.2.2.2.2.1 k hk]
  exact br_f (by decide) (br_t rfl ⟨ein, hq⟩)
set_option maxHeartbeats 4000000 in
set_option maxRecDepth 100000 in
theorem k_ab2 (HC : CR σ S B) (HW : WF S) {k : Nat} (hk : k < S 0 1) (hq : Q (nI (S 0 14 / 2 ^ k % 2)) σ) : V_X10_about (nI k) 2 σ Q := by
  unfold V_X10_about B_X10_about_e
  have h3 := HW.1.1.2.1
  refine c_isC1 HC h3 (okN hk (by omega)) (fr_t (by decide) ?_)
  exact br_f (by decide) (br_f (by decide) (br_t rfl (v_shutBit (HW.1.sm 14) (by omega) HC.1.1.2.2.1 hq)))
set_option maxHeartbeats 4000000 in
set_option maxRecDepth 100000 in
theorem k_ab3 (HC : CR σ S B) (HW : WF S) {k : Nat} (hk : k < S 0 1) (hq : Q (nI (cnt (S 0) (S 0 (40 + k)) (S 0 0))) σ) : V_X10_about (nI k) 3 σ Q := by
  unfold V_X10_about B_X10_about_e
  have h3 := HW.1.1.2.1
  have h0 := HW.1.2.1
  refine c_isC1 HC h3 (okN hk (by omega)) (fr_t (by decide) ?_)
  exact br_f (by decide) (br_f (by decide) (br_f (by decide) (br_t rfl (s_waitingBehind HC.1.1 HW.1.sm (by omega) h3 hk hq))))
set_option maxHeartbeats 4000000 in
set_option maxRecDepth 100000 in
theorem k_ab4 (HC : CR σ S B) (HW : WF S) {k : Nat} (hk : k < S 0 1) (hq : Q (nI (if cnt (S 0) (S 0 (40 + k)) (S 0 0) = 0 then 0 else lA (S 0 (37 + k)) (S 0 15) (cnt (S 0) (S 0 (40 + k)) (S 0 0)))) σ) : V_X10_about (nI k) 4 σ Q := by
  unfold V_X10_about B_X10_about_e
  have h3 := HW.1.1.2.1
  refine c_isC1 HC h3 (okN hk (by omega)) (fr_t (by decide) ?_)
  exact br_f (by decide) (br_f (by decide) (br_f (by decide) (br_f (by decide) (br_t rfl (s_letsNow HC.1.1 HW.1.1 hk hq)))))
set_option maxHeartbeats 4000000 in
set_option maxRecDepth 100000 in
theorem k_count (HC : CR σ S B) (HW : WF S) {w : Nat} (hw : w ≤ 10) (hq : Q (nI (cN S w)) σ) : V_X10_count (nI w) σ Q := by
  unfold V_X10_count B_X10_count_e
  exact cw1 (okL (a := 0) (b := 10) (by omega) hw (by omega)) rfl rfl (br_f (by decide) (c_counted HC HW hw hq))
set_option maxHeartbeats 4000000 in
set_option maxRecDepth 100000 in
theorem k_where (HC : CR σ S B) (HW : WF S) {g m : Nat} (hg : g < S 0 0) (hm : m ≤ 60) (hq : ∀ σ', (∀ q, q < 55 ∨ q = 70 ∨ q = 71 → σ' q = σ q) → Q (nI (it m (S 0) (6 + g))) σ') : V_X10_where (nI g) (nI m) σ Q := by
  unfold V_X10_where B_X10_where_e
  obtain ⟨wB, w0, w15, -⟩ := id HW.1
  have h3 := wB.2.1
  refine c_isG1 HC w0 (okN hg (by omega)) (br_f (by decide) ?_)
  refine cw1 (okL (a := 0) (b := 60) (by omega) hm (by omega)) rfl rfl (fr_t (by decide) ?_)
  unfold V_X0_spikeThen B_X0_spikeThen_e
  refine s_copy HC.1.1 w0 h3 (by omega) (fun s1 hs1 f1 => s_pass hs1 wB (by omega) (fun s2 hs2 f2 => ⟨vp_in_nI (by omega) (by omega), ?_⟩))
  have e0 : it m (S 0) 0 = S 0 0 := it_lo (by omega) m
  rw [nI_clamp (by omega), show s2 60 g = nI (it m (S 0) (6 + g)) from hs2.2.2.2.2.2.2.2.1 g (by omega)]
  exact hq _ (fun q hq => by rw [f2 q (by omega), f1 q (by omega)])
set_option maxHeartbeats 4000000 in
set_option maxRecDepth 100000 in
theorem k_when (HC : CR σ S B) (HW : WF S) {g : Nat} (hg : g < S 0 0) (hq : ∀ σ', (∀ q, q < 55 ∨ q = 70 ∨ q = 71 → σ' q = σ q) → Q (wn (fun x => decide (it x (S 0) (6 + g) = 23)) 61 0) σ') : V_X10_when (nI g) σ Q := by
  unfold V_X10_when B_X10_when_e
  have w0 := HW.1.2.1
  have z : ¬ nI g = -1 := fun e => by
    have : (nI g).toInt = (-1 : Int32).toInt := by rw [e]
    rw [nI_toInt (by omega), show (-1 : Int32).toInt = -1 from by decide] at this
    omega
  refine fr_t z (c_isG1 HC w0 (okN hg (by omega)) (br_f (by decide) ?_))
  exact c_till HC.1.1 HW.1 hg (fun σ' f => hq _ (fun q hq => f q (by omega)))
set_option maxHeartbeats 4000000 in
set_option maxRecDepth 100000 in
theorem k_whenAll (HC : CR σ S B) (HW : WF S) (hq : ∀ σ', (∀ q, q < 55 ∨ q = 70 ∨ q = 71 → σ' q = σ q) → Q (wn (fun x => decide (cnt (it x (S 0)) 23 (S 0 0) = S 0 0)) 61 0) σ') : V_X10_when (-1) σ Q := by
  unfold V_X10_when B_X10_when_e
  exact fr_f rfl (c_tillAll HC.1.1 HW.1 (fun σ' f => hq _ (fun q hq => f q (by omega))))
end K1
