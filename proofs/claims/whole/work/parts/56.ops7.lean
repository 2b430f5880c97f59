section O7
variable {σ τ : St} {a1 a2 a3 a4 : Int32}
set_option maxHeartbeats 4000000 in
set_option maxRecDepth 100000 in
theorem s_add {q n m : Nat} {b1 b2 b3 b4 : Int32} (e3 : σ q 3 = nI n) (e1 : σ q 1 = nI m) (hn : n ≤ m) (hm : m ≤ 6) {Q : Int32 → St → Prop} (hf : n = m → Q 0 σ) (hq : n < m → ∀ σ', (∀ p, p ≠ q → p ≠ q + 1 → σ' p = σ p) → (∀ j, j ≠ 3 → σ' q j = σ q j) → σ' q 3 = nI (n + 1) → (∀ i, i ≠ 4 * n → i ≠ 4 * n + 1 → i ≠ 4 * n + 2 → i ≠ 4 * n + 3 → σ' (q + 1) i = σ (q + 1) i) → σ' (q + 1) (4 * n) = b1 → σ' (q + 1) (4 * n + 1) = b2 → σ' (q + 1) (4 * n + 2) = b3 → σ' (q + 1) (4 * n + 3) = b4 → Q 1 σ') : V_X6_add q b1 b2 b3 b4 σ Q := by
  unfold V_X6_add B_X6_add_e
  rw [e3, e1]
  refine ⟨fun c => ?_, fun c => ?_⟩
  · rw [q_lt (by omega) (by omega)] at c
    have em : nI n * 4 = nI (n * 4) := pk_mul n 4
    have i0 : vp_in (nI n * 4) 24 := by rw [em]; exact vp_in_nI (by omega) (by omega)
    have i1 : vp_in (nI n * 4 + 1) 24 := by rw [em, show (1 : Int32) = nI 1 from rfl, nI_add]; exact vp_in_nI (by omega) (by omega)
    have i2 : vp_in (nI n * 4 + 2) 24 := by rw [em, show (2 : Int32) = nI 2 from rfl, nI_add]; exact vp_in_nI (by omega) (by omega)
    have i3 : vp_in (nI n * 4 + 3) 24 := by rw [em, show (3 : Int32) = nI 3 from rfl, nI_add]; exact vp_in_nI (by omega) (by omega)
    have c0 : (nI n * 4).toNatClampNeg = 4 * n := by rw [em, nI_clamp (by omega)]; omega
    have c1 : (nI n * 4 + 1).toNatClampNeg = 4 * n + 1 := by rw [em, show (1 : Int32) = nI 1 from rfl, nI_add, nI_clamp (by omega)]; omega
    have c2 : (nI n * 4 + 2).toNatClampNeg = 4 * n + 2 := by rw [em, show (2 : Int32) = nI 2 from rfl, nI_add, nI_clamp (by omega)]; omega
    have c3 : (nI n * 4 + 3).toNatClampNeg = 4 * n + 3 := by rw [em, show (3 : Int32) = nI 3 from rfl, nI_add, nI_clamp (by omega)]; omega
    rw [c0, c1, c2, c3]
    refine ⟨i0, fun s1 f1 => ⟨i1, fun s2 f2 => ⟨i2, fun s3 f3 => ⟨i3, fun s4 f4 => fun s5 f5 => ?_⟩⟩⟩⟩
    subst f1; subst f2; subst f3; subst f4; subst f5
    simp (disch := omega) only [us_us, us_same, us_ne]
    refine hq c _ (fun p h1 h2 => by rw [us_ne h1, us_ne h2]) (fun j hj => by rw [us_same, pk_un hj]) (by rw [us_same, pk_us, e3, nI_1]) (fun i h0 h1 h2 h3 => ?_) ?_ ?_ ?_ ?_
    all_goals simp (disch := omega) only [us_same, us_ne, pk_us, pk_un]
  · rw [q_lt (by omega) (by omega)] at c
    exact hf (by omega)
set_option maxHeartbeats 4000000 in
set_option maxRecDepth 100000 in
theorem p_seen (hJ : J σ τ) : V_X10_seen a1 a2 σ (fun r σ' => V_X11_seen a1 a2 τ (fun r' τ' => r = r' ∧ J σ' τ')) := by
  obtain ⟨S, B, HC, HM, HW⟩ := hJ
  unfold V_X10_seen B_X10_seen_e V_X11_seen B_X11_seen_e
  obtain ⟨wB, w0, w15, w2, w3, w4, w5, wse, wno, wma, wpa, wmk⟩ := HW.1
  have hsm : Sm (S 0) := wB.2.2.2.2.2.2.2.2
  have hrc := HC.2.2.2.1
  by_cases k1 : okI a1 0 60
  · refine cw1 k1 rfl rfl (br_f (by decide) ?_)
    by_cases k2 : okI a2 0 23
    · refine cw1 k2 rfl rfl (fr_t (by decide) ?_)
      obtain ⟨m, -, hm, rfl⟩ := okI_ex (a := 0) (b := 60) k1
      obtain ⟨s, -, hs, rfl⟩ := okI_ex (a := 0) (b := 23) k2
      obtain ⟨hst, hpa, hse, hno, hma⟩ := HC.1
      refine s_add hse.1 hrc.1 w2 (by omega) (fun e => ?_) (fun hlt σ1 g1 g2 g3 g4 g5 g6 g7 g8 => ?_)
      · unfold V_X10_told B_X10_told_e
        refine br_t rfl (c_full HC (fun σ' HC' => mw1 k1 rfl rfl (br_f (by decide) (mw1 k2 rfl rfl (fr_t (by decide) ?_)))))
        rw [show τ 1 2 = nI (S 0 2) from HM.1 2 (by omega), e]
        exact fr_f rfl (m_full HM (fun τ' HM' => ⟨rfl, S, bb B 2, HC', HM', HW⟩))
      · unfold V_X10_told B_X10_told_e
        refine br_f (by decide) (mw1 k1 rfl rfl (br_f (by decide) (mw1 k2 rfl rfl (fr_t (by decide) ?_))))
        rw [show τ 1 2 = nI (S 0 2) from HM.1 2 (by omega)]
        refine fr_t (by rw [show (5 : Int32) = nI 5 from rfl, q_eq (by omega) (by omega)]; omega) ?_
        simp (disch := omega) only [q_m1, q_m1n, q_m1a, q_eq, q_le, q_lt, nI_add, pk_sub, pk_mul, pk_div, pk_rem, nI_clamp, q_in, zl0, zl1, zl2, zl3, zl4, zl5, zl6, zl7, zl8, zl9, zl10, zl11, zl12, zl13, zl14, zl15, zl16, zl17, zl18, zl19, zl20, zl21, zl22, zl23, zl24, zl25, zl26, zl27, zl28, zl29, zl30, zl31, zl32, zl36, zl37, zl38, zl40, zl42, zl43, zl44, zl48, zl53, zl54, zl57, zl59, zl60, zl61, zl63, zl64, zl70, zl71, zl72, zl77, zl78, zl90, zl97, zl98, zl99, zl100, zl101, zl102, zl106, zl111, zl122, zl127, zl128, zl150, zl181, zl256, zl362, zl9999, zl999999, zl1000000]
        refine ⟨by omega, fun s3 f3 => ?_⟩
        subst f3
        rw [us_same, pk_un (by omega), HM.1 2 (by omega)]
        simp (disch := omega) only [q_m1, q_m1n, q_m1a, q_eq, q_le, q_lt, nI_add, pk_sub, pk_mul, pk_div, pk_rem, nI_clamp, q_in, zl0, zl1, zl2, zl3, zl4, zl5, zl6, zl7, zl8, zl9, zl10, zl11, zl12, zl13, zl14, zl15, zl16, zl17, zl18, zl19, zl20, zl21, zl22, zl23, zl24, zl25, zl26, zl27, zl28, zl29, zl30, zl31, zl32, zl36, zl37, zl38, zl40, zl42, zl43, zl44, zl48, zl53, zl54, zl57, zl59, zl60, zl61, zl63, zl64, zl70, zl71, zl72, zl77, zl78, zl90, zl97, zl98, zl99, zl100, zl101, zl102, zl106, zl111, zl122, zl127, zl128, zl150, zl181, zl256, zl362, zl9999, zl999999, zl1000000]
        refine ⟨by omega, fun s4 f4 s5 f5 => ?_⟩
        subst f4; subst f5
        simp (disch := omega) only [us_same, us_us, pk_us, pk_un]
        rw [HM.1 2 (by omega)]
        have HM2 := ((HM.up (i := 43 + 2 * S 0 2) (v := m)).up (i := 43 + 2 * S 0 2 + 1) (v := s)).up (i := 2) (v := S 0 2 + 1)
        rw [sA_sA, sA_sA, sA_0, sA_0] at HM2
        simp only [us_same, us_us] at HM2
        have o : ∀ i, i ≠ 2 → i ≠ 43 + 2 * S 0 2 → i ≠ 43 + 2 * S 0 2 + 1 → upN (upN (upN (S 0) (43 + 2 * S 0 2) m) (43 + 2 * S 0 2 + 1) s) 2 (S 0 2 + 1) i = S 0 i := fun i h1 h2 h3 => by rw [upN_n h1, upN_n h3, upN_n h2]
        have o2 : upN (upN (upN (S 0) (43 + 2 * S 0 2) m) (43 + 2 * S 0 2 + 1) s) 2 (S 0 2 + 1) 2 = S 0 2 + 1 := upN_s
        have oa : upN (upN (upN (S 0) (43 + 2 * S 0 2) m) (43 + 2 * S 0 2 + 1) s) 2 (S 0 2 + 1) (43 + 2 * S 0 2) = m := by rw [upN_n (by omega), upN_n (by omega), upN_s]
        have ob : upN (upN (upN (S 0) (43 + 2 * S 0 2) m) (43 + 2 * S 0 2 + 1) s) 2 (S 0 2 + 1) (43 + 2 * S 0 2 + 1) = s := by rw [upN_n (by omega), upN_s]
        refine ⟨by rw [g3]; exact (nI_add _ 1).symm, _, B, HC.sc (A' := upN (upN (upN (S 0) (43 + 2 * S 0 2) m) (43 + 2 * S 0 2 + 1) s) 2 (S 0 2 + 1)) (fun q hq => g1 q (by omega) (by omega)) ?_ (hrc.c (fun q hq => ?_)), ?_, HW.sA (HW.1.tail (fun i h1 h2 => o i (by omega) (by omega) (by omega)) (by rw [o2]; omega) (by rw [o 3 (by omega) (by omega) (by omega)]; exact w3) (by rw [o 4 (by omega) (by omega) (by omega)]; exact w4) (fun i hi => ?_) (fun i hi => ?_) (fun i hi => ?_) (fun i => ?_))⟩
        · refine SceR.tail HC.1 w0 wB.2.1 (fun q h1 h2 => g1 q (by omega) (by omega)) (fun i h1 h2 => o i (by omega) (by omega) (by omega)) ⟨by rw [o2]; exact g3, fun i hi => ?_⟩ (hno.c (g1 _ (by omega) (by omega)) (g1 _ (by omega) (by omega)) w3 (o 3 (by omega) (by omega) (by omega)) (fun i h1 h2 => o i (by omega) (by omega) (by omega))) (hma.c (g1 _ (by omega) (by omega)) (g1 _ (by omega) (by omega)) w4 (o 4 (by omega) (by omega) (by omega)) (fun i h1 h2 => o i (by omega) (by omega) (by omega)))
          rw [o2] at hi
          by_cases z : i = S 0 2
          · subst z
            rw [oa, ob]
            exact ⟨g5, g6⟩
          · rw [o _ (by omega) (by omega) (by omega), o _ (by omega) (by omega) (by omega), show (1 + 12 + 1 : Nat) = 13 + 1 from rfl, g4 (4 * i) (by omega) (by omega) (by omega) (by omega), g4 (4 * i + 1) (by omega) (by omega) (by omega) (by omega)]
            exact hse.2 i (by omega)
        · by_cases z : q = 13
          · subst z; exact ⟨g2 1 (by omega), g2 2 (by omega)⟩
          · rw [g1 q z (by omega)]; exact ⟨rfl, rfl⟩
        · rw [show nI (S 0 2) + nI 1 = nI (S 0 2 + 1) from nI_add _ _]; exact HM2
        · rw [o2] at hi
          by_cases z : i = S 0 2
          · subst z; rw [oa, ob]; exact ⟨hm, hs⟩
          · rw [o _ (by omega) (by omega) (by omega), o _ (by omega) (by omega) (by omega)]; exact wse i (by omega)
        · rw [o 3 (by omega) (by omega) (by omega)] at hi
          rw [o _ (by omega) (by omega) (by omega), o _ (by omega) (by omega) (by omega)]; exact wno i hi
        · rw [o 4 (by omega) (by omega) (by omega)] at hi
          rw [o _ (by omega) (by omega) (by omega), o _ (by omega) (by omega) (by omega)]; exact wma i hi
        · unfold upN
          split
          · omega
          · split
            · omega
            · split
              · omega
              · exact hsm i
    · exact cw0 k2 rfl rfl (fr_f (by decide) (c_bad HC (fun σ' HC' => mw1 k1 rfl rfl (br_f (by decide) (mw0 k2 rfl rfl (fr_f (by decide) (i_X11_seen_24 _ _ _ _ (m_bad HM (fun τ' HM' => ⟨rfl, S, bb B 0, HC', HM', HW⟩)))))))))
  · exact cw0 k1 rfl rfl (br_t rfl (c_bad HC (fun σ' HC' => mw0 k1 rfl rfl (br_t rfl (i_X11_seen_24 _ _ _ _ (m_bad HM (fun τ' HM' => ⟨rfl, S, bb B 0, HC', HM', HW⟩)))))))
end O7
