section O8
variable {σ τ : St} {a1 a2 a3 a4 : Int32}
def f4 (A : Nat → Nat) (cn b x1 x2 x3 x4 : Nat) : Nat → Nat := upN (upN (upN (upN (upN A (b + 4 * A cn) x1) (b + 4 * A cn + 1) x2) (b + 4 * A cn + 2) x3) (b + 4 * A cn + 3) x4) cn (A cn + 1)
set_option maxHeartbeats 4000000 in
set_option maxRecDepth 100000 in
theorem m_four {S : SS} {B : CB} {cn b x1 x2 x3 x4 : Nat} (HM : MR τ S B) (hb : 10 ≤ b) (hcn : cn < 6) (hn : S 0 cn ≤ 5) (hbb : b ≤ 77) {Q : St → Prop} (hq : ∀ s, MR s (sA S (f4 (S 0) cn b x1 x2 x3 x4)) B → s 1 cn = nI (S 0 cn + 1) → Q s) : V_X11_layFour (nI b + 4 * nI (S 0 cn)) (nI x1) (nI x2) (nI x3) (nI x4) τ (fun s5 => ∀ s6, s6 = us s5 1 (upd (s5 1) cn (s5 1 cn + 1)) → Q s6) := by
  unfold V_X11_layFour B_X11_layFour_e
  simp (disch := omega) only [q_m1, q_m1n, q_m1a, q_eq, q_le, q_lt, nI_add, pk_sub, pk_mul, pk_div, pk_rem, nI_clamp, q_in, zl0, zl1, zl2, zl3, zl4, zl5, zl6, zl7, zl8, zl9, zl10, zl11, zl12, zl13, zl14, zl15, zl16, zl17, zl18, zl19, zl20, zl21, zl22, zl23, zl24, zl25, zl26, zl27, zl28, zl29, zl30, zl31, zl32, zl36, zl37, zl38, zl40, zl42, zl43, zl44, zl48, zl53, zl54, zl57, zl59, zl60, zl61, zl63, zl64, zl70, zl71, zl72, zl77, zl78, zl90, zl97, zl98, zl99, zl100, zl101, zl102, zl106, zl111, zl122, zl127, zl128, zl150, zl181, zl256, zl362, zl9999, zl999999, zl1000000]
  refine ⟨by omega, fun s1 e1 => ⟨by omega, fun s2 e2 => ⟨by omega, fun s3 e3 => ⟨by omega, fun s4 e4 => fun s6 e6 => ?_⟩⟩⟩⟩
  have e4' : s4 = us τ 1 (upd (upd (upd (upd (τ 1) (b + 4 * S 0 cn) (nI x1)) (b + 4 * S 0 cn + 1) (nI x2)) (b + 4 * S 0 cn + 2) (nI x3)) (b + 4 * S 0 cn + 3) (nI x4)) := by
    subst e1; subst e2; subst e3; subst e4
    simp only [us_same, us_us]
  have ec : s4 1 cn = nI (S 0 cn) := by
    rw [e4', us_same, pk_un (by omega), pk_un (by omega), pk_un (by omega), pk_un (by omega)]
    exact HM.1 cn (by omega)
  have HM2 := ((((HM.up (i := b + 4 * S 0 cn) (v := x1)).up (i := b + 4 * S 0 cn + 1) (v := x2)).up (i := b + 4 * S 0 cn + 2) (v := x3)).up (i := b + 4 * S 0 cn + 3) (v := x4)).up (i := cn) (v := S 0 cn + 1)
  simp only [us_same, us_us, sA_sA, sA_0] at HM2
  rw [ec, show nI (S 0 cn) + nI 1 = nI (S 0 cn + 1) from nI_add _ _] at e6
  subst e6
  rw [e4', us_us, us_same]
  exact hq _ HM2 (by rw [us_same, pk_us])
set_option maxHeartbeats 4000000 in
set_option maxRecDepth 100000 in
theorem c_four {S : SS} {B : CB} {cn b q x1 x2 x3 x4 : Nat} {σ1 : St} (hc : (cn = 3 ∧ b = 53 ∧ q = 15) ∨ (cn = 4 ∧ b = 77 ∧ q = 17)) (HC : CR σ S B) (HW : WF S) (hn : S 0 cn < 6) (h2 : x2 ≤ 99) (h3 : x3 ≤ 7) (h3' : cn = 3 → x3 ≤ 4) (l1 : x1 < 2147483648) (l4 : x4 < 2147483648) (g1 : ∀ p, p ≠ q → p ≠ q + 1 → σ1 p = σ p) (g2 : ∀ j, j ≠ 3 → σ1 q j = σ q j) (g3 : σ1 q 3 = nI (S 0 cn + 1)) (g4 : ∀ i, i ≠ 4 * S 0 cn → i ≠ 4 * S 0 cn + 1 → i ≠ 4 * S 0 cn + 2 → i ≠ 4 * S 0 cn + 3 → σ1 (q + 1) i = σ (q + 1) i) (g5 : σ1 (q + 1) (4 * S 0 cn) = nI x1) (g6 : σ1 (q + 1) (4 * S 0 cn + 1) = nI x2) (g7 : σ1 (q + 1) (4 * S 0 cn + 2) = nI x3) (g8 : σ1 (q + 1) (4 * S 0 cn + 3) = nI x4) : CR σ1 (sA S (f4 (S 0) cn b x1 x2 x3 x4)) B ∧ WF (sA S (f4 (S 0) cn b x1 x2 x3 x4)) := by
  obtain ⟨wB, w0, w15, w2, w3, w4, w5, wse, wno, wma, wpa, wmk⟩ := HW.1
  have hsm : Sm (S 0) := wB.2.2.2.2.2.2.2.2
  obtain ⟨hst, hpa, hse, hno, hma⟩ := HC.1
  have o : ∀ i, i ≠ cn → (i < b + 4 * S 0 cn ∨ b + 4 * S 0 cn + 3 < i) → f4 (S 0) cn b x1 x2 x3 x4 i = S 0 i := fun i h1 h2 => by
    unfold f4
    rw [upN_n h1, upN_n (by omega), upN_n (by omega), upN_n (by omega), upN_n (by omega)]
  have oc : f4 (S 0) cn b x1 x2 x3 x4 cn = S 0 cn + 1 := upN_s
  have o0 : f4 (S 0) cn b x1 x2 x3 x4 (b + 4 * S 0 cn) = x1 := by unfold f4; rw [upN_n (by omega), upN_n (by omega), upN_n (by omega), upN_n (by omega), upN_s]
  have o1 : f4 (S 0) cn b x1 x2 x3 x4 (b + 4 * S 0 cn + 1) = x2 := by unfold f4; rw [upN_n (by omega), upN_n (by omega), upN_n (by omega), upN_s]
  have o2 : f4 (S 0) cn b x1 x2 x3 x4 (b + 4 * S 0 cn + 2) = x3 := by unfold f4; rw [upN_n (by omega), upN_n (by omega), upN_s]
  have o3 : f4 (S 0) cn b x1 x2 x3 x4 (b + 4 * S 0 cn + 3) = x4 := by unfold f4; rw [upN_n (by omega), upN_s]
  have hfo : FoR σ q (S 0) cn b := by
    rcases hc with ⟨rfl, rfl, rfl⟩ | ⟨rfl, rfl, rfl⟩
    · exact hno
    · exact hma
  have hfo1 : FoR σ1 q (f4 (S 0) cn b x1 x2 x3 x4) cn b := by
    refine ⟨by rw [oc]; exact g3, fun i hi j hj => ?_⟩
    rw [oc] at hi
    by_cases z : i = S 0 cn
    · subst z
      rcases (by omega : j = 0 ∨ j = 1 ∨ j = 2 ∨ j = 3) with rfl | rfl | rfl | rfl
      · show σ1 (q + 1) (4 * S 0 cn) = nI (f4 (S 0) cn b x1 x2 x3 x4 (b + 4 * S 0 cn))
        rw [o0]; exact g5
      · rw [o1]; exact g6
      · rw [o2]; exact g7
      · rw [o3]; exact g8
    · rw [o _ (by omega) (by omega), g4 _ (by omega) (by omega) (by omega) (by omega)]
      exact hfo.2 i (by omega) j hj
  refine ⟨HC.sc (fun p hp => g1 p (by omega) (by omega)) (SceR.tail HC.1 w0 wB.2.1 (fun p h1 h2 => g1 p (by omega) (by omega)) (fun i h1 h2 => o i (by omega) (by omega)) (hse.c (g1 _ (by omega) (by omega)) (g1 _ (by omega) (by omega)) w2 (o 2 (by omega) (by omega)) (fun i h1 h2 => o i (by omega) (by omega))) ?_ ?_) (HC.2.2.2.1.c (fun p hp => ?_)), HW.sA (HW.1.tail (fun i h1 h2 => o i (by omega) (by omega)) (by rw [o 2 (by omega) (by omega)]; exact w2) ?_ ?_ (fun i hi => ?_) (fun i hi => ?_) (fun i hi => ?_) (fun i => ?_))⟩
  · rcases hc with ⟨rfl, rfl, rfl⟩ | ⟨rfl, rfl, rfl⟩
    · exact hfo1
    · exact hno.c (g1 _ (by omega) (by omega)) (g1 _ (by omega) (by omega)) w3 (o 3 (by omega) (by omega)) (fun i h1 h2 => o i (by omega) (by omega))
  · rcases hc with ⟨rfl, rfl, rfl⟩ | ⟨rfl, rfl, rfl⟩
    · exact hma.c (g1 _ (by omega) (by omega)) (g1 _ (by omega) (by omega)) w4 (o 4 (by omega) (by omega)) (fun i h1 h2 => o i (by omega) (by omega))
    · exact hfo1
  · by_cases z : p = q
    · subst z; exact ⟨g2 1 (by omega), g2 2 (by omega)⟩
    · rw [g1 p z (by omega)]; exact ⟨rfl, rfl⟩
  · by_cases z : cn = 3
    · subst z; rw [oc]; omega
    · rw [o 3 (by omega) (by omega)]; exact w3
  · by_cases z : cn = 4
    · subst z; rw [oc]; omega
    · rw [o 4 (by omega) (by omega)]; exact w4
  · rw [o 2 (by omega) (by omega)] at hi
    rw [o _ (by omega) (by omega), o _ (by omega) (by omega)]
    exact wse i hi
  · rcases hc with ⟨rfl, rfl, rfl⟩ | ⟨rfl, rfl, rfl⟩
    · rw [oc] at hi
      by_cases z : i = S 0 3
      · subst z; rw [o1, o2]; exact ⟨h2, h3' rfl⟩
      · rw [o _ (by omega) (by omega), o _ (by omega) (by omega)]; exact wno i (by omega)
    · rw [o 3 (by omega) (by omega)] at hi
      rw [o _ (by omega) (by omega), o _ (by omega) (by omega)]; exact wno i hi
  · rcases hc with ⟨rfl, rfl, rfl⟩ | ⟨rfl, rfl, rfl⟩
    · rw [o 4 (by omega) (by omega)] at hi
      rw [o _ (by omega) (by omega), o _ (by omega) (by omega)]; exact wma i hi
    · rw [oc] at hi
      by_cases z : i = S 0 4
      · subst z; rw [o1, o2]; exact ⟨h2, h3⟩
      · rw [o _ (by omega) (by omega), o _ (by omega) (by omega)]; exact wma i (by omega)
  · unfold f4 upN
    split
    · omega
    · split
      · omega
      · split
        · omega
        · split
          · omega
          · split
            · omega
            · exact hsm i
set_option maxHeartbeats 4000000 in
set_option maxRecDepth 100000 in
theorem p_note (hJ : J σ τ) : V_X10_note a1 a2 a3 a4 σ (fun r σ' => V_X11_note a1 a2 a3 a4 τ (fun r' τ' => r = r' ∧ J σ' τ')) := by
  obtain ⟨S, B, HC, HM, HW⟩ := hJ
  unfold V_X10_note B_X10_note_e V_X11_note B_X11_note_e V_X10_isTold B_X10_isTold_e V_X11_isWet B_X11_isWet_e
  obtain ⟨wB, w0, w15, w2, w3, w4, w5, wse, wno, wma, wpa, wmk⟩ := HW.1
  have hrc := HC.2.2.2.1
  have mb : ∀ {σ' : St}, CR σ' S (bb B 0) → R_X11_note a1 a2 a3 a4 (fun r' τ' => -2 = r' ∧ J σ' τ') 40 [] [] τ := fun {σ'} HC' => i_X11_note_40 _ _ _ _ _ _ (m_bad HM (fun τ' HM' => ⟨rfl, S, bb B 0, HC', HM', HW⟩))
  by_cases k1 : okI a1 0 ((S 0 0 : Int) - 1)
  · refine c_isG1 HC w0 k1 (br_f (by decide) ?_)
    by_cases k3 : okI a3 0 4
    · refine cw1 k3 rfl rfl (br_f (by decide) ?_)
      by_cases k2 : okI a2 0 99
      · refine cw1 k2 rfl rfl (br_f (by decide) ?_)
        by_cases k4 : okI a4 0 20
        · refine cw1 k4 rfl rfl (br_f (by decide) (fr_t (by decide) ?_))
          obtain ⟨x1, hx1, rfl⟩ := okG k1
          obtain ⟨x2, -, hx2, rfl⟩ := okI_ex (a := 0) (b := 99) k2
          obtain ⟨x3, -, hx3, rfl⟩ := okI_ex (a := 0) (b := 4) k3
          obtain ⟨x4, -, hx4, rfl⟩ := okI_ex (a := 0) (b := 20) k4
          obtain ⟨hst, hpa, hse, hno, hma⟩ := HC.1
          refine s_add hno.1 hrc.2.2.1 w3 (by omega) (fun e => ?_) (fun hlt σ1 g1 g2 g3 g4 g5 g6 g7 g8 => ?_)
          · unfold V_X10_told B_X10_told_e
            refine br_t rfl (c_full HC (fun σ' HC' => m_isG1 HM w0 k1 (br_f (by decide) (mw1 k2 rfl rfl (br_f (by decide) (mw1 k3 rfl rfl (br_f (by decide) (mw1 k4 rfl rfl (fr_t (by decide) ?_)))))))))
            rw [show τ 1 3 = nI (S 0 3) from HM.1 3 (by omega), e]
            exact fr_f rfl (m_full HM (fun τ' HM' => ⟨rfl, S, bb B 2, HC', HM', HW⟩))
          · unfold V_X10_told B_X10_told_e
            refine br_f (by decide) (m_isG1 HM w0 k1 (br_f (by decide) (mw1 k2 rfl rfl (br_f (by decide) (mw1 k3 rfl rfl (br_f (by decide) (mw1 k4 rfl rfl (fr_t (by decide) ?_))))))))
            rw [show τ 1 3 = nI (S 0 3) from HM.1 3 (by omega)]
            refine fr_t (by rw [show (6 : Int32) = nI 6 from rfl, q_eq (by omega) (by omega)]; omega) ?_
            have hcw := c_four (cn := 3) (b := 53) (q := 15) (Or.inl ⟨rfl, rfl, rfl⟩) HC HW hlt hx2 (by omega) (fun _ => hx3) (by omega) (by omega) g1 g2 g3 g4 g5 g6 g7 g8
            exact m_four (b := 53) (cn := 3) HM (by omega) (by omega) (by omega) (by omega) (fun s HMs es => ⟨by rw [g3, es], _, B, hcw.1, HMs, hcw.2⟩)
        · exact cw0 k4 rfl rfl (br_t rfl (fr_f rfl (c_bad HC (fun σ' HC' => m_isG1 HM w0 k1 (br_f (by decide) (mw1 k2 rfl rfl (br_f (by decide) (mw1 k3 rfl rfl (br_f (by decide) (mw0 k4 rfl rfl (fr_f rfl (mb HC'))))))))))))
      · exact cw0 k2 rfl rfl (br_t rfl (fr_f rfl (c_bad HC (fun σ' HC' => m_isG1 HM w0 k1 (br_f (by decide) (mw0 k2 rfl rfl (br_t rfl (mb HC'))))))))
    · refine cw0 k3 rfl rfl (br_t rfl (c_bad HC (fun σ' HC' => m_isG1 HM w0 k1 (br_f (by decide) ?_))))
      by_cases k2 : okI a2 0 99
      · exact mw1 k2 rfl rfl (br_f (by decide) (mw0 k3 rfl rfl (br_t rfl (mb HC'))))
      · exact mw0 k2 rfl rfl (br_t rfl (mb HC'))
  · exact c_isG0 HC w0 k1 (br_t rfl (c_bad HC (fun σ' HC' => m_isG0 HM w0 k1 (br_t rfl (mb HC')))))
set_option maxHeartbeats 4000000 in
set_option maxRecDepth 100000 in
theorem p_mark (hJ : J σ τ) : V_X10_mark a1 a2 a3 a4 σ (fun r σ' => V_X11_mark a1 a2 a3 a4 τ (fun r' τ' => r = r' ∧ J σ' τ')) := by
  obtain ⟨S, B, HC, HM, HW⟩ := hJ
  unfold V_X10_mark B_X10_mark_e V_X11_mark B_X11_mark_e V_X10_isTold B_X10_isTold_e
  obtain ⟨wB, w0, w15, w2, w3, w4, w5, wse, wno, wma, wpa, wmk⟩ := HW.1
  have hc3 := wB.2.1
  have hrc := HC.2.2.2.1
  have mb : ∀ {σ' : St}, CR σ' S (bb B 0) → R_X11_mark a1 a2 a3 a4 (fun r' τ' => -2 = r' ∧ J σ' τ') 45 [] [] τ := fun {σ'} HC' => i_X11_mark_45 _ _ _ _ _ _ (m_bad HM (fun τ' HM' => ⟨rfl, S, bb B 0, HC', HM', HW⟩))
  by_cases k1 : okI a1 0 ((S 0 1 : Int) - 1)
  · refine c_isC1 HC hc3 k1 (br_f (by decide) ?_)
    by_cases k3 : okI a3 1 7
    · refine cw1 k3 rfl rfl (br_f (by decide) ?_)
      by_cases k2 : okI a2 0 99
      · refine cw1 k2 rfl rfl (br_f (by decide) ?_)
        by_cases k4 : okI a4 0 20
        · refine cw1 k4 rfl rfl (br_f (by decide) (fr_t (by decide) ?_))
          obtain ⟨x1, hx1, rfl⟩ := okG k1
          obtain ⟨x2, -, hx2, rfl⟩ := okI_ex (a := 0) (b := 99) k2
          obtain ⟨x3, -, hx3, rfl⟩ := okI_ex (a := 1) (b := 7) k3
          obtain ⟨x4, -, hx4, rfl⟩ := okI_ex (a := 0) (b := 20) k4
          obtain ⟨hst, hpa, hse, hno, hma⟩ := HC.1
          refine s_add hma.1 hrc.2.2.2.2.1 w4 (by omega) (fun e => ?_) (fun hlt σ1 g1 g2 g3 g4 g5 g6 g7 g8 => ?_)
          · unfold V_X10_told B_X10_told_e
            refine br_t rfl (c_full HC (fun σ' HC' => m_isC1 HM hc3 k1 (br_f (by decide) (mw1 k2 rfl rfl (br_f (by decide) (mw1 k3 rfl rfl (br_f (by decide) (mw1 k4 rfl rfl (fr_t (by decide) ?_)))))))))
            rw [show τ 1 4 = nI (S 0 4) from HM.1 4 (by omega), e]
            exact fr_f rfl (m_full HM (fun τ' HM' => ⟨rfl, S, bb B 2, HC', HM', HW⟩))
          · unfold V_X10_told B_X10_told_e
            refine br_f (by decide) (m_isC1 HM hc3 k1 (br_f (by decide) (mw1 k2 rfl rfl (br_f (by decide) (mw1 k3 rfl rfl (br_f (by decide) (mw1 k4 rfl rfl (fr_t (by decide) ?_))))))))
            rw [show τ 1 4 = nI (S 0 4) from HM.1 4 (by omega)]
            refine fr_t (by rw [show (6 : Int32) = nI 6 from rfl, q_eq (by omega) (by omega)]; omega) ?_
            have hcw := c_four (cn := 4) (b := 77) (q := 17) (Or.inr ⟨rfl, rfl, rfl⟩) HC HW hlt hx2 hx3 (fun q => absurd q (by omega)) (by omega) (by omega) g1 g2 g3 g4 g5 g6 g7 g8
            exact m_four (b := 77) (cn := 4) HM (by omega) (by omega) (by omega) (by omega) (fun s HMs es => ⟨by rw [g3, es], _, B, hcw.1, HMs, hcw.2⟩)
        · exact cw0 k4 rfl rfl (br_t rfl (fr_f rfl (c_bad HC (fun σ' HC' => m_isC1 HM hc3 k1 (br_f (by decide) (mw1 k2 rfl rfl (br_f (by decide) (mw1 k3 rfl rfl (br_f (by decide) (mw0 k4 rfl rfl (fr_f rfl (mb HC'))))))))))))
      · exact cw0 k2 rfl rfl (br_t rfl (fr_f rfl (c_bad HC (fun σ' HC' => m_isC1 HM hc3 k1 (br_f (by decide) (mw0 k2 rfl rfl (br_t rfl (mb HC'))))))))
    · refine cw0 k3 rfl rfl (br_t rfl (c_bad HC (fun σ' HC' => m_isC1 HM hc3 k1 (br_f (by decide) ?_))))
      by_cases k2 : okI a2 0 99
      · exact mw1 k2 rfl rfl (br_f (by decide) (mw0 k3 rfl rfl (br_t rfl (mb HC'))))
      · exact mw0 k2 rfl rfl (br_t rfl (mb HC'))
  · exact c_isC0 HC hc3 k1 (br_t rfl (c_bad HC (fun σ' HC' => m_isC0 HM hc3 k1 (br_t rfl (mb HC')))))
end O8
