/-! the images -/
section O10
variable {σ τ : St} {a1 a2 a3 a4 : Int32}
theorem pa_copy {h0 h1 : Nat} {A : Nat → Nat} (H : PaR σ h1 A) (h8 : A 5 ≤ 8) (h7 : A 0 ≤ 7) (hd : h0 + 1 < h1 ∨ h1 + 1 < h0) {Q : St → Prop} (hq : ∀ σ', PaR σ' h0 A → (∀ q, q ≠ h0 → q ≠ h0 + 1 → σ' q = σ q) → Q σ') : V_X4_copy h0 h1 σ Q := by
  unfold V_X4_copy B_X4_copy_e
  intro s1 e1 s2 e2
  have e21 : s2 (h0 + 1) = va_cpy (σ (h1 + 1)) (σ (h0 + 1)) 0 0 72 := by rw [e2, us_ne (by omega), e1, us_same]
  refine hq _ ⟨?_, fun r hr => ?_⟩ (fun q hq1 hq2 => by rw [e2, us_ne hq1, e1, us_ne hq2])
  · rw [e2, us_same, pk_us, e1, us_ne (by omega)]; exact H.1
  · obtain ⟨q1, q2, q3⟩ := H.2 r hr
    rw [e21]
    exact ⟨fun g hg => by rw [va_cpy0 (by omega)]; exact q1 g hg, by rw [va_cpy0 (by omega)]; exact q2, by rw [va_cpy0 (by omega)]; exact q3⟩
theorem ro_copy {h0 h1 : Nat} (hd : h0 + 1 < h1 ∨ h1 + 1 < h0) {Q : St → Prop} (hq : ∀ σ', σ' h0 3 = σ h1 3 → (∀ j, j < 24 → σ' (h0 + 1) j = σ (h1 + 1) j) → (∀ j, j ≠ 3 → σ' h0 j = σ h0 j) → (∀ q, q ≠ h0 → q ≠ h0 + 1 → σ' q = σ q) → Q σ') : V_X6_copy h0 h1 σ Q := by
  unfold V_X6_copy B_X6_copy_e
  intro s1 e1 s2 e2
  refine hq _ ?_ (fun j hj => ?_) (fun j hj => ?_) (fun q hq1 hq2 => by rw [e2, us_ne hq1, e1, us_ne hq2])
  · rw [e2, us_same, pk_us, e1, us_ne (by omega)]
  · rw [e2, us_ne (by omega), e1, us_same, va_cpy0 hj]
  · rw [e2, us_same, pk_un hj, e1, us_ne (by omega)]
set_option maxHeartbeats 4000000 in
set_option maxRecDepth 100000 in
theorem sc_copy {h0 h1 : Nat} {A : Nat → Nat} (H : SceR σ h1 A) (hW : WFA A) (hd : h0 + 18 ≤ h1 ∨ h1 + 18 ≤ h0) {Q : St → Prop} (hq : ∀ σ', SceR σ' h0 A → (∀ q, q < h0 ∨ h0 + 17 < q → σ' q = σ q) → (∀ q j, j ≠ 3 → q = h0 + 12 ∨ q = h0 + 14 ∨ q = h0 + 16 → σ' q j = σ q j) → Q σ') : V_X7_copy h0 h1 σ Q := by
  unfold V_X7_copy B_X7_copy_e
  obtain ⟨⟨b0, b1, b14, b15, bw, bg, bc, bd, bs⟩, w0, w15, w2, w3, w4, w5, -⟩ := hW
  obtain ⟨hst, hpa, hse, hno, hma⟩ := H
  refine s_copy hst w0 b1 (by omega) (fun s1 hs1 f1 => ?_)
  refine pa_copy (A := A) (hpa.c (f1 _ (by omega)) (f1 _ (by omega)) rfl rfl (fun _ _ => rfl)) w5 w0 (by omega) (fun s2 hp2 f2 => ?_)
  refine ro_copy (by omega) (fun s3 a3 b3 c3 f3 => ?_)
  refine ro_copy (by omega) (fun s4 a4 b4 c4 f4 => ?_)
  refine ro_copy (by omega) (fun s5 a5 b5 c5 f5 => ?_)
  have g2 : ∀ q, (q < h0 + 1 ∨ h0 + 11 < q) → s2 q = σ q := fun q hq => by rw [f2 q (by omega) (by omega), f1 q (by omega)]
  refine hq _ ⟨?_, ?_, ?_, ?_, ?_⟩ (fun q hq => ?_) (fun q j hj hq => ?_)
  · exact hs1.congr (fun q h1 h2 => by rw [f5 q (by omega) (by omega), f4 q (by omega) (by omega), f3 q (by omega) (by omega), f2 q (by omega) (by omega)])
  · refine hp2.c ?_ ?_ rfl rfl (fun _ _ => rfl)
    · rw [f5 _ (by omega) (by omega), f4 _ (by omega) (by omega), f3 _ (by omega) (by omega)]
    · rw [f5 _ (by omega) (by omega), f4 _ (by omega) (by omega), f3 _ (by omega) (by omega)]
  · have k1 : s5 (h0 + 12) = s3 (h0 + 12) := by rw [f5 _ (by omega) (by omega), f4 _ (by omega) (by omega)]
    have k2 : s5 (h0 + 12 + 1) = s3 (h0 + 12 + 1) := by rw [f5 _ (by omega) (by omega), f4 _ (by omega) (by omega)]
    unfold SeR
    rw [k1, k2, a3, g2 _ (by omega)]
    refine ⟨hse.1, fun i hi => ?_⟩
    rw [b3 _ (by omega), b3 _ (by omega), g2 _ (by omega)]
    exact hse.2 i hi
  · have k1 : s5 (h0 + 14) = s4 (h0 + 14) := by rw [f5 _ (by omega) (by omega)]
    have k2 : s5 (h0 + 14 + 1) = s4 (h0 + 14 + 1) := by rw [f5 _ (by omega) (by omega)]
    have l1 : s3 (h1 + 14) = σ (h1 + 14) := by rw [f3 _ (by omega) (by omega), g2 _ (by omega)]
    have l2 : s3 (h1 + 14 + 1) = σ (h1 + 14 + 1) := by rw [f3 _ (by omega) (by omega), g2 _ (by omega)]
    unfold FoR
    rw [k1, k2, a4, l1]
    refine ⟨hno.1, fun i hi j hj => ?_⟩
    rw [b4 _ (by omega), l2]
    exact hno.2 i hi j hj
  · have l1 : s4 (h1 + 16) = σ (h1 + 16) := by rw [f4 _ (by omega) (by omega), f3 _ (by omega) (by omega), g2 _ (by omega)]
    have l2 : s4 (h1 + 16 + 1) = σ (h1 + 16 + 1) := by rw [f4 _ (by omega) (by omega), f3 _ (by omega) (by omega), g2 _ (by omega)]
    unfold FoR
    rw [a5, l1]
    refine ⟨hma.1, fun i hi j hj => ?_⟩
    rw [b5 _ (by omega), l2]
    exact hma.2 i hi j hj
  · rw [f5 _ (by omega) (by omega), f4 _ (by omega) (by omega), f3 _ (by omega) (by omega), g2 _ (by omega)]
  · rcases hq with rfl | rfl | rfl
    · rw [f5 _ (by omega) (by omega), f4 _ (by omega) (by omega), c3 j hj, g2 _ (by omega)]
    · rw [f5 _ (by omega) (by omega), c4 j hj, f3 _ (by omega) (by omega), g2 _ (by omega)]
    · rw [c5 j hj, f4 _ (by omega) (by omega), f3 _ (by omega) (by omega), g2 _ (by omega)]
def im (S : SS) (w : Nat) : SS := fun i => if i = 1 + w then S 0 else if i = 3 then upN (S 3) w 1 else S i
theorem im_o {S : SS} {w i : Nat} (h1 : i ≠ 1 + w) (h3 : i ≠ 3) : im S w i = S i := by unfold im; rw [if_neg h1, if_neg h3]
theorem im_w {S : SS} {w : Nat} : im S w (1 + w) = S 0 := by unfold im; rw [if_pos rfl]
theorem im_3 {S : SS} {w : Nat} (hw : w < 2) : im S w 3 = upN (S 3) w 1 := by unfold im; rw [if_neg (by omega), if_pos rfl]
theorem q_kept : ∀ a, a < 2 → ∀ b, b < 2 → ∀ w, w < 2 → nI (a + 2 * b) ||| nI (2 ^ w) = nI ((if w = 0 then 1 else a) + 2 * (if w = 1 then 1 else b)) ∧ (a + 2 * b) / 2 ^ w % 2 = (if w = 0 then a else b) := by decide +kernel
set_option maxHeartbeats 4000000 in
set_option maxRecDepth 100000 in
theorem p_image (hJ : J σ τ) : V_X10_image a1 σ (fun r σ' => V_X11_image a1 τ (fun r' τ' => r = r' ∧ J σ' τ')) := by
  obtain ⟨S, B, HC, HM, HW⟩ := hJ
  unfold V_X10_image B_X10_image_e V_X11_image B_X11_image_e
  by_cases k1 : okI a1 0 1
  · refine cw1 k1 rfl rfl (fr_t (by decide) ?_)
    obtain ⟨w, -, hw, rfl⟩ := okI_ex (a := 0) (b := 1) k1
    obtain ⟨hW0, hW1, hW2, h30, h31, h40, h41, h6, h5⟩ := id HW
    obtain ⟨c0, c1, c2, crow, c7, c8, c9, c10, c11, c12, c70, c71⟩ := id HC
    have key : ∀ h0, h0 = 19 + 18 * w → V_X7_copy h0 1 σ (fun s3 => ∀ s4, s4 = us s3 0 (upd (s3 0) 7 ((s3 0 7) ||| ((1 : Int32) <<< (nI w &&& 31)))) → V_X11_in (nI w).toInt64 0 1 τ (fun r1 s1 => (¬ r1 = 0 → R_X11_image (nI w) (fun r' τ' => 1 = r' ∧ J s4 τ') 19 [0] [] s1) ∧ (r1 = 0 → V_X11_bad (-2) s1 (fun r2 s2 => 1 = r2 ∧ J s4 s2)))) := fun h0 eh => by
      refine sc_copy c0 hW0 (by omega) (fun s3 hs3 f3 g3 => ?_)
      intro s4 e4
      refine mw1 k1 rfl rfl (fr_t (by decide) ?_)
      rw [f3 0 (by omega), c7, q_shl (by omega), (q_kept _ (by omega) _ (by omega) w (by omega)).1] at e4
      have e40 : ∀ q, q ≠ 0 → s4 q = s3 q := fun q hq => by rw [e4, us_ne hq]
      have e400 : ∀ j, j ≠ 7 → s4 0 j = σ 0 j := fun j hj => by rw [e4, us_same, pk_un hj]
      have eW : WF (im S w) := by
        unfold WF
        rw [im_3 (by omega), im_o (i := 0) (by omega) (by omega), im_o (i := 4) (by omega) (by omega), im_o (i := 5) (by omega) (by omega), im_o (i := 6) (by omega) (by omega)]
        rcases (by omega : w = 0 ∨ w = 1) with rfl | rfl
        · rw [upN_s, upN_n (j := 1) (by omega), show im S 0 1 = S 0 from rfl, show im S 0 2 = S 2 from rfl]
          exact ⟨hW0, fun _ => hW0, hW2, by omega, h31, h40, h41, h6, h5⟩
        · rw [upN_s, upN_n (j := 0) (by omega), show im S 1 1 = S 1 from rfl, show im S 1 2 = S 0 from rfl]
          exact ⟨hW0, hW1, fun _ => hW0, h30, by omega, h40, h41, h6, h5⟩
      have eC : CR s4 (im S w) B := by
        unfold CR RowC
        rw [im_3 (by omega), im_o (i := 0) (by omega) (by omega), im_o (i := 4) (by omega) (by omega), im_o (i := 5) (by omega) (by omega), im_o (i := 6) (by omega) (by omega), e400 8 (by omega), e400 9 (by omega), e400 10 (by omega), e400 11 (by omega), e400 12 (by omega), e40 13 (by omega), e40 15 (by omega), e40 17 (by omega), e40 70 (by omega), e40 71 (by omega), f3 13 (by omega), f3 15 (by omega), f3 17 (by omega), f3 70 (by omega), f3 71 (by omega)]
        have e07 : s4 0 7 = nI ((if w = 0 then 1 else S 3 0) + 2 * (if w = 1 then 1 else S 3 1)) := by rw [e4, us_same, pk_us]
        rw [e07]
        have t0 : SceR s4 1 (S 0) := c0.congr (fun q h1 h2 => by rw [e40 q (by omega), f3 q (by omega)])
        have tn : SceR s4 h0 (S 0) := hs3.congr (fun q h1 h2 => e40 q (by omega))
        rcases (by omega : w = 0 ∨ w = 1) with rfl | rfl
        · rw [upN_s, upN_n (j := 1) (by omega), show im S 0 1 = S 0 from rfl, show im S 0 2 = S 2 from rfl, if_pos rfl, if_neg (by omega)]
          rw [show h0 = 19 by omega] at tn
          exact ⟨t0, fun _ => tn, fun c => (c2 c).congr (fun q h1 h2 => by rw [e40 q (by omega), f3 q (by omega)]), crow, rfl, c8, c9, c10, c11, c12, c70, c71⟩
        · rw [upN_s, upN_n (j := 0) (by omega), show im S 1 1 = S 1 from rfl, show im S 1 2 = S 0 from rfl, if_pos rfl, if_neg (by omega)]
          rw [show h0 = 37 by omega] at tn
          exact ⟨t0, fun c => (c1 c).congr (fun q h1 h2 => by rw [e40 q (by omega), f3 q (by omega)]), fun _ => tn, crow, rfl, c8, c9, c10, c11, c12, c70, c71⟩
      obtain ⟨m1, m2, m3, m4, m5, m6⟩ := id HM
      have loop : ∀ d i (row : Nat → Int32), i + d = 181 → (∀ j, row j = if 181 * w ≤ j ∧ j < 181 * w + i then nI (S 0 (j - 181 * w)) else τ 2 j) → R_X11_image (nI w) (fun r' τ' => 1 = r' ∧ J s4 τ') 19 [nI i] [] (us τ 2 row) := by
        intro d
        induction d with
        | zero =>
          intro i row hi hrow
          refine i_X11_image_19 _ _ _ _ ?_
          unfold B_X11_image_19
          refine ⟨fun _ => ⟨vp_in_nI (by omega) (by omega), fun s1 e1 => ⟨rfl, _, B, eC, ?_, eW⟩⟩, fun c => absurd (by rw [show (181 : Int32) = nI 181 from rfl, q_le (by omega) (by omega)]; omega) c⟩
          rw [nI_clamp (by omega), us_ne (j := 3) (by omega)] at e1
          have en : vp_nar .boolean 1 = nI 1 := by decide
          rw [en] at e1
          unfold MR RowN
          rw [im_3 (by omega), im_o (i := 0) (by omega) (by omega), im_o (i := 4) (by omega) (by omega), im_o (i := 5) (by omega) (by omega), im_o (i := 6) (by omega) (by omega)]
          rw [e1, us_same, us_ne (j := 1) (by omega), us_ne (j := 1) (by omega), us_ne (j := 2) (by omega), us_same, us_ne (j := 0) (by omega), us_ne (j := 0) (by omega), us_ne (j := 4) (by omega), us_ne (j := 4) (by omega), us_ne (j := 9) (by omega), us_ne (j := 9) (by omega)]
          rcases (by omega : w = 0 ∨ w = 1) with rfl | rfl
          · rw [upN_s, upN_n (j := 1) (by omega), show im S 0 1 = S 0 from rfl, show im S 0 2 = S 2 from rfl, pk_us, pk_un (by omega)]
            exact ⟨m1, fun _ j hj => by rw [hrow, if_pos (by omega)]; rfl, fun c j hj => by rw [hrow, if_neg (by omega)]; exact m3 c j hj, rfl, m5, m6⟩
          · rw [upN_s, upN_n (j := 0) (by omega), show im S 1 1 = S 1 from rfl, show im S 1 2 = S 0 from rfl, pk_us, pk_un (by omega)]
            exact ⟨m1, fun c j hj => by rw [hrow, if_neg (by omega)]; exact m2 c j hj, fun _ j hj => by rw [hrow, if_pos (by omega)]; exact congrArg (fun x => nI (S 0 x)) (by omega), m4, rfl, m6⟩
        | succ d ih =>
          intro i row hi hrow
          refine i_X11_image_19 _ _ _ _ ?_
          unfold B_X11_image_19
          rw [us_same, us_ne (j := 1) (by omega)]
          simp (disch := omega) only [q_m1, q_m1n, q_m1a, q_eq, q_le, q_lt, nI_add, pk_sub, pk_mul, pk_div, pk_rem, nI_clamp, q_in, zl0, zl1, zl2, zl3, zl4, zl5, zl6, zl7, zl8, zl9, zl10, zl11, zl12, zl13, zl14, zl15, zl16, zl17, zl18, zl19, zl20, zl21, zl22, zl23, zl24, zl25, zl26, zl27, zl28, zl29, zl30, zl31, zl32, zl36, zl37, zl38, zl40, zl42, zl43, zl44, zl48, zl53, zl54, zl57, zl59, zl60, zl61, zl63, zl64, zl70, zl71, zl72, zl77, zl78, zl90, zl97, zl98, zl99, zl100, zl101, zl102, zl106, zl111, zl122, zl127, zl128, zl150, zl181, zl256, zl362, zl9999, zl999999, zl1000000]
          refine ⟨fun c => absurd c (by omega), fun _ => ⟨by omega, by omega, fun s2 f2 => ?_⟩⟩
          rw [us_us, m1 i (by omega)] at f2
          subst f2
          refine ih (i + 1) _ (by omega) (fun j => ?_)
          unfold upd
          by_cases z : j = 181 * w + i
          · subst z
            rw [if_pos rfl, if_pos (by omega)]
            exact congrArg (fun x => nI (S 0 x)) (by omega)
          · rw [if_neg z, hrow j]
            by_cases z2 : 181 * w ≤ j ∧ j < 181 * w + i
            · rw [if_pos z2, if_pos (by omega)]
            · rw [if_neg z2, if_neg (by omega)]
      have := loop 181 0 (τ 2) (by omega) (fun j => by rw [if_neg (by omega)])
      rw [us_self] at this
      exact this
    unfold V_X10_imageOf B_X10_imageOf_e
    rcases (by omega : w = 0 ∨ w = 1) with rfl | rfl
    · exact fr_f rfl (key 19 rfl)
    · exact fr_t (by decide) (key 37 rfl)
  · exact cw0 k1 rfl rfl (fr_f (by decide) (c_bad HC (fun σ' HC' => mw0 k1 rfl rfl (fr_f (by decide) (m_bad HM (fun τ' HM' => ⟨rfl, S, bb B 0, HC', HM', HW⟩))))))
set_option maxHeartbeats 4000000 in
set_option maxRecDepth 100000 in
theorem p_from (hJ : J σ τ) : V_X10_from a1 σ (fun r σ' => V_X11_from a1 τ (fun r' τ' => r = r' ∧ J σ' τ')) := by
  obtain ⟨S, B, HC, HM, HW⟩ := hJ
  unfold V_X10_from B_X10_from_e
  by_cases k1 : okI a1 0 1
  · refine cw1 k1 rfl rfl (fr_t (by decide) ?_)
    obtain ⟨w, -, hw, rfl⟩ := okI_ex (a := 0) (b := 1) k1
    obtain ⟨hW0, hW1, hW2, h30, h31, h40, h41, h6, h5⟩ := id HW
    obtain ⟨c0, c1, c2, crow, c7, c8, c9, c10, c11, c12, c70, c71⟩ := id HC
    obtain ⟨m1, m2, m3, m4, m5, m6⟩ := id HM
    have e3 : τ 3 w = nI (S 3 w) := by rcases (by omega : w = 0 ∨ w = 1) with rfl | rfl; exact m4; exact m5
    have hkb : S 3 w ≤ 1 := by rcases (by omega : w = 0 ∨ w = 1) with rfl | rfl; exact h30; exact h31
    have ebit : ((σ 0 7) >>> (nI w &&& 31)) &&& 1 = nI (S 3 w) := by
      rw [c7, q_bit (by omega) (by omega), (q_kept _ (by omega) _ (by omega) w (by omega)).2]
      rcases (by omega : w = 0 ∨ w = 1) with rfl | rfl
      · rfl
      · rfl
    rw [ebit]
    by_cases kk : S 3 w = 0
    · rw [kk]
      refine fr_f rfl (c_no HC (fun σ' HC' => ?_))
      unfold V_X11_from B_X11_from_e
      refine mw1 k1 rfl rfl (fr_t (by decide) ⟨vp_in_nI (by omega) (by omega), ?_⟩)
      rw [nI_clamp (by omega), e3, kk]
      exact fr_f rfl (m_no HM (fun τ' HM' => ⟨rfl, S, bb B 1, HC', HM', HW⟩))
    · have kz : ¬ nI (S 3 w) = 0 := by rw [show (0 : Int32) = nI 0 from rfl, q_eq (by omega) (by omega)]; exact kk
      refine fr_t kz ?_
      have hWw : WFA (S (1 + w)) := by
        rcases (by omega : w = 0 ∨ w = 1) with rfl | rfl
        · exact hW1 (by omega)
        · exact hW2 (by omega)
      have hsc : SceR σ (19 + 18 * w) (S (1 + w)) := by
        rcases (by omega : w = 0 ∨ w = 1) with rfl | rfl
        · exact c1 (by omega)
        · exact c2 (by omega)
      have h2w : ∀ i, i < 181 → τ 2 (181 * w + i) = nI (S (1 + w) i) := by
        rcases (by omega : w = 0 ∨ w = 1) with rfl | rfl
        · intro i hi; rw [(by omega : 181 * 0 + i = i)]; exact m2 (by omega) i hi
        · exact m3 (by omega)
      have key : ∀ h1, h1 = 19 + 18 * w → V_X7_copy 1 h1 σ (fun s3 => V_X11_from (nI w) τ (fun r' τ' => 1 = r' ∧ J s3 τ')) := fun h1 eh => by
        subst eh
        refine sc_copy hsc hWw (by omega) (fun s3 hs3 f3 g3 => ?_)
        unfold V_X11_from B_X11_from_e
        refine mw1 k1 rfl rfl (fr_t (by decide) ⟨vp_in_nI (by omega) (by omega), ?_⟩)
        rw [nI_clamp (by omega), e3]
        refine fr_t kz ?_
        have eC : CR s3 (sA S (S (1 + w))) B := HC.sc (fun q hq => f3 q (by omega)) hs3 (crow.c (fun q hq => ⟨g3 q 1 (by omega) (by omega), g3 q 2 (by omega) (by omega)⟩))
        have loop : ∀ d i (row : Nat → Int32), i + d = 181 → (∀ j, j < 181 → row j = if j < i then nI (S (1 + w) j) else nI (S 0 j)) → R_X11_from (nI w) (fun r' τ' => 1 = r' ∧ J s3 τ') 33 [nI i] [] (us τ 1 row) := by
          intro d
          induction d with
          | zero =>
            intro i row hi hrow
            refine i_X11_from_33 _ _ _ _ ?_
            unfold B_X11_from_33
            exact ⟨fun _ => ⟨rfl, _, B, eC, HM.row (fun j hj => by rw [hrow j hj, if_pos (by omega)]), HW.sA hWw⟩, fun c => absurd (by rw [show (181 : Int32) = nI 181 from rfl, q_le (by omega) (by omega)]; omega) c⟩
          | succ d ih =>
            intro i row hi hrow
            refine i_X11_from_33 _ _ _ _ ?_
            unfold B_X11_from_33
            rw [us_same, us_ne (j := 2) (by omega)]
            simp (disch := omega) only [q_m1, q_m1n, q_m1a, q_eq, q_le, q_lt, nI_add, pk_sub, pk_mul, pk_div, pk_rem, nI_clamp, q_in, zl0, zl1, zl2, zl3, zl4, zl5, zl6, zl7, zl8, zl9, zl10, zl11, zl12, zl13, zl14, zl15, zl16, zl17, zl18, zl19, zl20, zl21, zl22, zl23, zl24, zl25, zl26, zl27, zl28, zl29, zl30, zl31, zl32, zl36, zl37, zl38, zl40, zl42, zl43, zl44, zl48, zl53, zl54, zl57, zl59, zl60, zl61, zl63, zl64, zl70, zl71, zl72, zl77, zl78, zl90, zl97, zl98, zl99, zl100, zl101, zl102, zl106, zl111, zl122, zl127, zl128, zl150, zl181, zl256, zl362, zl9999, zl999999, zl1000000]
            refine ⟨fun c => absurd c (by omega), fun _ => ⟨by omega, by omega, fun s2 f2 => ?_⟩⟩
            rw [us_us, h2w i (by omega)] at f2
            subst f2
            refine ih (i + 1) _ (by omega) (fun j hj => ?_)
            unfold upd
            by_cases z : j = i
            · subst z
              rw [if_pos rfl, if_pos (by omega)]
            · rw [if_neg z, hrow j hj]
              by_cases z2 : j < i
              · rw [if_pos z2, if_pos (by omega)]
              · rw [if_neg z2, if_neg (by omega)]
        have := loop 181 0 (τ 1) (by omega) (fun j hj => by rw [if_neg (by omega)]; exact m1 j hj)
        rw [us_self] at this
        exact this
      unfold V_X10_imageOf B_X10_imageOf_e
      rcases (by omega : w = 0 ∨ w = 1) with rfl | rfl
      · exact fr_f rfl (key 19 rfl)
      · exact fr_t (by decide) (key 37 rfl)
  · unfold V_X11_from B_X11_from_e
    exact cw0 k1 rfl rfl (fr_f (by decide) (c_bad HC (fun σ' HC' => mw0 k1 rfl rfl (fr_f (by decide) (m_bad HM (fun τ' HM' => ⟨rfl, S, bb B 0, HC', HM', HW⟩))))))
theorem q_64 {n : Nat} (h : n < 2147483648) : (nI n).toInt64 = lN n := by
  apply Int64.toInt_inj.mp
  rw [Int32.toInt_toInt64, nI_toInt h, lN_toInt (by omega)]
set_option maxHeartbeats 4000000 in
set_option maxRecDepth 100000 in
theorem p_part (hJ : J σ τ) : V_X10_part a1 σ (fun r σ' => V_X11_part a1 τ (fun r' τ' => r = r' ∧ J σ' τ')) := by
  obtain ⟨S, B, HC, HM, HW⟩ := hJ
  unfold V_X10_part B_X10_part_e V_X11_part B_X11_part_e
  obtain ⟨hW0, hW1, hW2, h30, h31, h40, h41, h6, h5⟩ := id HW
  obtain ⟨c0, c1, c2, crow, c7, c8, c9, c10, c11, c12, c70, c71⟩ := id HC
  obtain ⟨m1, m2, m3, m4, m5, m6, m28, m30, m11, m9⟩ := id HM
  rw [c8, c9, m28, m30, q_64 (by omega), q_64 (by omega)]
  have jj : J σ τ := ⟨S, B, HC, HM, HW⟩
  by_cases z : a1 = 0
  · exact br_t z (fr_f z ⟨rfl, jj⟩)
  · refine br_f z ?_
    by_cases y : a1 = 1
    · exact br_t y (fr_t z (fr_f y ⟨rfl, jj⟩))
    · exact br_f y (c_bad HC (fun σ' HC' => fr_t z (fr_t y (m_bad HM (fun τ' HM' => ⟨rfl, S, bb B 0, HC', HM', HW⟩)))))
end O10
