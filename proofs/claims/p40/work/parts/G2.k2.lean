section K2
variable {σ : St} {S : SS} {B : CB} {Q : Int32 → St → Prop}
/-- hours pass, at most to the last -/
def hsA (A : Nat → Nat) (m : Nat) : Nat → Nat := it (min m (9999 - sv A 15)) (sv A)
set_option maxHeartbeats 4000000 in
set_option maxRecDepth 100000 in
theorem k_hours (HC : CR σ S B) (HW : WF S) {m : Nat} (hm1 : 1 ≤ m) (hm : m ≤ 60) (hq : ∀ σ', CR σ' (sA S (hsA (S 0) m)) B → WF (sA S (hsA (S 0) m)) → Q (nI (cnt (hsA (S 0) m) 23 (S 0 0))) σ') : V_X10_hours (nI m) σ Q := by
  unfold V_X10_hours B_X10_hours_e
  refine cw1 (okL (a := 1) (b := 60) hm1 hm (by omega)) rfl rfl (fr_t (by decide) ?_)
  refine c_keep HC.1.1 HC.1.2.1 HW.1 (fun σ1 hp1 hf1 => ?_)
  have hWs := WFA_sv HW.1
  have HW0 := HW
  obtain ⟨wB, w0, w15, w2, w3, w4, w5, wse, wno, wma, wpa, wmk⟩ := HW0.1
  have e15 : sv (S 0) 15 = S 0 15 := sv_lo (by omega) (by omega)
  have e00 : sv (S 0) 0 = S 0 0 := sv_lo (by omega) (by omega)
  have hs1 : StR σ1 2 (sv (S 0)) := (HC.1.1.congr (fun q h1 h2 => hf1 q (by omega) (by omega))).cA (fun i h1 h2 => sv_lo (by omega) (by omega)) w0 wB.2.1
  have em : (if (9999 - (σ1 2 11)) < nI m then (9999 - (σ1 2 11)) else nI m) = nI (min m (9999 - sv (S 0) 15)) := by
    have e99 : 9999 - (σ1 2 11) = nI (9999 - sv (S 0) 15) := by rw [hs1.2.2.2.1, show (9999 : Int32) = nI 9999 from rfl, pk_sub (by omega)]
    rw [e99]
    by_cases c : 9999 - sv (S 0) 15 < m
    · rw [if_pos (by rw [q_lt (by omega) (by omega)]; exact c)]
      exact congrArg nI (by omega)
    · rw [if_neg (by rw [q_lt (by omega) (by omega)]; exact c)]
      exact congrArg nI (by omega)
  rw [em]
  have h9 : sv (S 0) 15 + min m (9999 - sv (S 0) 15) ≤ 9999 := by omega
  have hW2 := WFA_it hWs h9
  have o5 : ∀ i, i < 6 ∨ 16 ≤ i → it (min m (9999 - sv (S 0) 15)) (sv (S 0)) i = sv (S 0) i := fun i hi => it_tl hWs.1.1 hi _
  have ez : it (min m (9999 - sv (S 0) 15)) (sv (S 0)) 0 = S 0 0 := by rw [o5 0 (by omega), e00]
  refine s_pass hs1 hWs.1 (by omega) (fun σ2 hs2 hf2 => s_over hs2 hW2.sm (by have := hW2.2.1; omega) ?_)
  rw [ez]
  unfold hsA at hq
  exact hq _ (HC.step HW.1 (fun q hq => by rw [hf2 q (by omega), hf1 q (by omega) (by omega)]) hs2 (hp1.c (hf2 _ (by omega)) (hf2 _ (by omega)) (o5 _ (by omega)) (o5 _ (by omega)) (fun i hi => o5 i (by omega))) (fun i hi => by rw [o5 i (by omega)]; exact sv_lo (by omega) (by omega))) (HW.sA hW2)
/-- a crossing is turned -/
def tn (A : Nat → Nat) (k : Nat) : Nat → Nat := upN (sv A) 14 (sv A 14 ^^^ 2 ^ k)
set_option maxHeartbeats 4000000 in
set_option maxRecDepth 100000 in
theorem k_shuts (HC : CR σ S B) (HW : WF S) {k : Nat} (hk : k < S 0 1) (hq : ∀ σ', CR σ' (sA S (tn (S 0) k)) B → WF (sA S (tn (S 0) k)) → Q (nI (tn (S 0) k 14 / 2 ^ k % 2)) σ') : V_X10_shuts (nI k) σ Q := by
  unfold V_X10_shuts B_X10_shuts_e
  obtain ⟨wB, w0, w15, w2, w3, w4, w5, wse, wno, wma, wpa, wmk⟩ := id HW.1
  have h3 := wB.2.1
  refine c_isC1 HC h3 (okN hk (by omega)) (fr_t (by decide) ?_)
  refine c_keep HC.1.1 HC.1.2.1 HW.1 (fun σ1 hp1 hf1 => ?_)
  have hWs := WFA_sv HW.1
  have hs1 : StR σ1 2 (sv (S 0)) := (HC.1.1.congr (fun q h1 h2 => hf1 q (by omega) (by omega))).cA (fun i h1 h2 => sv_lo (by omega) (by omega)) w0 h3
  obtain ⟨ex, ey⟩ := q_xor (sv (S 0) 14) hWs.1.2.2.1 k (by omega)
  unfold V_X8_turn B_X8_turn_e
  intro s3 f3
  rw [hs1.2.2.1, q_shl (by omega), ex] at f3
  subst f3
  have hs3 := hs1.shut hWs.2.1 (x := sv (S 0) 14 ^^^ 2 ^ k)
  refine v_shutBit (m := sv (S 0) 14 ^^^ 2 ^ k) (by omega) (by omega) (by rw [us_same, pk_us]) ?_
  have o : ∀ i, i ≠ 14 → upN (sv (S 0)) 14 (sv (S 0) 14 ^^^ 2 ^ k) i = sv (S 0) i := fun i hi => upN_n hi
  unfold tn at hq
  rw [upN_s] at hq
  refine hq _ (HC.step HW.1 (fun q hq => by rw [us_ne (by omega), hf1 q (by omega) (by omega)]) hs3 (hp1.c (us_ne (by omega)) (us_ne (by omega)) (o _ (by omega)) (o _ (by omega)) (fun i hi => o i (by omega))) (fun i hi => by rw [o i (by omega)]; exact sv_lo (by omega) (by omega))) (HW.sA ?_)
  obtain ⟨⟨b0, b1, b14, b15, bw, bg, bc, bd, bs⟩, v0, v15, -⟩ := id hWs
  refine hWs.upd ⟨by rw [o _ (by omega)]; exact b0, by rw [o _ (by omega)]; exact b1, by rw [upN_s]; exact ey, by rw [o _ (by omega)]; exact b15, fun i hi => by rw [o _ (by omega)]; exact bw i hi, fun g hg => ?_, fun k hk => ?_, fun j k hj hk => ?_, fun i => ?_⟩ (by rw [o _ (by omega)]; exact v0) (by rw [o _ (by omega)]; exact v15) ⟨o _ (by omega), fun i h1 h2 => o i (by omega)⟩ ⟨o _ (by omega), fun i h1 h2 => o i (by omega)⟩ ⟨o _ (by omega), fun i h1 h2 => o i (by omega)⟩ (Or.inr ⟨o _ (by omega), o _ (by omega), fun i h1 => o i (by omega)⟩) (fun g hg => ?_)
  · rw [o _ (by omega)] at hg
    rw [o _ (by omega), o _ (by omega)]; exact bg g hg
  · rw [o _ (by omega)] at hk
    rw [o _ (by omega), o _ (by omega)]; exact bc k hk
  · rw [o _ (by omega)] at hj hk
    rw [o _ (by omega), o _ (by omega)]; exact bd j k hj hk
  · by_cases z : i = 14
    · subst z; rw [upN_s]; omega
    · rw [o _ z]; exact bs i
  · rw [o _ (by omega)] at hg
    rw [o _ (by omega)]; exact hWs.2.2.2.2.2.2.2.2.2.2.2 g hg
set_option maxHeartbeats 4000000 in
set_option maxRecDepth 100000 in
theorem k_shutsBad (HC : CR σ S B) (HW : WF S) {k : Nat} (hk : S 0 1 ≤ k) (hk9 : k < 1000) (hq : ∀ σ', CR σ' S (bb B 0) → Q (-2) σ') : V_X10_shuts (nI k) σ Q := by
  unfold V_X10_shuts B_X10_shuts_e
  have h3 := HW.1.1.2.1
  exact c_isC0 HC h3 (fun c => by have := c.2; rw [nI_toInt (by omega)] at this; omega) (fr_f (by decide) (c_bad HC hq))
set_option maxHeartbeats 4000000 in
set_option maxRecDepth 100000 in
theorem k_undo (HC : CR σ S B) (HW : WF S) (k5 : 0 < S 0 5) (hq : ∀ σ', CR σ' (sA S (ub (S 0))) B → WF (sA S (ub (S 0))) → Q (nI (ub (S 0) 15)) σ') : V_X10_undo σ Q := by
  unfold V_X10_undo B_X10_undo_e
  obtain ⟨wB, w0, w15, w2, w3, w4, w5, wse, wno, wma, wpa, wmk⟩ := id HW.1
  obtain ⟨hst, hpa, hse, hno, hma⟩ := id HC.1
  have hsm : Sm (S 0) := HW.1.sm
  rw [show σ 11 1 = nI (S 0 5) from hpa.1]
  have z0 : ¬ nI (S 0 5) = 0 := by rw [show (0 : Int32) = nI 0 from rfl, q_eq (by omega) (by omega)]; omega
  refine fr_t z0 ?_
  obtain ⟨n, hn⟩ : ∃ n, S 0 5 = n + 1 := ⟨S 0 5 - 1, by omega⟩
  have hu5 : ub (S 0) 5 = n := by rw [ub_5]; omega
  have huk : ∀ k, k < 10 → ub (S 0) (6 + k) = S 0 (101 + 10 * n + k) := fun k hk => by rw [ub_k hk, hn]; rfl
  have huo : ∀ i, i ≠ 5 → ¬ (6 ≤ i ∧ i < 16) → ub (S 0) i = S 0 i := fun i h1 h2 => ub_o h1 h2
  have em1 : nI (S 0 5) - 1 = nI n := by rw [hn]; exact pk_sub (a := n + 1) (b := 1) (by omega)
  unfold V_X4_bringBack B_X4_bringBack_e
  have g0 : (0 : Int32) < nI (S 0 5) := by rw [show (0 : Int32) = nI 0 from rfl, q_lt (by omega) (by omega)]; omega
  rw [show σ 11 1 = nI (S 0 5) from hpa.1]
  refine br_t g0 ?_
  intro s1 f1
  rw [em1] at f1
  have e11 : s1 11 1 = nI n := by rw [f1, us_same, pk_us]
  rw [e11]
  simp (disch := omega) only [q_m1, q_m1n, q_m1a, q_eq, q_le, q_lt, nI_add, pk_sub, pk_mul, pk_div, pk_rem, nI_clamp, q_in, zl0, zl1, zl2, zl3, zl4, zl5, zl6, zl7, zl8, zl9, zl10, zl11, zl12, zl13, zl14, zl15, zl16, zl17, zl18, zl19, zl20, zl21, zl22, zl23, zl24, zl25, zl26, zl27, zl28, zl29, zl30, zl31, zl32, zl36, zl37, zl38, zl40, zl42, zl43, zl44, zl48, zl53, zl54, zl57, zl59, zl60, zl61, zl63, zl64, zl70, zl71, zl72, zl77, zl78, zl90, zl97, zl98, zl99, zl100, zl101, zl102, zl106, zl111, zl122, zl127, zl128, zl150, zl181, zl256, zl362, zl9999, zl999999, zl1000000]
  refine ⟨by omega, by omega, fun s2 f2 => ⟨by omega, fun s3 f3 => ⟨by omega, fun s4 f4 => ?_⟩⟩⟩
  have hfr : ∀ q, q ≠ 2 → q ≠ 6 → q ≠ 11 → s4 q = σ q := fun q h1 h2 h3 => by
    rw [f4, us_ne h1, f3, us_ne h1, f2, us_ne (j := q) (by omega), f1, us_ne h3]
  have e12 : s1 12 = σ 12 := by rw [f1, us_ne (by omega)]
  have c12 : s2 12 = σ 12 := by rw [f2, us_ne (by omega), e12]
  have d12 : s3 12 = σ 12 := by rw [f3, us_ne (by omega), c12]
  have e2 : s2 2 = σ 2 := by rw [f2, us_ne (by omega), f1, us_ne (by omega)]
  have e42 : s4 2 = upd (upd (σ 2) 10 (σ 12 (n * 9 + 7))) 11 (σ 12 (n * 9 + 8)) := by
    rw [f4, us_same, f3, us_same, e2, us_ne (by omega), c12]
  have e46 : s4 6 = va_cpy (σ 12) (s1 6) (n * 9) 0 7 := by
    rw [f4, us_ne (by omega), f3, us_ne (by omega), f2, us_same, e12]
  have e411 : s4 11 = s1 11 := by rw [f4, us_ne (by omega), f3, us_ne (by omega), f2, us_ne (by omega)]
  obtain ⟨q1, q2, q3⟩ := hpa.2 n (by omega)
  obtain ⟨r0, r1, r14, r15, rw_, rk, rm, rs, rg, rb, rh⟩ := id hst
  have eb : ∀ s, bh (ub (S 0)) s = bh (S 0) s := fun s => by
    unfold bh
    rw [huo 1 (by omega) (by omega), huo 40 (by omega) (by omega), huo 41 (by omega) (by omega), huo 42 (by omega) (by omega)]
  have u14 : ub (S 0) 14 = S 0 (101 + 10 * n + 8) := huk 8 (by omega)
  have u15 : ub (S 0) 15 = S 0 (101 + 10 * n + 9) := huk 9 (by omega)
  have c7 : σ 12 (n * 9 + 7) = nI (S 0 (101 + 10 * n + 8)) := by rw [(by omega : n * 9 + 7 = 9 * n + 7)]; exact q2
  have c8 : σ 12 (n * 9 + 8) = nI (S 0 (101 + 10 * n + 9)) := by rw [(by omega : n * 9 + 8 = 9 * n + 8)]; exact q3
  have hs4 : StR s4 2 (ub (S 0)) := by
    unfold StR
    rw [show (2 + 1 : Nat) = 3 from rfl, show (2 + 2 : Nat) = 4 from rfl, show (2 + 3 : Nat) = 5 from rfl, show (2 + 4 : Nat) = 6 from rfl, show (2 + 5 : Nat) = 7 from rfl, show (2 + 6 : Nat) = 8 from rfl, show (2 + 7 : Nat) = 9 from rfl, hfr 3 (by omega) (by omega) (by omega), hfr 4 (by omega) (by omega) (by omega), hfr 5 (by omega) (by omega) (by omega), hfr 7 (by omega) (by omega) (by omega), hfr 8 (by omega) (by omega) (by omega), hfr 9 (by omega) (by omega) (by omega), huo 0 (by omega) (by omega), huo 1 (by omega) (by omega), e46, u14, u15]
    refine ⟨by rw [e42, pk_un (by omega), pk_un (by omega)]; exact r0, by rw [e42, pk_un (by omega), pk_un (by omega)]; exact r1, by rw [e42, pk_un (by omega), pk_us]; exact c7, by rw [e42, pk_us]; exact c8, fun i hi => by rw [huo _ (by omega) (by omega)]; exact rw_ i hi, fun g hg => by rw [huo _ (by omega) (by omega)]; exact rk g hg, fun g hg h7 => by rw [huo _ (by omega) (by omega)]; exact rm g hg h7, fun g hg => ?_, fun k hk => by rw [huo _ (by omega) (by omega)]; exact rg k hk, fun k hk => by rw [huo _ (by omega) (by omega)]; exact rb k hk, fun s hs => by rw [eb]; exact rh s hs⟩
    rw [pk_cpy_in (by omega) (by omega), huk g (by omega), ← q1 g hg]
    exact congrArg (σ 12) (by omega)
  rw [hs4.2.2.2.1]
  refine hq _ (HC.step HW.1 (fun q hq => hfr q (by omega) (by omega) (by omega)) hs4 ⟨by rw [e411, e11, hu5], fun r hr => ?_⟩ (fun i hi => huo i (by omega) (by omega))) (HW.sA (WFA_ub HW.1 (by omega)))
  rw [hu5] at hr
  rw [huo 0 (by omega) (by omega), huo (101 + 10 * r + 8) (by omega) (by omega), huo (101 + 10 * r + 9) (by omega) (by omega), show (11 + 1 : Nat) = 12 from rfl, hfr 12 (by omega) (by omega) (by omega)]
  refine ⟨fun g hg => ?_, (hpa.2 r (by omega)).2⟩
  rw [huo _ (by omega) (by omega)]
  exact (hpa.2 r (by omega)).1 g hg
set_option maxHeartbeats 4000000 in
set_option maxRecDepth 100000 in
theorem k_image (HC : CR σ S B) (HW : WF S) (hq : ∀ σ', CR σ' (im S 0) B → WF (im S 0) → Q 1 σ') : V_X10_image 0 σ Q := by
  unfold V_X10_image B_X10_image_e
  refine cw1 (l := 0) (u := 1) (by unfold okI; decide) rfl rfl (fr_t (by decide) ?_)
  obtain ⟨hW0, hW1, hW2, h30, h31, h40, h41, h6, h5⟩ := id HW
  obtain ⟨c0, c1, c2, crow, c7, c8, c9, c10, c11, c12, c70, c71⟩ := id HC
  unfold V_X10_imageOf B_X10_imageOf_e
  refine fr_f rfl (sc_copy c0 hW0 (by omega) (fun s3 hs3 f3 g3 => ?_))
  intro s4 e4
  rw [show (0 : Int32) = nI 0 from rfl, f3 0 (by omega), c7, q_shl (by omega), (q_kept _ (by omega) _ (by omega) 0 (by omega)).1] at e4
  have e40 : ∀ q, q ≠ 0 → s4 q = s3 q := fun q hq => by rw [e4, us_ne hq]
  have e400 : ∀ j, j ≠ 7 → s4 0 j = σ 0 j := fun j hj => by rw [e4, us_same, pk_un hj]
  have eW : WF (im S 0) := by
    unfold WF
    rw [im_3 (by omega), im_o (i := 0) (by omega) (by omega), im_o (i := 4) (by omega) (by omega), im_o (i := 5) (by omega) (by omega), im_o (i := 6) (by omega) (by omega)]
    rw [upN_s, upN_n (j := 1) (by omega), show im S 0 1 = S 0 from rfl, show im S 0 2 = S 2 from rfl]
    exact ⟨hW0, fun _ => hW0, hW2, by omega, h31, h40, h41, h6, h5⟩
  refine hq _ ?_ eW
  unfold CR RowC
  rw [im_3 (by omega), im_o (i := 0) (by omega) (by omega), im_o (i := 4) (by omega) (by omega), im_o (i := 5) (by omega) (by omega), im_o (i := 6) (by omega) (by omega), e400 8 (by omega), e400 9 (by omega), e400 10 (by omega), e400 11 (by omega), e400 12 (by omega), e40 13 (by omega), e40 15 (by omega), e40 17 (by omega), e40 70 (by omega), e40 71 (by omega), f3 13 (by omega), f3 15 (by omega), f3 17 (by omega), f3 70 (by omega), f3 71 (by omega)]
  have e07 : s4 0 7 = nI ((if (0 : Nat) = 0 then 1 else S 3 0) + 2 * (if (0 : Nat) = 1 then 1 else S 3 1)) := by rw [e4, us_same, pk_us]
  rw [e07]
  have t0 : SceR s4 1 (S 0) := c0.congr (fun q h1 h2 => by rw [e40 q (by omega), f3 q (by omega)])
  have tn : SceR s4 19 (S 0) := hs3.congr (fun q h1 h2 => e40 q (by omega))
  rw [upN_s, upN_n (j := 1) (by omega), show im S 0 1 = S 0 from rfl, show im S 0 2 = S 2 from rfl, if_pos rfl, if_neg (by omega)]
  exact ⟨t0, fun _ => tn, fun c => (c2 c).congr (fun q h1 h2 => by rw [e40 q (by omega), f3 q (by omega)]), crow, rfl, c8, c9, c10, c11, c12, c70, c71⟩
set_option maxHeartbeats 4000000 in
set_option maxRecDepth 100000 in
theorem k_from (HC : CR σ S B) (HW : WF S) (kk : S 3 0 = 1) (hq : ∀ σ', CR σ' (sA S (S 1)) B → WF (sA S (S 1)) → Q 1 σ') : V_X10_from 0 σ Q := by
  unfold V_X10_from B_X10_from_e
  refine cw1 (l := 0) (u := 1) (by unfold okI; decide) rfl rfl (fr_t (by decide) ?_)
  obtain ⟨hW0, hW1, hW2, h30, h31, h40, h41, h6, h5⟩ := id HW
  obtain ⟨c0, c1, c2, crow, c7, c8, c9, c10, c11, c12, c70, c71⟩ := id HC
  have ebit : ((σ 0 7) >>> ((0 : Int32) &&& 31)) &&& 1 = nI (S 3 0) := by
    rw [c7, show (0 : Int32) = nI 0 from rfl, q_bit (by omega) (by omega), (q_kept _ (by omega) _ (by omega) 0 (by omega)).2]
    rfl
  rw [ebit, kk]
  refine fr_t (by decide) ?_
  unfold V_X10_imageOf B_X10_imageOf_e
  refine fr_f rfl (sc_copy (c1 kk) (hW1 kk) (by omega) (fun s3 hs3 f3 g3 => ?_))
  exact hq _ (HC.sc (fun q hq => f3 q (by omega)) hs3 (crow.c (fun q hq => ⟨g3 q 1 (by omega) (by omega), g3 q 2 (by omega) (by omega)⟩))) (HW.sA (hW1 kk))
end K2
