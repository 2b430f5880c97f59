/-! a winter by chance; the rain -/
def nx (n : Nat) : Nat := (n * 1103515245 + 12345) % 2147483648
def vv (n : Nat) : Nat := nx n / 65536 % 4
def wt (A : Nat → Nat) (n : Nat) : Nat → Nat := if vv n < A 1 then upN A 14 (A 14 ^^^ 2 ^ vv n) else A
def wst : Nat → Nat → (Nat → Nat) → (Nat → Nat)
  | 0, _, A => A
  | d + 1, n, A => wst d (nx n) (hr (wt A n))
theorem Bd_sh {a : Nat → Nat} {x : Nat} (h : Bd a) (hx : x < 8) : Bd (upN a 14 x) := by
  obtain ⟨b0, b1, b14, b15, bw, bg, bc, bd, bs⟩ := h
  have o : ∀ i, i ≠ 14 → upN a 14 x i = a i := fun i hi => upN_n hi
  refine ⟨by rw [o _ (by omega)]; exact b0, by rw [o _ (by omega)]; exact b1, by rw [upN_s]; exact hx, by rw [o _ (by omega)]; exact b15, fun i hi => by rw [o _ (by omega)]; exact bw i hi, fun g hg => ?_, fun k hk => ?_, fun j k hj hk => ?_, fun i => ?_⟩
  · rw [o _ (by omega)] at hg
    by_cases z : 6 + g = 14
    · omega
    · rw [o _ (by omega), o _ z]; exact bg g hg
  · rw [o _ (by omega)] at hk
    rw [o _ (by omega), o _ (by omega)]; exact bc k hk
  · rw [o _ (by omega)] at hj hk
    rw [o _ (by omega), o _ (by omega)]; exact bd j k hj hk
  · by_cases z : i = 14
    · subst z; rw [upN_s]; omega
    · rw [o _ z]; exact bs i
theorem Bd_wt {a : Nat → Nat} {n : Nat} (h : Bd a) : Bd (wt a n) := by
  unfold wt
  split
  · rename_i c
    have h1 := h.2.1
    exact Bd_sh h (q_xor _ h.2.2.1 _ (by omega)).2
  · exact h
theorem wt_o {a : Nat → Nat} {n i : Nat} (h : i ≠ 14) : wt a n i = a i := by
  unfold wt
  split
  · exact upN_n h
  · rfl
theorem wy {n : Nat} (hn : n < 2147483648) : ((lN n * 1103515245) + 12345) - ((lN n * 1103515245) + 12345) / 2147483648 * 2147483648 = lN (nx n) := by
  rw [show (1103515245 : Int64) = lN 1103515245 from rfl, show (12345 : Int64) = lN 12345 from rfl, show (2147483648 : Int64) = lN 2147483648 from rfl, lN_mul, lN_add, pk_lRem (by omega) (by omega) (by omega)]
  rfl
theorem wv {n : Nat} : ((lN (nx n) / 65536) - (lN (nx n) / 65536) / 4 * 4).toInt32 = nI (vv n) := by
  have : nx n < 2147483648 := Nat.mod_lt _ (by omega)
  rw [show (65536 : Int64) = lN 65536 from rfl, show (4 : Int64) = lN 4 from rfl, pk_lDiv (by omega) (by omega) (by omega), pk_lRem (by omega) (by omega) (by omega), lN_i]
  rfl
section O13
variable {σ τ : St} {a1 a2 a3 a4 : Int32}
theorem vv4 {n : Nat} : vv n < 4 := Nat.mod_lt _ (by omega)
theorem nx31 {n : Nat} : nx n < 2147483648 := Nat.mod_lt _ (by omega)
set_option maxHeartbeats 4000000 in
set_option maxRecDepth 100000 in
theorem c_winter {A0 : Nat → Nat} {n0 m : Nat} (hs0 : StR σ 2 A0) (hW : WFA A0) (hn0 : n0 < 2147483648) (hm : m ≤ 60) {Q : Int32 → St → Prop} (hq : ∀ σ', (∀ q, q < 56 ∨ 64 < q → σ' q = σ q) → Q (nI (cnt (wst m n0 A0) 23 (A0 0))) σ') : V_X0_overBehindWinter 2 (nI n0) (nI m) σ Q := by
  unfold V_X0_overBehindWinter B_X0_overBehindWinter_e
  have h15 := hW.2.2.1
  have h7 := hW.2.1
  rw [nI_l (by omega)]
  refine s_copy hs0 hW.2.1 hW.1.2.1 (by omega) (fun s1 hs1 f1 => ?_)
  have loop : ∀ d x n (A : Nat → Nat) (s : St), x + d = m → n < 2147483648 → Bd A → A 0 = A0 0 → A 15 + d < 1000000 → StR s 56 A → (∀ q, q < 56 ∨ 64 < q → s q = σ q) → wst m n0 A0 = wst d n A → R_X0_overBehindWinter 2 (nI n0) (nI m) Q 15 [nI x] [lN n] s := by
    intro d
    induction d with
    | zero =>
      intro x n A s hx hn hB h0 h15 hs hf hw
      refine i_X0_overBehindWinter_15 _ _ _ _ _ _ _ ?_
      unfold B_X0_overBehindWinter_15
      refine ⟨fun _ => s_over hs hB.2.2.2.2.2.2.2.2 (by omega) ?_, fun c => absurd (by rw [q_le (by omega) (by omega)]; omega) c⟩
      have := hq s hf
      rw [hw] at this
      rw [h0]
      exact this
    | succ d ih =>
      intro x n A s hx hn hB h0 h15 hs hf hw
      refine i_X0_overBehindWinter_15 _ _ _ _ _ _ _ ?_
      unfold B_X0_overBehindWinter_15
      refine ⟨fun c => absurd (by rw [q_le (by omega) (by omega)] at c; exact c) (by omega), fun _ => fun v2 e2 v3 e3 => ?_⟩
      rw [wy hn] at e2
      subst e2
      rw [wv] at e3
      subst e3
      have hv := vv4 (n := n)
      have next : ∀ s', StR s' 56 (wt A n) → (∀ q, q < 56 ∨ 64 < q → s' q = σ q) → R_X0_overBehindWinter 2 (nI n0) (nI m) Q 71 [nI x] [lN (nx n)] s' := fun s' hs' hf' => by
        refine i_X0_overBehindWinter_71 _ _ _ _ _ _ _ ?_
        unfold B_X0_overBehindWinter_71
        have e15 : wt A n 15 = A 15 := wt_o (by omega)
        have e0 : wt A n 0 = A 0 := wt_o (by omega)
        refine s_passHour hs' (Bd_wt hB) (fun s2 hs2 f2 => ?_)
        rw [nI_1]
        exact ih (x + 1) (nx n) (hr (wt A n)) s2 (by omega) nx31 (Bd_hr (Bd_wt hB) (by omega)) (by rw [hr_lo (by omega), e0, h0]) (by rw [hr_15 (by omega), e15]; omega) hs2 (fun q hq => by rw [f2 q (by omega)]; exact hf' q hq) (by rw [hw]; rfl)
      rw [hs.2.1]
      have h1 := hB.2.1
      by_cases c : vv n < A 1
      · have ew : wt A n = upN A 14 (A 14 ^^^ 2 ^ vv n) := by unfold wt; rw [if_pos c]
        refine br_f (by rw [q_le (by omega) (by omega)]; omega) ?_
        unfold V_X8_turn B_X8_turn_e
        intro s3 f3
        rw [hs.2.2.1, q_shl (by omega), (q_xor _ hB.2.2.1 _ (by omega)).1] at f3
        subst f3
        exact next _ (by rw [ew]; exact hs.shut (by omega)) (fun q hq => by rw [us_ne (by omega)]; exact hf q hq)
      · have ew : wt A n = A := by unfold wt; rw [if_neg c]
        exact br_t (by rw [q_le (by omega) (by omega)]; omega) (next s (by rw [ew]; exact hs) hf)
  exact loop m 0 n0 A0 s1 (by omega) hn0 hW.1 rfl (by omega) hs1 (fun q hq => f1 q (by omega)) rfl
set_option maxHeartbeats 4000000 in
set_option maxRecDepth 100000 in
theorem m_winter {S : SS} {B : CB} {n0 m : Nat} (HM : MR τ S B) (hW : WFA (S 0)) (hn0 : n0 < 2147483648) (hm : m ≤ 60) {Q : Int32 → St → Prop} (hq : ∀ τ', (∀ q, q ≠ 5 → τ' q = τ q) → Q (nI (cnt (wst m n0 (S 0)) 23 (S 0 0))) τ') : V_X11_layHand τ (fun s3 => R_X11_winters (nI n0) (nI m) Q 41 [0] [(nI n0).toInt64] s3) := by
  have h15 := hW.2.2.1
  have h7 := hW.2.1
  have h3 := hW.1.2.1
  rw [nI_l (by omega)]
  refine m_layHand HM.1 (fun row hrow => ?_)
  have loop : ∀ d x n (A : Nat → Nat) (row : Nat → Int32), x + d = m → n < 2147483648 → Bd A → A 0 = S 0 0 → A 1 = S 0 1 → A 15 + d < 1000000 → (∀ j, j < 43 → row j = nI (A j)) → wst m n0 (S 0) = wst d n A → R_X11_winters (nI n0) (nI m) Q 41 [nI x] [lN n] (us τ 5 row) := by
    intro d
    induction d with
    | zero =>
      intro x n A row hx hn hB h0 h1 h15 hrw hw
      refine i_X11_winters_41 _ _ _ _ _ _ ?_
      unfold B_X11_winters_41
      refine ⟨fun _ => m_manyAt (a := A) (fun j hj => by rw [us_same]; exact hrw j hj) (by omega) (by omega) (by omega) hB.2.2.2.2.2.2.2.2 (s := 23) (by omega) ?_, fun c => absurd (by rw [q_le (by omega) (by omega)]; omega) c⟩
      have := hq (us τ 5 row) (fun q hq => us_ne hq)
      rw [hw] at this
      rw [h0]
      exact this
    | succ d ih =>
      intro x n A row hx hn hB h0 h1 h15 hrw hw
      refine i_X11_winters_41 _ _ _ _ _ _ ?_
      unfold B_X11_winters_41
      refine ⟨fun c => absurd (by rw [q_le (by omega) (by omega)] at c; exact c) (by omega), fun _ => fun v2 e2 v3 e3 => ?_⟩
      rw [wy hn] at e2
      subst e2
      rw [wv] at e3
      subst e3
      have hv := vv4 (n := n)
      have h1b := hB.2.1
      have HM5 : MR (us τ 5 row) S B := HM.congr (fun q hq => us_ne (by omega))
      have next : ∀ t0 x14, x14 = nI (wt A n 14) → nI (A 14) ^^^ t0 = x14 → R_X11_winters (nI n0) (nI m) Q 98 [nI x, t0, nI (A 14), 14] [lN (nx n)] (us τ 5 row) := fun t0 x14 ex et => by
        refine i_X11_winters_98 _ _ _ _ _ _ _ _ _ ?_
        unfold B_X11_winters_98
        have e15 : wt A n 15 = A 15 := wt_o (by omega)
        have e0 : wt A n 0 = A 0 := wt_o (by omega)
        have e1 : wt A n 1 = A 1 := wt_o (by omega)
        rw [et, ex, show (14 : Int32) = nI 14 from rfl, nI_clamp (by omega)]
        refine ⟨vp_in_nI (by omega) (by omega), fun s1 f1 => ?_⟩
        rw [us_same, us_us] at f1
        subst f1
        refine m_goHour (a := wt A n) (fun j hj => ?_) (by omega) (by omega) (Bd_wt hB) (fun row' hr' => ?_)
        · rw [us_same]
          unfold upd
          by_cases z : j = 14
          · rw [if_pos z, z]
          · rw [if_neg z, wt_o z]; exact hrw j hj
        · rw [us_us, nI_1]
          exact ih (x + 1) (nx n) (hr (wt A n)) row' (by omega) nx31 (Bd_hr (Bd_wt hB) (by omega)) (by rw [hr_lo (by omega), e0, h0]) (by rw [hr_lo (by omega), e1, h1]) (by rw [hr_15 (by omega), e15]; omega) hr' (by rw [hw]; rfl)
      rw [us_same, hrw 14 (by omega)]
      by_cases c : vv n < A 1
      · have ew : wt A n 14 = A 14 ^^^ 2 ^ vv n := by unfold wt; rw [if_pos c, upN_s]
        refine m_isC1 HM5 h3 (by unfold okI; rw [nI_toInt (by omega)]; omega) (br_f (by decide) (next _ _ rfl ?_))
        rw [q_shl (by omega), (q_xor _ hB.2.2.1 _ (by omega)).1, ew]
      · have ew : wt A n 14 = A 14 := by unfold wt; rw [if_neg c]
        refine m_isC0 HM5 h3 (by unfold okI; rw [nI_toInt (by omega)]; omega) (br_t rfl (next _ _ rfl ?_))
        rw [ew, Int32.xor_zero]
  exact loop m 0 n0 (S 0) row (by omega) hn0 hW.1 rfl rfl (by omega) hrow rfl
set_option maxHeartbeats 4000000 in
set_option maxRecDepth 100000 in
theorem p_winters (hJ : J σ τ) : V_X10_winters a1 a2 σ (fun r σ' => V_X11_winters a1 a2 τ (fun r' τ' => r = r' ∧ J σ' τ')) := by
  obtain ⟨S, B, HC, HM, HW⟩ := hJ
  unfold V_X10_winters B_X10_winters_e V_X11_winters B_X11_winters_e
  by_cases k1 : okI a1 0 999999
  · refine cw1 k1 rfl rfl (br_f (by decide) ?_)
    obtain ⟨n, -, hn, rfl⟩ := okI_ex (a := 0) (b := 999999) k1
    by_cases k2 : okI a2 0 60
    · refine cw1 k2 rfl rfl (fr_t (by decide) ?_)
      obtain ⟨m, -, hm, rfl⟩ := okI_ex (a := 0) (b := 60) k2
      refine c_winter HC.1.1 HW.1 (by omega) hm (fun σ' f => ?_)
      exact mw1 k1 rfl rfl (br_f (by decide) (mw1 k2 rfl rfl (fr_t (by decide) (m_winter HM HW.1 (by omega) hm (fun τ' g => ⟨rfl, JJ HC HM HW (fun q hq => f q (by omega)) (fun q hq => g q (by omega))⟩)))))
    · exact cw0 k2 rfl rfl (fr_f (by decide) (c_bad HC (fun σ' HC' => mw1 k1 rfl rfl (br_f (by decide) (mw0 k2 rfl rfl (fr_f (by decide) (i_X11_winters_24 _ _ _ _ (m_bad HM (fun τ' HM' => ⟨rfl, S, bb B 0, HC', HM', HW⟩)))))))))
  · exact cw0 k1 rfl rfl (br_t (by decide) (c_bad HC (fun σ' HC' => mw0 k1 rfl rfl (br_t (by decide) (i_X11_winters_24 _ _ _ _ (m_bad HM (fun τ' HM' => ⟨rfl, S, bb B 0, HC', HM', HW⟩)))))))
end O13
