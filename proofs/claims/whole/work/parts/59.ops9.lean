/-! the street and its past change, nothing else -/
theorem CR.step {σ σ' : St} {S : SS} {B : CB} {A' : Nat → Nat} (H : CR σ S B) (hW : WFA (S 0)) (e : ∀ q, ¬ (2 ≤ q ∧ q ≤ 12) → σ' q = σ q) (hs : StR σ' 2 A') (hp : PaR σ' 11 A') (f : ∀ i, (2 ≤ i ∧ i < 5) ∨ (43 ≤ i ∧ i < 101) → A' i = S 0 i) : CR σ' (sA S A') B := by
  obtain ⟨-, -, -, w2, w3, w4, -⟩ := hW
  refine H.sc (fun q hq => e q (by omega)) ⟨hs, hp, H.1.2.2.1.c (e _ (by omega)) (e _ (by omega)) w2 (f _ (by omega)) (fun i h1 h2 => f i (by omega)), H.1.2.2.2.1.c (e _ (by omega)) (e _ (by omega)) w3 (f _ (by omega)) (fun i h1 h2 => f i (by omega)), H.1.2.2.2.2.c (e _ (by omega)) (e _ (by omega)) w4 (f _ (by omega)) (fun i h1 h2 => f i (by omega))⟩ ?_
  obtain ⟨-, -, -, h4, -⟩ := H
  unfold RowC at *
  rw [e 13 (by omega), e 15 (by omega), e 17 (by omega)]
  exact h4
theorem it_tl {a : Nat → Nat} {i : Nat} (h0 : a 0 ≤ 8) (h : i < 6 ∨ 16 ≤ i) (n : Nat) : it n a i = a i := by
  rcases h with h | h
  · exact it_lo h n
  · exact it_hi h0 h n
theorem WFA_it {A : Nat → Nat} (h : WFA A) {m : Nat} (hm : A 15 + m ≤ 9999) : WFA (it m A) := by
  have h0 := h.1.1
  have o := fun i hi => it_tl (a := A) (i := i) h0 hi m
  have o0 := o 0 (by omega)
  have hk := h.2.2.2.2.2.2.2.2.2.2.2
  have h7 := h.2.1
  refine h.upd (Bd_it h.1 m (by omega)) (by omega) (by rw [it_15 h0]; exact hm) ⟨o _ (by omega), fun i h1 h2 => o i (by omega)⟩ ⟨o _ (by omega), fun i h1 h2 => o i (by omega)⟩ ⟨o _ (by omega), fun i h1 h2 => o i (by omega)⟩ (Or.inr ⟨o _ (by omega), o0, fun i h1 => o i (by omega)⟩) (fun g hg => ?_)
  rw [o _ (by omega)]
  exact hk g (by omega)
theorem q_xor : ∀ m, m < 8 → ∀ k, k < 3 → nI m ^^^ nI (2 ^ k) = nI (m ^^^ 2 ^ k) ∧ m ^^^ 2 ^ k < 8 := by decide +kernel
def ub (A : Nat → Nat) : Nat → Nat := fun i => if i = 5 then A 5 - 1 else if 6 ≤ i ∧ i < 16 then A (101 + 10 * (A 5 - 1) + (i - 6)) else A i
theorem ub_o {A : Nat → Nat} {i : Nat} (h5 : i ≠ 5) (h : ¬ (6 ≤ i ∧ i < 16)) : ub A i = A i := by unfold ub; rw [if_neg h5, if_neg h]
theorem ub_k {A : Nat → Nat} {k : Nat} (h : k < 10) : ub A (6 + k) = A (101 + 10 * (A 5 - 1) + k) := by
  unfold ub
  rw [if_neg (by omega), if_pos (by omega)]
  exact congrArg A (by omega)
theorem ub_5 {A : Nat → Nat} : ub A 5 = A 5 - 1 := if_pos rfl
theorem WFA_ub {A : Nat → Nat} (h : WFA A) (hn : 0 < A 5) : WFA (ub A) := by
  obtain ⟨⟨b0, b1, b14, b15, bw, bg, bc, bd, bs⟩, w0, w15, w2, w3, w4, w5, wse, wno, wma, wpa, wmk⟩ := h
  have o := fun i (h : i < 6 ∨ 16 ≤ i) (h5 : i ≠ 5) => ub_o (A := A) (i := i) h5 (by omega)
  have o0 := o 0 (by omega) (by omega)
  have o1 := o 1 (by omega) (by omega)
  have o2 := o 2 (by omega) (by omega)
  have o3 := o 3 (by omega) (by omega)
  have o4 := o 4 (by omega) (by omega)
  have o5 := ub_5 (A := A)
  obtain ⟨p1, p2, p3⟩ := wpa (A 5 - 1) (by omega)
  have o14 : ub A 14 = A (101 + 10 * (A 5 - 1) + 8) := ub_k (k := 8) (by omega)
  have o15 : ub A 15 = A (101 + 10 * (A 5 - 1) + 9) := ub_k (k := 9) (by omega)
  refine ⟨⟨by omega, by omega, by omega, by omega, fun i hi => ?_, fun g hg => ?_, fun k hk => ?_, fun j k hj hk => ?_, fun i => ?_⟩, by omega, by omega, by omega, by omega, by omega, by omega, fun i hi => ?_, fun i hi => ?_, fun i hi => ?_, fun r hr => ?_, fun g hg => ?_⟩
  · rw [o _ (by omega) (by omega)]; exact bw i hi
  · rw [o (22 + g) (by omega) (by omega), ub_k (by omega)]; exact ⟨(bg g (by omega)).1, p1 g (by omega)⟩
  · rw [o (37 + k) (by omega) (by omega), o (40 + k) (by omega) (by omega)]; exact bc k (by omega)
  · rw [o (40 + j) (by omega) (by omega), o (40 + k) (by omega) (by omega)]; exact bd j k (by omega) (by omega)
  · unfold ub
    split
    · omega
    · split
      · exact bs _
      · exact bs _
  · rw [o (43 + 2 * i) (by omega) (by omega), o (43 + 2 * i + 1) (by omega) (by omega)]; exact wse i (by omega)
  · rw [o (53 + 4 * i + 1) (by omega) (by omega), o (53 + 4 * i + 2) (by omega) (by omega)]; exact wno i (by omega)
  · rw [o (77 + 4 * i + 1) (by omega) (by omega), o (77 + 4 * i + 2) (by omega) (by omega)]; exact wma i (by omega)
  · rw [o (101 + 10 * r + 8) (by omega) (by omega), o (101 + 10 * r + 9) (by omega) (by omega)]
    refine ⟨fun g hg => ?_, (wpa r (by omega)).2⟩
    rw [o _ (by omega) (by omega)]
    exact (wpa r (by omega)).1 g (by omega)
  · rw [o _ (by omega) (by omega)]; exact wmk g (by omega)
section O9
variable {σ τ : St} {a1 a2 a3 a4 : Int32}
set_option maxHeartbeats 4000000 in
set_option maxRecDepth 100000 in
theorem m_goHours {a : Nat → Nat} (hR : RowN τ 1 181 a) (hB : Bd a) (h15 : a 15 ≤ 9999) {m : Nat} (hm : m < 1000) {Q : St → Prop} (hq : ∀ row : Nat → Int32, (∀ i, i < 181 → row i = nI (it (min m (9999 - a 15)) a i)) → Q (us τ 1 row)) : V_X11_goHours 1 181 (nI m) τ Q := by
  unfold V_X11_goHours B_X11_goHours_e
  have loop : ∀ d i (row : Nat → Int32), i + d = m → a 15 + i ≤ 9999 → (∀ j, j < 181 → row j = nI (it i a j)) → R_X11_goHours 1 181 (nI m) Q 2 [nI i] [] (us τ 1 row) := by
    intro d
    induction d with
    | zero =>
      intro i row hi h9 hr
      refine i_X11_goHours_2 _ _ _ _ _ _ ?_
      unfold B_X11_goHours_2
      refine ⟨fun _ => hq row ?_, fun c => absurd (by rw [q_le (by omega) (by omega)]; omega) c⟩
      rw [(by omega : min m (9999 - a 15) = i)]
      exact hr
    | succ d ih =>
      intro i row hi h9 hr
      refine i_X11_goHours_2 _ _ _ _ _ _ ?_
      unfold B_X11_goHours_2
      refine ⟨fun c => absurd (by rw [q_le (by omega) (by omega)] at c; exact c) (by omega), fun _ => ⟨by rw [show (15 : Int32) = nI 15 from rfl]; exact vp_in_nI (by omega) (by omega), ?_⟩⟩
      rw [us_same, hr 15 (by omega), it_15 hB.1]
      refine ⟨fun c => ?_, fun c => ?_⟩
      · rw [show (9999 : Int32) = nI 9999 from rfl, q_le (by omega) (by omega)] at c
        refine hq row ?_
        rw [(by omega : min m (9999 - a 15) = i)]
        exact hr
      · rw [show (9999 : Int32) = nI 9999 from rfl, q_le (by omega) (by omega)] at c
        refine m_goHour (a := it i a) (fun j hj => by rw [us_same]; exact hr j hj) (by omega) (by omega) (Bd_it hB i (by omega)) (fun row' hr' => ?_)
        rw [us_us, nI_1]
        exact ih (i + 1) row' (by omega) (by omega) (fun j hj => by rw [hr' j hj, it_succ])
  have := loop m 0 (τ 1) (by omega) (by omega) hR
  rw [us_self] at this
  exact this
theorem sA0R {S : SS} {A : Nat → Nat} (h : RowN τ 1 181 (sA S A 0)) : RowN τ 1 181 A := h
set_option maxHeartbeats 4000000 in
set_option maxRecDepth 100000 in
theorem p_hours (hJ : J σ τ) : V_X10_hours a1 σ (fun r σ' => V_X11_hours a1 τ (fun r' τ' => r = r' ∧ J σ' τ')) := by
  obtain ⟨S, B, HC, HM, HW⟩ := hJ
  unfold V_X10_hours B_X10_hours_e V_X11_hours B_X11_hours_e
  by_cases k1 : okI a1 1 60
  · refine cw1 k1 rfl rfl (fr_t (by decide) ?_)
    obtain ⟨m, hm1, hm, rfl⟩ := okI_ex (a := 1) (b := 60) k1
    refine c_keep HC.1.1 HC.1.2.1 HW.1 (fun σ1 hp1 hf1 => ?_)
    have hWs := WFA_sv HW.1
    obtain ⟨wB, w0, w15, w2, w3, w4, w5, wse, wno, wma, wpa, wmk⟩ := HW.1
    have e15 : sv (S 0) 15 = S 0 15 := sv_lo (by omega) (by omega)
    have hs1 : StR σ1 2 (sv (S 0)) := (HC.1.1.congr (fun q h1 h2 => hf1 q (by omega) (by omega))).cA (fun i h1 h2 => sv_lo (by omega) (by omega)) w0 wB.2.1
    have em : (if (9999 - (σ1 2 11)) < nI m then (9999 - (σ1 2 11)) else nI m) = nI (min m (9999 - sv (S 0) 15)) := by
      have e99 : 9999 - (σ1 2 11) = nI (9999 - sv (S 0) 15) := by rw [hs1.2.2.2.1, show (9999 : Int32) = nI 9999 from rfl, pk_sub (by omega)]
      rw [e99]
      by_cases c : 9999 - sv (S 0) 15 < m
      · rw [if_pos (by rw [q_lt (by omega) (by omega)]; exact c)]
        exact congrArg nI (by omega)
      · rw [if_neg (by rw [q_lt (by omega) (by omega)]; exact c)]
        exact congrArg nI (by omega)
    rw [em]
    have h9 : sv (S 0) 15 + min m (9999 - sv (S 0) 15) ≤ 9999 := by omega
    have hW2 := WFA_it hWs h9
    refine s_pass hs1 hWs.1 (by omega) (fun σ2 hs2 hf2 => s_over hs2 hW2.sm (by have := hW2.2.1; omega) ?_)
    refine mw1 k1 rfl rfl (fr_t (by decide) (m_save HM HW.1 (fun τ1 HM1 => m_goHours (sA0R HM1.1) hWs.1 (by omega) (by omega) (fun row hrow => m_manyAt (a := it (min m (9999 - sv (S 0) 15)) (sv (S 0))) (fun j hj => by rw [us_same]; exact hrow j hj) (by omega) (by omega) (by have := hW2.2.1; omega) hW2.sm (s := 23) (by omega) ?_))))
    have HM2 := HM1.row hrow
    rw [sA_sA] at HM2
    have o5 : ∀ i, i < 6 ∨ 16 ≤ i → it (min m (9999 - sv (S 0) 15)) (sv (S 0)) i = sv (S 0) i := fun i hi => it_tl hWs.1.1 hi _
    refine ⟨rfl, _, B, HC.step HW.1 (fun q hq => by rw [hf2 q (by omega), hf1 q (by omega) (by omega)]) hs2 (hp1.c (hf2 _ (by omega)) (hf2 _ (by omega)) (o5 _ (by omega)) (o5 _ (by omega)) (fun i hi => o5 i (by omega))) (fun i hi => by rw [o5 i (by omega)]; exact sv_lo (by omega) (by omega)), HM2, HW.sA hW2⟩
  · exact cw0 k1 rfl rfl (fr_f (by decide) (c_bad HC (fun σ' HC' => mw0 k1 rfl rfl (fr_f (by decide) (m_bad HM (fun τ' HM' => ⟨rfl, S, bb B 0, HC', HM', HW⟩))))))
theorem StR.shut {h : Nat} {a : Nat → Nat} (H : StR σ h a) (h7 : a 0 ≤ 7) {x : Nat} : StR (us σ h (upd (σ h) 10 (nI x))) h (upN a 14 x) := by
  obtain ⟨r0, r1, r14, r15, rw_, rk, rm, rs, rg, rb, rh⟩ := H
  have eb : ∀ s, bh (upN a 14 x) s = bh a s := fun s => by
    unfold bh
    rw [upN_n (j := 1) (by omega), upN_n (j := 40) (by omega), upN_n (j := 41) (by omega), upN_n (j := 42) (by omega)]
  unfold StR
  rw [us_same, pk_us, pk_un (by omega), pk_un (by omega), pk_un (by omega), us_ne (j := h + 1) (by omega), us_ne (j := h + 2) (by omega), us_ne (j := h + 3) (by omega), us_ne (j := h + 4) (by omega), us_ne (j := h + 5) (by omega), us_ne (j := h + 6) (by omega), us_ne (j := h + 7) (by omega), upN_s, upN_n (j := 0) (by omega), upN_n (j := 1) (by omega), upN_n (j := 15) (by omega)]
  exact ⟨r0, r1, rfl, r15, fun i hi => by rw [upN_n (by omega)]; exact rw_ i hi, fun g hg => by rw [upN_n (by omega)]; exact rk g hg, fun g hg h7 => by rw [upN_n (by omega)]; exact rm g hg h7, fun g hg => if z : 6 + g = 14 then by omega else by rw [upN_n z]; exact rs g hg, fun k hk => by rw [upN_n (by omega)]; exact rg k hk, fun k hk => by rw [upN_n (by omega)]; exact rb k hk, fun s hs => by rw [eb]; exact rh s hs⟩
set_option maxHeartbeats 4000000 in
set_option maxRecDepth 100000 in
theorem p_shuts (hJ : J σ τ) : V_X10_shuts a1 σ (fun r σ' => V_X11_shuts a1 τ (fun r' τ' => r = r' ∧ J σ' τ')) := by
  obtain ⟨S, B, HC, HM, HW⟩ := hJ
  unfold V_X10_shuts B_X10_shuts_e V_X11_shuts B_X11_shuts_e
  obtain ⟨wB, w0, w15, w2, w3, w4, w5, wse, wno, wma, wpa, wmk⟩ := id HW.1
  have h3 := wB.2.1
  by_cases k1 : okI a1 0 ((S 0 1 : Int) - 1)
  · refine c_isC1 HC h3 k1 (fr_t (by decide) ?_)
    obtain ⟨k, hk, rfl⟩ := okG k1
    refine c_keep HC.1.1 HC.1.2.1 HW.1 (fun σ1 hp1 hf1 => ?_)
    have hWs := WFA_sv HW.1
    have hs1 : StR σ1 2 (sv (S 0)) := (HC.1.1.congr (fun q h1 h2 => hf1 q (by omega) (by omega))).cA (fun i h1 h2 => sv_lo (by omega) (by omega)) w0 h3
    obtain ⟨ex, ey⟩ := q_xor (sv (S 0) 14) hWs.1.2.2.1 k (by omega)
    unfold V_X8_turn B_X8_turn_e
    intro s3 f3
    rw [hs1.2.2.1, q_shl (by omega), ex] at f3
    subst f3
    have hs3 := hs1.shut hWs.2.1 (x := sv (S 0) 14 ^^^ 2 ^ k)
    refine v_shutBit (m := sv (S 0) 14 ^^^ 2 ^ k) (by omega) (by omega) (by rw [us_same, pk_us]) ?_
    refine m_isC1 HM h3 k1 (fr_t (by decide) (m_save HM HW.1 (fun τ1 HM1 => fun s4 f4 => ?_)))
    rw [show τ1 1 14 = nI (sv (S 0) 14) from (sA0R HM1.1) 14 (by omega), q_shl (by omega), ex] at f4
    have HM2 := HM1.up (i := 14) (v := sv (S 0) 14 ^^^ 2 ^ k)
    rw [← f4, sA_sA] at HM2
    have o : ∀ i, i ≠ 14 → upN (sv (S 0)) 14 (sv (S 0) 14 ^^^ 2 ^ k) i = sv (S 0) i := fun i hi => upN_n hi
    refine ⟨?_, _, B, HC.step HW.1 (fun q hq => by rw [us_ne (by omega), hf1 q (by omega) (by omega)]) hs3 (hp1.c (us_ne (by omega)) (us_ne (by omega)) (o _ (by omega)) (o _ (by omega)) (fun i hi => o i (by omega))) (fun i hi => by rw [o i (by omega)]; exact sv_lo (by omega) (by omega)), HM2, HW.sA ?_⟩
    · rw [f4, us_same, pk_us, q_bit (by omega) (by omega)]
    · obtain ⟨⟨b0, b1, b14, b15, bw, bg, bc, bd, bs⟩, v0, v15, -⟩ := id hWs
      refine hWs.upd ⟨by rw [o _ (by omega)]; exact b0, by rw [o _ (by omega)]; exact b1, by rw [upN_s]; exact ey, by rw [o _ (by omega)]; exact b15, fun i hi => by rw [o _ (by omega)]; exact bw i hi, fun g hg => ?_, fun k hk => ?_, fun j k hj hk => ?_, fun i => ?_⟩ (by rw [o _ (by omega)]; exact v0) (by rw [o _ (by omega)]; exact v15) ⟨o _ (by omega), fun i h1 h2 => o i (by omega)⟩ ⟨o _ (by omega), fun i h1 h2 => o i (by omega)⟩ ⟨o _ (by omega), fun i h1 h2 => o i (by omega)⟩ (Or.inr ⟨o _ (by omega), o _ (by omega), fun i h1 => o i (by omega)⟩) (fun g hg => ?_)
      · rw [o _ (by omega)] at hg
        rw [o _ (by omega), o _ (by omega)]; exact bg g hg
      · rw [o _ (by omega)] at hk
        rw [o _ (by omega), o _ (by omega)]; exact bc k hk
      · rw [o _ (by omega)] at hj hk
        rw [o _ (by omega), o _ (by omega)]; exact bd j k hj hk
      · by_cases z : i = 14
        · subst z; rw [upN_s]; omega
        · rw [o _ z]; exact bs i
      · rw [o _ (by omega)] at hg
        rw [o _ (by omega)]; exact hWs.2.2.2.2.2.2.2.2.2.2.2 g hg
  · exact c_isC0 HC h3 k1 (fr_f (by decide) (c_bad HC (fun σ' HC' => m_isC0 HM h3 k1 (fr_f (by decide) (m_bad HM (fun τ' HM' => ⟨rfl, S, bb B 0, HC', HM', HW⟩))))))
set_option maxHeartbeats 4000000 in
set_option maxRecDepth 100000 in
theorem p_undo (hJ : J σ τ) : V_X10_undo σ (fun r σ' => V_X11_undo τ (fun r' τ' => r = r' ∧ J σ' τ')) := by
  obtain ⟨S, B, HC, HM, HW⟩ := hJ
  unfold V_X10_undo B_X10_undo_e
  obtain ⟨wB, w0, w15, w2, w3, w4, w5, wse, wno, wma, wpa, wmk⟩ := id HW.1
  obtain ⟨hst, hpa, hse, hno, hma⟩ := id HC.1
  have hsm : Sm (S 0) := HW.1.sm
  rw [show σ 11 1 = nI (S 0 5) from hpa.1]
  by_cases k5 : S 0 5 = 0
  · rw [k5]
    refine fr_f rfl (c_no HC (fun σ' HC' => ?_))
    unfold V_X11_undo B_X11_undo_e
    rw [HM.1 5 (by omega), k5]
    exact fr_f rfl (m_no HM (fun τ' HM' => ⟨rfl, S, bb B 1, HC', HM', HW⟩))
  · have z0 : ¬ nI (S 0 5) = 0 := by rw [show (0 : Int32) = nI 0 from rfl, q_eq (by omega) (by omega)]; exact k5
    refine fr_t z0 ?_
    obtain ⟨n, hn⟩ : ∃ n, S 0 5 = n + 1 := ⟨S 0 5 - 1, by omega⟩
    have hu5 : ub (S 0) 5 = n := by rw [ub_5]; omega
    have huk : ∀ k, k < 10 → ub (S 0) (6 + k) = S 0 (101 + 10 * n + k) := fun k hk => by rw [ub_k hk, hn]; rfl
    have huo : ∀ i, i ≠ 5 → ¬ (6 ≤ i ∧ i < 16) → ub (S 0) i = S 0 i := fun i h1 h2 => ub_o h1 h2
    have em1 : nI (S 0 5) - 1 = nI n := by rw [hn]; exact pk_sub (a := n + 1) (b := 1) (by omega)
    have mm : ∀ {Qm : Int32 → St → Prop}, (∀ τ', MR τ' (sA S (ub (S 0))) B → Qm (nI (ub (S 0) 15)) τ') → (∀ s1, s1 = us τ 1 (upd (τ 1) 5 (nI (S 0 5) - 1)) → R_X11_undo Qm 26 [0] [] s1) := fun {Qm} hq => by
      intro s1 f1
      rw [em1] at f1
      have loop : ∀ d i (row : Nat → Int32), i + d = 10 → (∀ j, j < 181 → row j = nI (if j = 5 then n else if 6 ≤ j ∧ j < 6 + i then S 0 (101 + 10 * n + (j - 6)) else S 0 j)) → R_X11_undo Qm 26 [nI i] [] (us τ 1 row) := by
        intro d
        induction d with
        | zero =>
          intro i row hi hrow
          refine i_X11_undo_26 _ _ _ ?_
          unfold B_X11_undo_26
          have hrr : ∀ j, j < 181 → row j = nI (ub (S 0) j) := fun j hj => by
            rw [hrow j hj]
            by_cases z : j = 5
            · subst z; rw [if_pos rfl, hu5]
            · rw [if_neg z]
              by_cases z2 : 6 ≤ j ∧ j < 16
              · rw [if_pos (by omega), (by omega : j = 6 + (j - 6)), huk _ (by omega)]
                exact congrArg (fun x => nI (S 0 x)) (by omega)
              · rw [if_neg (by omega), huo j z z2]
          refine ⟨fun _ => ?_, fun c => absurd (by rw [show (10 : Int32) = nI 10 from rfl, q_le (by omega) (by omega)]; omega) c⟩
          rw [us_same, hrr 15 (by omega)]
          exact hq _ (HM.row hrr)
        | succ d ih =>
          intro i row hi hrow
          refine i_X11_undo_26 _ _ _ ?_
          unfold B_X11_undo_26
          have r5 : row 5 = nI n := by rw [hrow 5 (by omega), if_pos rfl]
          rw [us_same, r5]
          simp (disch := omega) only [q_m1, q_m1n, q_m1a, q_eq, q_le, q_lt, nI_add, pk_sub, pk_mul, pk_div, pk_rem, nI_clamp, q_in, zl0, zl1, zl2, zl3, zl4, zl5, zl6, zl7, zl8, zl9, zl10, zl11, zl12, zl13, zl14, zl15, zl16, zl17, zl18, zl19, zl20, zl21, zl22, zl23, zl24, zl25, zl26, zl27, zl28, zl29, zl30, zl31, zl32, zl36, zl37, zl38, zl40, zl42, zl43, zl44, zl48, zl53, zl54, zl57, zl59, zl60, zl61, zl63, zl64, zl70, zl71, zl72, zl77, zl78, zl90, zl97, zl98, zl99, zl100, zl101, zl102, zl106, zl111, zl122, zl127, zl128, zl150, zl181, zl256, zl362, zl9999, zl999999, zl1000000]
          refine ⟨fun c => absurd c (by omega), fun _ => ⟨by omega, by omega, fun s2 f2 => ?_⟩⟩
          rw [us_us, hrow (101 + 10 * n + i) (by omega), if_neg (by omega), if_neg (by omega)] at f2
          subst f2
          refine ih (i + 1) _ (by omega) (fun j hj => ?_)
          unfold upd
          by_cases z : j = 6 + i
          · subst z
            rw [if_pos rfl, if_neg (by omega), if_pos (by omega)]
            exact congrArg (fun x => nI (S 0 x)) (by omega)
          · rw [if_neg z, hrow j hj]
            by_cases z1 : j = 5
            · rw [if_pos z1, if_pos z1]
            · rw [if_neg z1, if_neg z1]
              by_cases z2 : 6 ≤ j ∧ j < 6 + i
              · rw [if_pos z2, if_pos (by omega)]
              · rw [if_neg z2, if_neg (by omega)]
      subst f1
      refine loop 10 0 _ (by omega) (fun j hj => ?_)
      unfold upd
      by_cases z : j = 5
      · rw [if_pos z, if_pos z]
      · rw [if_neg z, if_neg z, if_neg (by omega)]; exact HM.1 j hj
    unfold V_X4_bringBack B_X4_bringBack_e
    have g0 : (0 : Int32) < nI (S 0 5) := by rw [show (0 : Int32) = nI 0 from rfl, q_lt (by omega) (by omega)]; omega
    rw [show σ 11 1 = nI (S 0 5) from hpa.1]
    refine br_t g0 ?_
    intro s1 f1
    rw [em1] at f1
    have e11 : s1 11 1 = nI n := by rw [f1, us_same, pk_us]
    rw [e11]
    simp (disch := omega) only [q_m1, q_m1n, q_m1a, q_eq, q_le, q_lt, nI_add, pk_sub, pk_mul, pk_div, pk_rem, nI_clamp, q_in, zl0, zl1, zl2, zl3, zl4, zl5, zl6, zl7, zl8, zl9, zl10, zl11, zl12, zl13, zl14, zl15, zl16, zl17, zl18, zl19, zl20, zl21, zl22, zl23, zl24, zl25, zl26, zl27, zl28, zl29, zl30, zl31, zl32, zl36, zl37, zl38, zl40, zl42, zl43, zl44, zl48, zl53, zl54, zl57, zl59, zl60, zl61, zl63, zl64, zl70, zl71, zl72, zl77, zl78, zl90, zl97, zl98, zl99, zl100, zl101, zl102, zl106, zl111, zl122, zl127, zl128, zl150, zl181, zl256, zl362, zl9999, zl999999, zl1000000]
    refine ⟨by omega, by omega, fun s2 f2 => ⟨by omega, fun s3 f3 => ⟨by omega, fun s4 f4 => ?_⟩⟩⟩
    have hfr : ∀ q, q ≠ 2 → q ≠ 6 → q ≠ 11 → s4 q = σ q := fun q h1 h2 h3 => by
      rw [f4, us_ne h1, f3, us_ne h1, f2, us_ne (j := q) (by omega), f1, us_ne h3]
    have e12 : s1 12 = σ 12 := by rw [f1, us_ne (by omega)]
    have c12 : s2 12 = σ 12 := by rw [f2, us_ne (by omega), e12]
    have d12 : s3 12 = σ 12 := by rw [f3, us_ne (by omega), c12]
    have e2 : s2 2 = σ 2 := by rw [f2, us_ne (by omega), f1, us_ne (by omega)]
    have e42 : s4 2 = upd (upd (σ 2) 10 (σ 12 (n * 9 + 7))) 11 (σ 12 (n * 9 + 8)) := by
      rw [f4, us_same, f3, us_same, e2, us_ne (by omega), c12]
    have e46 : s4 6 = va_cpy (σ 12) (s1 6) (n * 9) 0 7 := by
      rw [f4, us_ne (by omega), f3, us_ne (by omega), f2, us_same, e12]
    have e411 : s4 11 = s1 11 := by rw [f4, us_ne (by omega), f3, us_ne (by omega), f2, us_ne (by omega)]
    obtain ⟨q1, q2, q3⟩ := hpa.2 n (by omega)
    obtain ⟨r0, r1, r14, r15, rw_, rk, rm, rs, rg, rb, rh⟩ := id hst
    have eb : ∀ s, bh (ub (S 0)) s = bh (S 0) s := fun s => by
      unfold bh
      rw [huo 1 (by omega) (by omega), huo 40 (by omega) (by omega), huo 41 (by omega) (by omega), huo 42 (by omega) (by omega)]
    have u14 : ub (S 0) 14 = S 0 (101 + 10 * n + 8) := huk 8 (by omega)
    have u15 : ub (S 0) 15 = S 0 (101 + 10 * n + 9) := huk 9 (by omega)
    have c7 : σ 12 (n * 9 + 7) = nI (S 0 (101 + 10 * n + 8)) := by rw [(by omega : n * 9 + 7 = 9 * n + 7)]; exact q2
    have c8 : σ 12 (n * 9 + 8) = nI (S 0 (101 + 10 * n + 9)) := by rw [(by omega : n * 9 + 8 = 9 * n + 8)]; exact q3
    have hs4 : StR s4 2 (ub (S 0)) := by
      unfold StR
      rw [show (2 + 1 : Nat) = 3 from rfl, show (2 + 2 : Nat) = 4 from rfl, show (2 + 3 : Nat) = 5 from rfl, show (2 + 4 : Nat) = 6 from rfl, show (2 + 5 : Nat) = 7 from rfl, show (2 + 6 : Nat) = 8 from rfl, show (2 + 7 : Nat) = 9 from rfl, hfr 3 (by omega) (by omega) (by omega), hfr 4 (by omega) (by omega) (by omega), hfr 5 (by omega) (by omega) (by omega), hfr 7 (by omega) (by omega) (by omega), hfr 8 (by omega) (by omega) (by omega), hfr 9 (by omega) (by omega) (by omega), huo 0 (by omega) (by omega), huo 1 (by omega) (by omega), e46, u14, u15]
      refine ⟨by rw [e42, pk_un (by omega), pk_un (by omega)]; exact r0, by rw [e42, pk_un (by omega), pk_un (by omega)]; exact r1, by rw [e42, pk_un (by omega), pk_us]; exact c7, by rw [e42, pk_us]; exact c8, fun i hi => by rw [huo _ (by omega) (by omega)]; exact rw_ i hi, fun g hg => by rw [huo _ (by omega) (by omega)]; exact rk g hg, fun g hg h7 => by rw [huo _ (by omega) (by omega)]; exact rm g hg h7, fun g hg => ?_, fun k hk => by rw [huo _ (by omega) (by omega)]; exact rg k hk, fun k hk => by rw [huo _ (by omega) (by omega)]; exact rb k hk, fun s hs => by rw [eb]; exact rh s hs⟩
      rw [pk_cpy_in (by omega) (by omega), huk g (by omega), ← q1 g hg]
      exact congrArg (σ 12) (by omega)
    rw [hs4.2.2.2.1]
    unfold V_X11_undo B_X11_undo_e
    rw [HM.1 5 (by omega)]
    refine fr_t z0 (mm (fun τ' HM' => ⟨rfl, _, B, HC.step HW.1 (fun q hq => hfr q (by omega) (by omega) (by omega)) hs4 ⟨by rw [e411, e11, hu5], fun r hr => ?_⟩ (fun i hi => huo i (by omega) (by omega)), HM', HW.sA (WFA_ub HW.1 (by omega))⟩))
    rw [hu5] at hr
    rw [huo 0 (by omega) (by omega), huo (101 + 10 * r + 8) (by omega) (by omega), huo (101 + 10 * r + 9) (by omega) (by omega), show (11 + 1 : Nat) = 12 from rfl, hfr 12 (by omega) (by omega) (by omega)]
    refine ⟨fun g hg => ?_, (hpa.2 r (by omega)).2⟩
    rw [huo _ (by omega) (by omega)]
    exact (hpa.2 r (by omega)).1 g hg
end O9
