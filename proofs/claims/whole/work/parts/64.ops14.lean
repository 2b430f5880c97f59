/-! what is counted -/
def pb : Nat → Nat → Nat
  | 0, _ => 0
  | d + 1, x => x % 2 + pb d (x / 2)
def wg (A : Nat → Nat) : Nat → Nat
  | 0 => 0
  | g + 1 => wg A g + (if bh A (A (6 + g)) = 0 then 0 else 1)
def wb (A : Nat → Nat) (n : Nat) : Nat → Nat
  | 0 => 0
  | k + 1 => wb A n k + cnt A (A (40 + k)) n
theorem wg_le {A : Nat → Nat} : ∀ n, wg A n ≤ n
  | 0 => Nat.le_refl _
  | n + 1 => by
    have := wg_le (A := A) n
    unfold wg
    split <;> omega
theorem wb_wg {A : Nat → Nat} (hB : Bd A) : ∀ n, wb A n (A 1) = wg A n := by
  intro n
  induction n with
  | zero =>
    have z : ∀ k, wb A 0 k = 0 := fun k => by
      induction k with
      | zero => rfl
      | succ k ih => show wb A 0 k + 0 = 0; omega
    rw [z]
    rfl
  | succ n ih =>
    have hb := bh_le (s := A (6 + n)) hB
    have key : ∀ k, k ≤ A 1 → wb A (n + 1) k = wb A n k + (if 0 < bh A (A (6 + n)) ∧ bh A (A (6 + n)) ≤ k then 1 else 0) := by
      intro k
      induction k with
      | zero =>
        intro _
        rw [if_neg (by omega)]
        rfl
      | succ k ihk =>
        intro hk
        have h := ihk (by omega)
        have e1 : wb A (n + 1) (k + 1) = wb A (n + 1) k + (cnt A (A (40 + k)) n + (if A (6 + n) = A (40 + k) then 1 else 0)) := rfl
        have e2 : wb A n (k + 1) = wb A n k + cnt A (A (40 + k)) n := rfl
        rw [e1, e2, h]
        by_cases z : A (6 + n) = A (40 + k)
        · have := bh_of hB (k := k) (by omega)
          rw [z, this, if_pos rfl, if_neg (by omega), if_pos (by omega)]
          omega
        · have hne : bh A (A (6 + n)) ≠ k + 1 := fun c => by
            have := bh_at (a := A) (s := A (6 + n)) (by omega)
            rw [c] at this
            exact z this.symm
          rw [if_neg z]
          by_cases y : 0 < bh A (A (6 + n)) ∧ bh A (A (6 + n)) ≤ k
          · rw [if_pos y, if_pos (by omega)]; omega
          · rw [if_neg y, if_neg (by omega)]; omega
    have e3 : wg A (n + 1) = wg A n + (if bh A (A (6 + n)) = 0 then 0 else 1) := rfl
    rw [key (A 1) (Nat.le_refl _), e3, ih]
    by_cases z : bh A (A (6 + n)) = 0
    · rw [if_neg (by omega), if_pos z]
    · rw [if_pos (by omega), if_neg z]
def cN (S : SS) (w : Nat) : Nat := if w = 0 then S 0 0 else if w = 1 then S 0 1 else if w = 2 then S 0 15 else if w = 3 then cnt (S 0) 23 (S 0 0) else if w = 4 then wg (S 0) (S 0 0) else if w = 5 then pb 3 (S 0 14) else if w = 6 then S 0 2 else if w = 7 then S 0 3 else if w = 8 then S 0 4 else if w = 9 then S 0 5 else S 6 0
section O14
variable {σ τ : St} {a1 a2 a3 a4 : Int32}
set_option maxHeartbeats 4000000 in
set_option maxRecDepth 100000 in
theorem v_bc {k : Nat} (hk : k < 8) {Q : Int32 → St → Prop} (hq : Q (nI (pb 3 k)) σ) : V_J6_bitCount_0f7a4 (nI k) σ Q := by
  unfold V_J6_bitCount_0f7a4 B_J6_bitCount_0f7a4_e
  rcases (by omega : k = 0 ∨ k = 1 ∨ k = 2 ∨ k = 3 ∨ k = 4 ∨ k = 5 ∨ k = 6 ∨ k = 7) with rfl | rfl | rfl | rfl | rfl | rfl | rfl | rfl
  · intro v1 e1 v2 e2 v3 e3 v4 e4 v5 e5
    subst e1; subst e2; subst e3; subst e4; subst e5
    exact (show ∀ v, v = nI (pb 3 0) → Q v σ from fun v e => e ▸ hq) _ (by decide +kernel)
  · intro v1 e1 v2 e2 v3 e3 v4 e4 v5 e5
    subst e1; subst e2; subst e3; subst e4; subst e5
    exact (show ∀ v, v = nI (pb 3 1) → Q v σ from fun v e => e ▸ hq) _ (by decide +kernel)
  · intro v1 e1 v2 e2 v3 e3 v4 e4 v5 e5
    subst e1; subst e2; subst e3; subst e4; subst e5
    exact (show ∀ v, v = nI (pb 3 2) → Q v σ from fun v e => e ▸ hq) _ (by decide +kernel)
  · intro v1 e1 v2 e2 v3 e3 v4 e4 v5 e5
    subst e1; subst e2; subst e3; subst e4; subst e5
    exact (show ∀ v, v = nI (pb 3 3) → Q v σ from fun v e => e ▸ hq) _ (by decide +kernel)
  · intro v1 e1 v2 e2 v3 e3 v4 e4 v5 e5
    subst e1; subst e2; subst e3; subst e4; subst e5
    exact (show ∀ v, v = nI (pb 3 4) → Q v σ from fun v e => e ▸ hq) _ (by decide +kernel)
  · intro v1 e1 v2 e2 v3 e3 v4 e4 v5 e5
    subst e1; subst e2; subst e3; subst e4; subst e5
    exact (show ∀ v, v = nI (pb 3 5) → Q v σ from fun v e => e ▸ hq) _ (by decide +kernel)
  · intro v1 e1 v2 e2 v3 e3 v4 e4 v5 e5
    subst e1; subst e2; subst e3; subst e4; subst e5
    exact (show ∀ v, v = nI (pb 3 6) → Q v σ from fun v e => e ▸ hq) _ (by decide +kernel)
  · intro v1 e1 v2 e2 v3 e3 v4 e4 v5 e5
    subst e1; subst e2; subst e3; subst e4; subst e5
    exact (show ∀ v, v = nI (pb 3 7) → Q v σ from fun v e => e ▸ hq) _ (by decide +kernel)
set_option maxHeartbeats 4000000 in
set_option maxRecDepth 100000 in
theorem v_bits {d k : Nat} (hk : k < 2 ^ d) (hd : d ≤ 20) {Q : Int32 → St → Prop} (hq : Q (nI (pb d k)) σ) : V_X11_bits (nI k) σ Q := by
  unfold V_X11_bits B_X11_bits_e
  have fin : ∀ a, a = pb d k → Q (nI a) σ := fun a e => e ▸ hq
  have stop : ∀ c y, c = pb d k → y = 0 → R_X11_bits (nI k) Q 4 [nI c, nI y] [] σ := fun c y ec ey => by
    subst ey
    refine i_X11_bits_4 _ _ _ _ _ ?_
    unfold B_X11_bits_4
    exact ⟨fun _ => fin c ec, fun h => absurd (by decide) h⟩
  have loop : ∀ e c y, y < 2 ^ e → e ≤ 20 → c + pb e y = pb d k → R_X11_bits (nI k) Q 4 [nI c, nI y] [] σ := by
    intro e
    induction e with
    | zero =>
      intro c y hy he hc
      exact stop c y hc (by have : (2 : Nat) ^ 0 = 1 := rfl; omega)
    | succ e ih =>
      intro c y hy he hc
      have hp : 2 ^ (e + 1) = 2 * 2 ^ e := by rw [Nat.pow_succ]; omega
      have hb : 2 ^ (e + 1) ≤ 2 ^ 20 := Nat.pow_le_pow_right (by omega) he
      have h20 : (2 : Nat) ^ 20 = 1048576 := rfl
      refine i_X11_bits_4 _ _ _ _ _ ?_
      unfold B_X11_bits_4
      have hc2 : c + (y % 2 + pb e (y / 2)) = pb d k := hc
      refine ⟨fun h => ?_, fun h v1 e1 => ?_⟩
      · rw [show (0 : Int32) = nI 0 from rfl, q_le (by omega) (by omega)] at h
        have z : y = 0 := by omega
        subst z
        have pz : ∀ e, pb e 0 = 0 := fun e => by
          induction e with
          | zero => rfl
          | succ e ih => show 0 % 2 + pb e (0 / 2) = 0; rw [show 0 / 2 = 0 from rfl, ih]
        exact fin c (by rw [show 0 / 2 = 0 from rfl, pz] at hc2; omega)
      · rw [show ((1 : Int32) &&& 31) = (nI 1 &&& 31) from rfl, q_shr (by omega) (by omega)] at e1
        subst e1
        rw [pk_andN (by omega) 1 (by decide), nI_add]
        exact ih (c + y % 2 ^ 1) (y / 2 ^ 1) (by omega) (by omega) (by rw [show (2 : Nat) ^ 1 = 2 from rfl]; omega)
  exact loop d 0 k hk hd (Nat.zero_add _)
set_option maxHeartbeats 4000000 in
set_option maxRecDepth 100000 in
theorem s_waitAll {h : Nat} {a : Nat → Nat} (H : StR σ h a) (hB : Bd a) {Q : Int32 → St → Prop} (hq : Q (nI (wg a (a 0))) σ) : V_X8_waitingInAll h σ Q := by
  unfold V_X8_waitingInAll B_X8_waitingInAll_e
  have hs : Sm a := hB.2.2.2.2.2.2.2.2
  have h0 := hB.1
  have h1 := hB.2.1
  have loop : ∀ d k, k + d = a 1 → R_X8_waitingInAll h Q 4 [nI (wb a (a 0) k), nI k] [] σ := by
    intro d
    induction d with
    | zero =>
      intro k hk
      refine i_X8_waitingInAll_4 _ _ _ _ _ ?_
      unfold B_X8_waitingInAll_4
      rw [H.2.1]
      refine ⟨fun _ => ?_, fun c => absurd (by rw [q_le (by omega) (by omega)]; omega) c⟩
      rw [(by omega : k = a 1), wb_wg hB]
      exact hq
    | succ d ih =>
      intro k hk
      refine i_X8_waitingInAll_4 _ _ _ _ _ ?_
      unfold B_X8_waitingInAll_4
      rw [H.2.1]
      refine ⟨fun c => absurd (by rw [q_le (by omega) (by omega)] at c; exact c) (by omega), fun _ => s_waitingBehind H hs h0 h1 (by omega) ?_⟩
      rw [nI_add, nI_1]
      exact ih (k + 1) (by omega)
  exact loop (a 1) 0 (by omega)
set_option maxHeartbeats 4000000 in
set_option maxRecDepth 100000 in
theorem c_counted {S : SS} {B : CB} {w : Nat} (HC : CR σ S B) (HW : WF S) (hw : w ≤ 10) {Q : Int32 → St → Prop} (hq : Q (nI (cN S w)) σ) : V_X10_counted (nI w) σ Q := by
  unfold V_X10_counted B_X10_counted_e
  obtain ⟨c0, c1, c2, crow, c7, c8, c9, c10, c11, c12, c70, c71⟩ := id HC
  obtain ⟨hst, hpa, hse, hno, hma⟩ := id c0
  have h0 := HW.1.2.1
  have h14 := HW.1.1.2.2.1
  rcases (by omega : w = 0 ∨ w = 1 ∨ w = 2 ∨ w = 3 ∨ w = 4 ∨ w = 5 ∨ w = 6 ∨ w = 7 ∨ w = 8 ∨ w = 9 ∨ w = 10) with rfl | rfl | rfl | rfl | rfl | rfl | rfl | rfl | rfl | rfl | rfl
  · exact br_t rfl (by rw [show σ 2 8 = nI (S 0 0) from hst.1]; exact hq)
  · exact br_f (by decide) (br_t rfl (by rw [show σ 2 9 = nI (S 0 1) from hst.2.1]; exact hq))
  · exact br_f (by decide) (br_f (by decide) (br_t rfl (by rw [show σ 2 11 = nI (S 0 15) from hst.2.2.2.1]; exact hq)))
  · exact br_f (by decide) (br_f (by decide) (br_f (by decide) (br_t rfl (s_over hst HW.1.sm (by omega) hq))))
  · exact br_f (by decide) (br_f (by decide) (br_f (by decide) (br_f (by decide) (br_t rfl (s_waitAll hst HW.1.1 hq)))))
  · exact br_f (by decide) (br_f (by decide) (br_f (by decide) (br_f (by decide) (br_f (by decide) (br_t rfl (by rw [show σ 2 10 = nI (S 0 14) from hst.2.2.1]; exact v_bc h14 hq))))))
  · exact br_f (by decide) (br_f (by decide) (br_f (by decide) (br_f (by decide) (br_f (by decide) (br_f (by decide) (br_t rfl (by rw [show σ 13 3 = nI (S 0 2) from hse.1]; exact hq)))))))
  · exact br_f (by decide) (br_f (by decide) (br_f (by decide) (br_f (by decide) (br_f (by decide) (br_f (by decide) (br_f (by decide) (br_t rfl (by rw [show σ 15 3 = nI (S 0 3) from hno.1]; exact hq))))))))
  · exact br_f (by decide) (br_f (by decide) (br_f (by decide) (br_f (by decide) (br_f (by decide) (br_f (by decide) (br_f (by decide) (br_f (by decide) (br_t rfl (by rw [show σ 17 3 = nI (S 0 4) from hma.1]; exact hq)))))))))
  · exact br_f (by decide) (br_f (by decide) (br_f (by decide) (br_f (by decide) (br_f (by decide) (br_f (by decide) (br_f (by decide) (br_f (by decide) (br_f (by decide) (br_t rfl (by rw [show σ 11 1 = nI (S 0 5) from hpa.1]; exact hq))))))))))
  · exact br_f (by decide) (br_f (by decide) (br_f (by decide) (br_f (by decide) (br_f (by decide) (br_f (by decide) (br_f (by decide) (br_f (by decide) (br_f (by decide) (br_f (by decide) (by rw [c70]; exact hq))))))))))
set_option maxHeartbeats 4000000 in
set_option maxRecDepth 100000 in
theorem m_counted {S : SS} {B : CB} {w : Nat} (HM : MR τ S B) (HW : WF S) (hw : w ≤ 10) {Q : Int32 → St → Prop} (hq : Q (nI (cN S w)) τ) : V_X11_counted (nI w) τ Q := by
  unfold V_X11_counted B_X11_counted_e
  obtain ⟨m1, m2, m3, m4, m5, m6, m28, m30, m11, m9⟩ := id HM
  have h0 := HW.1.2.1
  have h3 := HW.1.1.2.1
  have h14 := HW.1.1.2.2.1
  have hs := HW.1.sm
  have loop : ∀ d g, g + d = S 0 0 → R_X11_counted (nI w) Q 4 [nI (wg (S 0) g), nI g] [] τ := by
    intro d
    induction d with
    | zero =>
      intro g hg
      refine i_X11_counted_4 _ _ _ _ _ ?_
      unfold B_X11_counted_4 V_X11_many B_X11_many_e
      rw [m1 0 (by omega)]
      refine ⟨fun _ => ?_, fun c => absurd (by rw [q_le (by omega) (by omega)]; omega) c⟩
      rw [(by omega : g = S 0 0), m1 1 (by omega), m1 15 (by omega), m1 14 (by omega)]
      rcases (by omega : w = 0 ∨ w = 1 ∨ w = 2 ∨ w = 3 ∨ w = 4 ∨ w = 5 ∨ w = 6 ∨ w = 7 ∨ w = 8 ∨ w = 9 ∨ w = 10) with rfl | rfl | rfl | rfl | rfl | rfl | rfl | rfl | rfl | rfl | rfl
      · exact br_t rfl (by rw [m1 0 (by omega)]; exact hq)
      · exact br_f (by decide) (br_t rfl hq)
      · exact br_f (by decide) (br_f (by decide) (br_t rfl hq))
      · exact br_f (by decide) (br_f (by decide) (br_f (by decide) (br_t rfl (m_manyAt m1 (by omega) (by omega) (by omega) hs (s := 23) (by omega) hq))))
      · exact br_f (by decide) (br_f (by decide) (br_f (by decide) (br_f (by decide) (br_t rfl hq))))
      · exact br_f (by decide) (br_f (by decide) (br_f (by decide) (br_f (by decide) (br_f (by decide) (br_t rfl (v_bits (d := 3) (by omega) (by omega) hq))))))
      · refine br_f (by decide) (br_f (by decide) (br_f (by decide) (br_f (by decide) (br_f (by decide) (br_f (by decide) (br_t rfl ?_))))))
        rw [show ((2 : Int32) + nI 6) - 6 = nI 2 from by decide, nI_clamp (by omega), m1 2 (by omega)]
        exact ⟨vp_in_nI (by omega) (by omega), hq⟩
      · refine br_f (by decide) (br_f (by decide) (br_f (by decide) (br_f (by decide) (br_f (by decide) (br_f (by decide) (br_f (by decide) (br_t rfl ?_)))))))
        rw [show ((2 : Int32) + nI 7) - 6 = nI 3 from by decide, nI_clamp (by omega), m1 3 (by omega)]
        exact ⟨vp_in_nI (by omega) (by omega), hq⟩
      · refine br_f (by decide) (br_f (by decide) (br_f (by decide) (br_f (by decide) (br_f (by decide) (br_f (by decide) (br_f (by decide) (br_f (by decide) (br_t rfl ?_))))))))
        rw [show ((2 : Int32) + nI 8) - 6 = nI 4 from by decide, nI_clamp (by omega), m1 4 (by omega)]
        exact ⟨vp_in_nI (by omega) (by omega), hq⟩
      · refine br_f (by decide) (br_f (by decide) (br_f (by decide) (br_f (by decide) (br_f (by decide) (br_f (by decide) (br_f (by decide) (br_f (by decide) (br_f (by decide) (br_t rfl ?_)))))))))
        rw [show ((2 : Int32) + nI 9) - 6 = nI 5 from by decide, nI_clamp (by omega), m1 5 (by omega)]
        exact ⟨vp_in_nI (by omega) (by omega), hq⟩
      · exact br_f (by decide) (br_f (by decide) (br_f (by decide) (br_f (by decide) (br_f (by decide) (br_f (by decide) (br_f (by decide) (br_f (by decide) (br_f (by decide) (br_f (by decide) (br_t rfl (by rw [m11]; exact hq)))))))))))
    | succ d ih =>
      intro g hg
      refine i_X11_counted_4 _ _ _ _ _ ?_
      unfold B_X11_counted_4 V_X11_many B_X11_many_e
      rw [m1 0 (by omega)]
      refine ⟨fun c => absurd (by rw [q_le (by omega) (by omega)] at c; exact c) (by omega), fun _ => m_waits m1 (by omega) (by omega) h3 hs (by omega) ?_⟩
      have e : wg (S 0) (g + 1) = wg (S 0) g + (if bh (S 0) (S 0 (6 + g)) = 0 then 0 else 1) := rfl
      by_cases z : bh (S 0) (S 0 (6 + g)) = 0
      · rw [if_pos z]
        rw [if_pos z] at e
        refine br_t rfl ?_
        rw [show (0 : Int32) = nI 0 from rfl, nI_add, nI_1, ← e]
        exact ih (g + 1) (by omega)
      · rw [if_neg z]
        rw [if_neg z] at e
        refine br_f (by decide) ?_
        rw [nI_1, nI_1, ← e]
        exact ih (g + 1) (by omega)
  exact loop (S 0 0) 0 (by omega)
set_option maxHeartbeats 4000000 in
set_option maxRecDepth 100000 in
theorem p_count (hJ : J σ τ) : V_X10_count a1 σ (fun r σ' => V_X11_count a1 τ (fun r' τ' => r = r' ∧ J σ' τ')) := by
  obtain ⟨S, B, HC, HM, HW⟩ := hJ
  unfold V_X10_count B_X10_count_e V_X11_count B_X11_count_e
  by_cases k1 : okI a1 0 10
  · refine cw1 k1 rfl rfl (br_f (by decide) ?_)
    obtain ⟨w, -, hw, rfl⟩ := okI_ex (a := 0) (b := 10) k1
    exact c_counted HC HW hw (mw1 k1 rfl rfl (br_f (by decide) (m_counted HM HW hw ⟨rfl, S, B, HC, HM, HW⟩)))
  · exact cw0 k1 rfl rfl (br_t (by decide) (c_bad HC (fun σ' HC' => mw0 k1 rfl rfl (br_t (by decide) (m_bad HM (fun τ' HM' => ⟨rfl, S, bb B 0, HC', HM', HW⟩))))))
end O14
