/-! what the numbers that are told are -/
theorem tb_div {M j : Nat} : M.testBit j = true ↔ M / 2 ^ j % 2 = 1 := by rw [Nat.testBit_eq_decide_div_mod_eq, decide_eq_true_eq]
theorem tb_bi {M j : Nat} : bi M j = true ↔ M.testBit j = true := by rw [bi_tb]
theorem bit_1 {M j : Nat} (hM : M < 2147483648) (hj : j < 32) (h : M.testBit j = true) : (nI M >>> (nI j &&& 31)) &&& 1 = 1 := by
  rw [q_bit hM hj, tb_div.mp h]
  rfl
/-- over in a winter stays over -/
theorem wst_23 {g : Nat} : ∀ d n A, Bd A → A 0 ≤ 7 → g < A 0 → A 15 + d < 1000000 → A (6 + g) = 23 → wst d n A (6 + g) = 23
  | 0, n, A => fun _ _ _ _ h => h
  | d + 1, n, A => fun hB h7 hg h15 h => by
    have hW := Bd_wt (n := n) hB
    have e0 : wt A n 0 = A 0 := wt_o (by omega)
    have e15 : wt A n 15 = A 15 := wt_o (by omega)
    have e6 : wt A n (6 + g) = 23 := by rw [wt_o (by omega)]; exact h
    show wst d (nx n) (hr (wt A n)) (6 + g) = 23
    refine wst_23 d (nx n) (hr (wt A n)) (Bd_hr hW (by omega)) ?_ ?_ ?_ ?_
    · rw [hr_lo (by omega), e0]; exact h7
    · rw [hr_lo (by omega), e0]; exact hg
    · rw [hr_15 (by omega), e15]; omega
    · rw [hr_sp (by rw [e0]; exact hg)]
      exact nsp_23 hW e6
/-- the kinds that fit -/
theorem km_b {A : Nat → Nat} {base w who n : Nat} : ∀ k, k ≤ 6 → ∃ M, M < 2 ^ k ∧ km A base w who n k = nI M ∧ ∀ j, j < k → fl A base w who j n = true → M.testBit j = true
  | 0, _ => ⟨0, by omega, rfl, fun j hj => absurd hj (by omega)⟩
  | k + 1, hk => by
    obtain ⟨M, h1, h2, h3⟩ := km_b (A := A) (base := base) (w := w) (who := who) (n := n) k (by omega)
    have e : km A base w who n (k + 1) = if fl A base w who k n = true then km A base w who n k ||| ((1 : Int32) <<< (nI k &&& 31)) else km A base w who n k := rfl
    have lt : 2 ^ k < 2 ^ (k + 1) := Nat.pow_lt_pow_right (by omega) (by omega)
    by_cases c : fl A base w who k n = true
    · rw [if_pos c, h2, q_shl (by omega), q_or] at e
      refine ⟨M ||| 2 ^ k, Nat.or_lt_two_pow (by omega) (by omega), e, fun j hj hf => ?_⟩
      rw [tb_or, tb_pow]
      by_cases z : k = j
      · exact Or.inr z
      · exact Or.inl (h3 j (by omega) hf)
    · rw [if_neg c, h2] at e
      refine ⟨M, by omega, e, fun j hj hf => ?_⟩
      by_cases z : j = k
      · subst z; exact absurd hf c
      · exact h3 j (by omega) hf
theorem fl_1 {A : Nat → Nat} {base w who k h n x : Nat} (e0 : A base = who) (e1 : A (base + 1) = h) (e2 : A (base + 2) = n) (e3 : A (base + 3) = x) (es : sy w k h n = x) : fl A base w who k 1 = true := by
  have e : fl A base w who k 1 = if fl A base w who k 0 = true then (if A (base + 4 * 0) = who then decide (sy w k (A (base + 4 * 0 + 1)) (A (base + 4 * 0 + 2)) = A (base + 4 * 0 + 3)) else true) else false := rfl
  rw [e, if_pos (show fl A base w who k 0 = true from rfl), Nat.mul_zero, Nat.add_zero, if_pos e0, e1, e2, e3]
  exact decide_eq_true es
/-- a look that is told -/
def Gd (lo : Nat) (p : Nat × Int32) : Prop := p.1 < 24 ∧ ∃ x, lo ≤ x ∧ x < 1000 ∧ p.2 = nI x
theorem st1_Gd {M w h v lo : Nat} {p : Nat × Int32} (hp : Gd lo p) (h1 : lo ≤ v) (h2 : v ≤ 100) (h3 : h ≤ 50) : Gd lo (st1 M w h v p) := by
  unfold st1
  by_cases c : 0 < lm M w h v ∧ lm M w h v < p.1
  · rw [if_pos c]
    have := hp.1
    exact ⟨show lm M w h v < 24 by omega, 10 * h + v, by omega, by omega, rfl⟩
  · rw [if_neg c]; exact hp
theorem rv_Gd {M w h lo : Nat} : ∀ d v p, Gd lo p → lo ≤ v → v + d ≤ 100 → h ≤ 50 → Gd lo (rv M w h d v p)
  | 0, _, _ => fun hp _ _ _ => hp
  | d + 1, v, p => fun hp h1 h2 h3 => rv_Gd d (v + 1) _ (st1_Gd hp h1 (by omega) h3) (by omega) (by omega) h3
theorem rh_Gd {M w lo n : Nat} (hn : lo + n ≤ 100) : ∀ d h p, Gd lo p → h + d ≤ 50 → Gd lo (rh M w lo n d h p)
  | 0, _, _ => fun hp _ => hp
  | d + 1, h, p => fun hp h1 => rh_Gd hn d (h + 1) _ (rv_Gd n lo p hp (Nat.le_refl _) (by omega) (by omega)) (by omega)
theorem rh_ok {M w lo n H j : Nat} (hn : lo + n + 1 ≤ 100) (hH : H + 1 ≤ 50) (hj : j < 6) (hb : M.testBit j = true) : Gd lo (rh M w lo (n + 1) (H + 1) 0 (24, -1)) := by
  show Gd lo (rh M w lo (n + 1) H 1 (rv M w 0 n (lo + 1) (st1 M w 0 lo (24, -1))))
  have hl : 0 < lm M w 0 lo := mx1_pos 6 j hj (tb_bi.mpr hb)
  have hl6 : lm M w 0 lo ≤ 6 := lm_le
  have g0 : Gd lo (st1 M w 0 lo (24, -1)) := by
    unfold st1
    rw [if_pos ⟨hl, show lm M w 0 lo < 24 by omega⟩]
    exact ⟨show lm M w 0 lo < 24 by omega, 10 * 0 + lo, by omega, by omega, rfl⟩
  exact rh_Gd (by omega) H 1 _ (rv_Gd n (lo + 1) _ g0 (by omega) (by omega) (by omega)) (by omega)
/-- the hour that parts is told -/
theorem tf_ok {A : Nat → Nat} {M : Nat} : ∀ d h b v, h + d ≤ 21 → (∃ x, x ≤ 20 ∧ v = nI x) → ∃ x, x ≤ 20 ∧ tf A M d h b v = nI x
  | 0, _, _, _ => fun _ hv => hv
  | d + 1, h, b, v => fun hh hv => by
    show ∃ x, x ≤ 20 ∧ (if 0 < tm A M h ∧ tm A M h < b then tf A M d (h + 1) (tm A M h) (nI h) else tf A M d (h + 1) b v) = nI x
    split
    · exact tf_ok d (h + 1) _ _ (by omega) ⟨h, by omega, rfl⟩
    · exact tf_ok d (h + 1) _ _ (by omega) hv
theorem tf_go {A : Nat → Nat} {M g : Nat} (h7 : A 0 ≤ 7) (hg : g < A 0) (hb : M.testBit g = true) : ∃ x, x ≤ 20 ∧ tf A M 21 0 24 (-1) = nI x := by
  have h1 : 0 < tm A M 0 := mx1_pos _ g hg (tb_bi.mpr hb)
  have h2 : tm A M 0 ≤ A 0 := mx1_le _
  show ∃ x, x ≤ 20 ∧ (if 0 < tm A M 0 ∧ tm A M 0 < 24 then tf A M 20 1 (tm A M 0) (nI 0) else tf A M 20 1 24 (-1)) = nI x
  rw [if_pos ⟨h1, by omega⟩]
  exact tf_ok 20 1 _ _ (by omega) ⟨0, by omega, rfl⟩
/-! what rests -/
def lcm' (m : Int32) : Nat → Nat → Nat
  | 0, _ => 0
  | d + 1, x => (if rs m (nI x / 10) (nI x - nI x / 10 * 10) 10 0 = true then 1 else 0) + lcm' m d (x + 1)
theorem lcm_le {m : Int32} : ∀ d x, lcm' m d x ≤ d
  | 0, _ => Nat.le_refl _
  | d + 1, x => by
    have := lcm_le (m := m) d (x + 1)
    unfold lcm'
    split <;> omega
theorem nI_ne {a b : Nat} (ha : a < 1000) (hb : b < 1000) (h : a ≠ b) : ¬ nI a = nI b := by
  rw [q_eq (by omega) (by omega)]
  exact h
theorem ld_all {m : Int32} : ∀ d x c, c + d < 1000 → ld m (-1) d x (nI c) = nI (c + lcm' m d x)
  | 0, x, c => fun _ => by
    unfold ld lcm'
    rw [if_pos rfl]
    rfl
  | d + 1, x, c => fun h => by
    have nc : ¬ nI c = -1 := fun e => by
      have : (nI c).toInt = (-1 : Int32).toInt := by rw [e]
      rw [nI_toInt (by omega), show (-1 : Int32).toInt = -1 from by decide] at this
      omega
    unfold ld lcm'
    by_cases z : rs m (nI x / 10) (nI x - nI x / 10 * 10) 10 0 = true
    · rw [if_pos z, if_pos z, if_neg nc, nI_1, ld_all d (x + 1) (c + 1) (by omega)]
      congr 1
      omega
    · rw [if_neg z, if_neg z, ld_all d (x + 1) c (by omega)]
      congr 1
      omega
theorem ld_no {m : Int32} {w : Nat} (hw : w < 1000) : ∀ d x c, c + lcm' m d x ≤ w → ld m (nI w) d x (nI c) = -5
  | 0, x, c => fun _ => by
    have nc : ¬ nI w = -1 := fun e => by
      have : (nI w).toInt = (-1 : Int32).toInt := by rw [e]
      rw [nI_toInt (by omega), show (-1 : Int32).toInt = -1 from by decide] at this
      omega
    unfold ld
    rw [if_neg nc]
  | d + 1, x, c => fun h => by
    unfold lcm' at h
    unfold ld
    by_cases z : rs m (nI x / 10) (nI x - nI x / 10 * 10) 10 0 = true
    · rw [if_pos z] at h
      rw [if_pos z, if_neg (nI_ne (by omega) (by omega) (by omega)), nI_1]
      exact ld_no hw d (x + 1) (c + 1) (by omega)
    · rw [if_neg z] at h
      rw [if_neg z]
      exact ld_no hw d (x + 1) c (by omega)
theorem ld_one {m : Int32} {w : Nat} (hw : w < 1000) : ∀ d x c, c ≤ w → w < c + lcm' m d x → ∃ y, x ≤ y ∧ y < x + d ∧ ld m (nI w) d x (nI c) = nI y
  | 0, x, c => fun h1 h2 => absurd h2 (by unfold lcm'; omega)
  | d + 1, x, c => fun h1 h2 => by
    unfold lcm' at h2
    unfold ld
    by_cases z : rs m (nI x / 10) (nI x - nI x / 10 * 10) 10 0 = true
    · rw [if_pos z] at h2
      rw [if_pos z]
      by_cases y : c = w
      · rw [if_pos (congrArg nI y)]; exact ⟨x, Nat.le_refl _, by omega, rfl⟩
      · rw [if_neg (nI_ne (by omega) (by omega) y), nI_1]
        obtain ⟨t, h3, h4, h5⟩ := ld_one (m := m) hw d (x + 1) (c + 1) (by omega) (by omega)
        exact ⟨t, by omega, by omega, h5⟩
    · rw [if_neg z] at h2
      rw [if_neg z]
      obtain ⟨t, h3, h4, h5⟩ := ld_one (m := m) hw d (x + 1) c h1 (by omega)
      exact ⟨t, by omega, by omega, h5⟩
theorem ld_two {m : Int32} {w v : Nat} (hv : v < 1000) (hwv : w ≤ v) : ∀ d x c, c ≤ w → v < c + lcm' m d x → ∃ y z, y ≤ z ∧ z < x + d ∧ ld m (nI w) d x (nI c) = nI y ∧ ld m (nI v) d x (nI c) = nI z
  | 0, x, c => fun h1 h2 => absurd h2 (by unfold lcm'; omega)
  | d + 1, x, c => fun h1 h2 => by
    unfold lcm' at h2
    unfold ld
    by_cases z : rs m (nI x / 10) (nI x - nI x / 10 * 10) 10 0 = true
    · rw [if_pos z] at h2
      rw [if_pos z, if_pos z]
      by_cases y : c = w
      · rw [if_pos (congrArg nI y)]
        by_cases y2 : c = v
        · rw [if_pos (congrArg nI y2)]; exact ⟨x, x, Nat.le_refl _, by omega, rfl, rfl⟩
        · rw [if_neg (nI_ne (by omega) (by omega) y2), nI_1]
          obtain ⟨t, h3, h4, h5⟩ := ld_one (m := m) hv d (x + 1) (c + 1) (by omega) (by omega)
          exact ⟨x, t, by omega, by omega, rfl, h5⟩
      · rw [if_neg (nI_ne (by omega) (by omega) y), if_neg (nI_ne (by omega) (by omega) (by omega)), nI_1]
        obtain ⟨t, u, h3, h4, h5, h6⟩ := ld_two (m := m) hv hwv d (x + 1) (c + 1) (by omega) (by omega)
        exact ⟨t, u, h3, by omega, h5, h6⟩
    · rw [if_neg z] at h2
      rw [if_neg z, if_neg z]
      obtain ⟨t, u, h3, h4, h5, h6⟩ := ld_two (m := m) hv hwv d (x + 1) c h1 (by omega)
      exact ⟨t, u, h3, by omega, h5, h6⟩
/-- where one meets -/
theorem mt_b {A : Nat → Nat} {k g m : Nat} : ∀ x, x ≤ 30 → ∃ M, M < 2 ^ x ∧ mt A k g m x = nI M ∧ ∀ j, M.testBit j = true ↔ j < x ∧ it m (ag A k 1 j) (6 + A 0) = it m (ag A k 1 j) (6 + g)
  | 0, _ => ⟨0, by omega, rfl, fun j => by rw [Nat.zero_testBit]; exact ⟨fun c => absurd c (by decide), fun c => absurd c.1 (by omega)⟩⟩
  | x + 1, hx => by
    obtain ⟨M, h1, h2, h3⟩ := mt_b (A := A) (k := k) (g := g) (m := m) x (by omega)
    have e : mt A k g m (x + 1) = if it m (ag A k 1 x) (6 + A 0) = it m (ag A k 1 x) (6 + g) then mt A k g m x ||| ((1 : Int32) <<< (nI x &&& 31)) else mt A k g m x := rfl
    have lt : 2 ^ x < 2 ^ (x + 1) := Nat.pow_lt_pow_right (by omega) (by omega)
    by_cases c : it m (ag A k 1 x) (6 + A 0) = it m (ag A k 1 x) (6 + g)
    · rw [if_pos c, h2, q_shl (by omega), q_or] at e
      refine ⟨M ||| 2 ^ x, Nat.or_lt_two_pow (by omega) (by omega), e, fun j => ?_⟩
      rw [tb_or, tb_pow, h3 j]
      constructor
      · rintro (h | h)
        · exact ⟨by omega, h.2⟩
        · subst h; exact ⟨by omega, c⟩
      · rintro ⟨h4, h5⟩
        by_cases y : x = j
        · exact Or.inr y
        · exact Or.inl ⟨by omega, h5⟩
    · rw [if_neg c, h2] at e
      refine ⟨M, by omega, e, fun j => ?_⟩
      rw [h3 j]
      constructor
      · rintro ⟨h4, h5⟩; exact ⟨by omega, h5⟩
      · rintro ⟨h4, h5⟩
        by_cases y : j = x
        · subst y; exact absurd h5 c
        · exact ⟨by omega, h5⟩
/-- the fewest to shut do hold -/
theorem hb_ok {p : Nat → Bool} {T : Nat} (hT : T ≤ 8) : ∀ d k b, (b = 9 ∨ (b < T ∧ p b = true)) → k + d ≤ T → (hb p d k b = 9 ∨ (hb p d k b < T ∧ p (hb p d k b) = true))
  | 0, _, _ => fun h _ => h
  | d + 1, k, b => fun h hk => by
    show (hb p d (k + 1) (if p k = true ∧ (b = 9 ∨ pb 3 k < pb 3 b) then k else b) = 9 ∨ _)
    refine hb_ok hT d (k + 1) _ ?_ (by omega)
    by_cases c : p k = true ∧ (b = 9 ∨ pb 3 k < pb 3 b)
    · rw [if_pos c]; exact Or.inr ⟨by omega, c.1⟩
    · rw [if_neg c]; exact h
/-- the greatest heap -/
theorem hp_ok {A : Nat → Nat} (h0 : A 0 ≤ 8) : ∀ m p, hpr A m p → (p = (0, 0, -1) ∧ ∀ x, x < m → ∀ k, k < A 1 → hc (it x A) k = 0) ∨ ∃ h k0, h < m ∧ k0 < A 1 ∧ p = (hc (it h A) k0, h, nI (A (40 + k0))) ∧ 0 < hc (it h A) k0 ∧ (∀ k, k < A 1 → hc (it h A) k ≤ hc (it h A) k0) ∧ ∀ x, x < m → ∀ k, k < A 1 → hc (it x A) k ≤ hc (it h A) k0
  | 0, p => fun h => Or.inl ⟨h, fun x hx => absurd hx (by omega)⟩
  | m + 1, p => fun ⟨q, h1, h2⟩ => by
    have e1 : it m A 1 = A 1 := it_lo (by omega) m
    rcases h2 with ⟨rfl, h3⟩ | ⟨k0, k1, -, rfl, h3, h4⟩
    · rcases hp_ok h0 m p h1 with ⟨e, h5⟩ | ⟨h, k0, l1, l2, e, l3, l4, l5⟩
      · refine Or.inl ⟨e, fun x hx k hk => ?_⟩
        by_cases z : x = m
        · subst z
          have := h3 k (by omega) trivial
          rw [e] at this
          exact Nat.le_zero.mp this
        · exact h5 x (by omega) k hk
      · refine Or.inr ⟨h, k0, by omega, l2, e, l3, l4, fun x hx k hk => ?_⟩
        by_cases z : x = m
        · subst z
          have := h3 k (by omega) trivial
          rw [e] at this
          exact this
        · exact l5 x (by omega) k hk
    · have e40 : it m A (40 + k0) = A (40 + k0) := it_hi h0 (by omega) m
      rw [e1] at k1 h4
      refine Or.inr ⟨m, k0, by omega, k1, by rw [e40], by omega, fun k hk => (h4 k hk trivial).1, fun x hx k hk => ?_⟩
      by_cases z : x = m
      · subst z; exact (h4 k hk trivial).1
      · rcases hp_ok h0 m q h1 with ⟨e, h5⟩ | ⟨h, k2, l1, l2, e, l3, l4, l5⟩
        · rw [h5 x (by omega) k hk]; exact Nat.zero_le _
        · have := l5 x (by omega) k hk
          rw [e] at h3
          exact Nat.le_trans this (Nat.le_of_lt h3)
