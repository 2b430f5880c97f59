/-! the law's own helpers -/
theorem all_nI (v : Int32) : ∃ w, v = nI w := ⟨v.toBitVec.toNat, Int32.toBitVec_inj.1 (show v.toBitVec = BitVec.ofNat 32 v.toBitVec.toNat by simp)⟩
theorem up_nI (v : Int32) : ∃ k, k < 2147483648 ∧ v &&& 2147483647 = nI k := by
  obtain ⟨w, rfl⟩ := all_nI v
  refine ⟨w &&& 2147483647, ?_, by rw [show (2147483647 : Int32) = nI 2147483647 from rfl, q_and]⟩
  have := Nat.and_le_right (n := w) (m := 2147483647)
  omega
section HP
variable {L : Nat} {xs : Nat → Int32} {s : St}
theorem l_cell {v : Int32} {j : Nat} {F : Int32 → St → Prop} (e : v = nI j) (hL : L ≤ 260) (hj : j < 1000) (h : ∀ v, F v s) : V_L_cell L xs v s F := by
  unfold V_L_cell B_L_cell_e
  subst e
  rw [show Int32.ofNat L = nI L from rfl, q_le (by omega) (by omega)]
  exact ⟨fun _ => h _, fun c => ⟨vp_in_nI (by omega) (by omega), h _⟩⟩
theorem l_up {v w : Int32} {n : Nat} {F : Int32 → St → Prop} (e : w = nI n) (h1 : 1 ≤ n) (h2 : n ≤ 1000000) (h : ∀ r, r < n → F (nI r) s) : V_L_up v w s F := by
  unfold V_L_up B_L_up_e
  subst e
  obtain ⟨k, hk, ek⟩ := up_nI v
  refine ⟨by rw [show (0 : Int32) = nI 0 from rfl, q_eq (by omega) (by omega)]; omega, ?_⟩
  rw [ek, pk_rem (by omega) (by omega) (by omega)]
  exact h _ (Nat.mod_lt _ (by omega))
theorem pb_0 : ∀ d, pb d 0 = 0
  | 0 => rfl
  | d + 1 => by
    show 0 % 2 + pb d (0 / 2) = 0
    rw [pb_0 d]
set_option maxHeartbeats 4000000 in
set_option maxRecDepth 100000 in
theorem l_bits {b : Nat} {F : Int32 → St → Prop} (hb : b < 8) (h : F (nI (pb 3 b)) s) : V_L_bits (nI b) s F := by
  unfold V_L_bits B_L_bits_e
  have loop : ∀ d x1 x2, x2 < 2 ^ d → x2 < 8 → F (nI (x1 + pb d x2)) s → R_L_bits (nI b) F 4 [nI x1, nI x2] [] s := by
    intro d
    induction d with
    | zero =>
      intro x1 x2 h2 h8 hf
      refine i_L_bits_4 _ _ _ _ _ ?_
      unfold B_L_bits_4
      have : x2 = 0 := by omega
      subst this
      exact br_t (by decide) hf
    | succ d ih =>
      intro x1 x2 h2 h8 hf
      refine i_L_bits_4 _ _ _ _ _ ?_
      unfold B_L_bits_4
      by_cases z : x2 = 0
      · subst z
        rw [pb_0] at hf
        exact br_t (by decide) hf
      · refine br_f (by rw [show (0 : Int32) = nI 0 from rfl, q_le (by omega) (by omega)]; omega) (fun v1 e1 => ?_)
        rw [show (1 : Int32) = nI 1 from rfl, show (31 : Int32) = nI 31 from rfl] at e1
        rw [show (1 : Int32) = nI 1 from rfl, q_and, Nat.and_one_is_mod, nI_add]
        have e2 : v1 = nI (x2 / 2) := by
          rw [e1, show (nI 31) = (31 : Int32) from rfl, q_shr (by omega) (by omega)]
        subst e2
        refine ih _ _ (by rw [Nat.pow_succ] at h2; omega) (by omega) ?_
        have e : pb (d + 1) x2 = x2 % 2 + pb d (x2 / 2) := rfl
        rw [e, ← Nat.add_assoc] at hf
        exact hf
  have := loop 3 0 b (by omega) hb (by rw [Nat.zero_add]; exact h)
  exact this
/-- what the row holds when it is laid -/
def RO (R : Nat → Nat) : Prop := R 1 ≤ 7 ∧ R 2 ≤ 3 ∧ (∀ h, h < 6 → R (4 + h) ≤ 4) ∧ (∀ g, g < R 1 → R (10 + g) ≤ 5 ∧ 1 ≤ R (18 + g) ∧ R (18 + g) ≤ 9 ∧ R (25 + g) ≤ 23) ∧ ∀ k, k < R 2 → R (33 + k) ≤ 5 ∧ 8 * k ≤ R (36 + k) ∧ R (36 + k) ≤ 8 * k + 7 ∧ R (36 + k) ≤ 22
def RR (f : Nat → Int32) (R : Nat → Nat) : Prop := ∀ i, i < 39 → f i = nI (R i)
theorem RR.up {f : Nat → Int32} {R : Nat → Nat} (h : RR f R) (i v : Nat) : RR (upd f i (nI v)) (upN R i v) := fun j hj => by
  unfold upd upN
  split
  · rfl
  · exact h j hj
theorem us_w {s : St} {f g : Nat → Int32} : us (us s 81 f) 81 g = us s 81 g := us_us
set_option maxHeartbeats 4000000 in
set_option maxRecDepth 100000 in
theorem l_lay {F : St → Prop} (hL : L ≤ 260) (h : ∀ f R, RR f R → RO R → F (us s 81 f)) : V_L_lay L xs s F := by
  unfold V_L_lay B_L_lay_e
  have l4 : ∀ d k f R, RR f R → R 1 ≤ 7 → R 2 ≤ 3 → (∀ h, h < 6 → R (4 + h) ≤ 4) → (∀ g, g < R 1 → R (10 + g) ≤ 5 ∧ 1 ≤ R (18 + g) ∧ R (18 + g) ≤ 9 ∧ R (25 + g) ≤ 23) → (∀ j, j < k → R (33 + j) ≤ 5 ∧ 8 * j ≤ R (36 + j) ∧ R (36 + j) ≤ 8 * j + 7 ∧ R (36 + j) ≤ 22) → k + d = R 2 → R_L_lay L xs F 180 [nI k] [] (us s 81 f) := by
    intro d
    induction d with
    | zero =>
      intro k f R hR h1 h2 hw hg hk e
      refine i_L_lay_180 _ _ _ _ _ ?_
      unfold B_L_lay_180
      rw [us_same, hR 2 (by omega)]
      refine br_t (by rw [q_le (by omega) (by omega)]; omega) (h f R hR ⟨h1, h2, hw, hg, fun j hj => hk j (by omega)⟩)
    | succ d ih =>
      intro k f R hR h1 h2 hw hg hk e
      refine i_L_lay_180 _ _ _ _ _ ?_
      unfold B_L_lay_180
      rw [us_same, hR 2 (by omega)]
      refine br_f (by rw [q_le (by omega) (by omega)]; omega) (l_cell (nI_add 9 k) hL (by omega) (fun v1 => l_up (n := 6) rfl (by omega) (by omega) (fun r hr => ?_)))
      rw [show (33 : Int32) + nI k = nI (33 + k) from nI_add 33 k, nI_clamp (by omega)]
      refine ⟨vp_in_nI (by omega) (by omega), fun s3 e3 => ?_⟩
      rw [us_same, us_w] at e3
      subst e3
      have R1 := hR.up (33 + k) r
      have nx : ∀ m r2, m = (if k = 2 then 7 else 8) → r2 < m → R_L_lay L xs F 180 [nI k + 1] [] (us s 81 (upd (upd f (33 + k) (nI r)) (36 + k) (nI (8 * k + r2)))) := fun m r2 em hr2 => by
        have hm8 : m ≤ 8 ∧ (k = 2 → m = 7) := by subst em; split <;> omega
        have R2 := R1.up (36 + k) (8 * k + r2)
        have o : ∀ i, i ≠ 33 + k → i ≠ 36 + k → upN (upN R (33 + k) r) (36 + k) (8 * k + r2) i = R i := fun i a b => by rw [upN_n b, upN_n a]
        rw [nI_1]
        refine ih (k + 1) _ _ R2 ?_ ?_ (fun h hh => ?_) (fun g hg' => ?_) (fun j hj => ?_) ?_
        · rw [o 1 (by omega) (by omega)]; exact h1
        · rw [o 2 (by omega) (by omega)]; exact h2
        · rw [o _ (by omega) (by omega)]; exact hw h hh
        · rw [o 1 (by omega) (by omega)] at hg'
          rw [o _ (by omega) (by omega), o _ (by omega) (by omega), o _ (by omega) (by omega)]; exact hg g hg'
        · by_cases z : j = k
          · subst z
            rw [upN_s, upN_n (by omega), upN_s]
            omega
          · have := hk j (by omega)
            rw [upN_n (by omega), upN_n (by omega), upN_n (by omega), upN_n (by omega)]
            exact this
        · rw [o 2 (by omega) (by omega)]; omega
      have e8 : (8 : Int32) * nI k = nI (8 * k) := pk_mul 8 k
      have e36 : (36 : Int32) + nI k = nI (36 + k) := nI_add 36 k
      by_cases z : k = 2
      · refine fr_f (by rw [z]; rfl) (i_L_lay_232 _ _ _ _ _ _ _ _ _ ?_)
        unfold B_L_lay_232
        refine l_up (n := 7) rfl (by omega) (by omega) (fun r2 hr2 => ?_)
        rw [e36, e8, nI_add, nI_clamp (by omega)]
        refine ⟨vp_in_nI (by omega) (by omega), fun s2 e2 => ?_⟩
        rw [us_same, us_w] at e2
        subst e2
        exact nx 7 r2 (by rw [if_pos z]) hr2
      · refine fr_t (by rw [show (2 : Int32) = nI 2 from rfl, q_eq (by omega) (by omega)]; exact z) (i_L_lay_232 _ _ _ _ _ _ _ _ _ ?_)
        unfold B_L_lay_232
        refine l_up (n := 8) rfl (by omega) (by omega) (fun r2 hr2 => ?_)
        rw [e36, e8, nI_add, nI_clamp (by omega)]
        refine ⟨vp_in_nI (by omega) (by omega), fun s2 e2 => ?_⟩
        rw [us_same, us_w] at e2
        subst e2
        exact nx 8 r2 (by rw [if_neg z]) hr2
  have l3 : ∀ d k f R, RR f R → R 1 ≤ 7 → R 2 ≤ 3 → (∀ h, h < 6 → R (4 + h) ≤ 4) → (∀ g, g < k → R (10 + g) ≤ 5 ∧ 1 ≤ R (18 + g) ∧ R (18 + g) ≤ 9 ∧ R (25 + g) ≤ 23) → k + d = R 1 → R_L_lay L xs F 98 [nI k] [] (us s 81 f) := by
    intro d
    induction d with
    | zero =>
      intro k f R hR h1 h2 hw hg e
      refine i_L_lay_98 _ _ _ _ _ ?_
      unfold B_L_lay_98
      rw [us_same, hR 1 (by omega)]
      exact br_t (by rw [q_le (by omega) (by omega)]; omega) (l4 (R 2) 0 f R hR h1 h2 hw (fun g hg' => hg g (by omega)) (fun j hj => absurd hj (by omega)) (by omega))
    | succ d ih =>
      intro k f R hR h1 h2 hw hg e
      refine i_L_lay_98 _ _ _ _ _ ?_
      unfold B_L_lay_98
      rw [us_same, hR 1 (by omega)]
      refine br_f (by rw [q_le (by omega) (by omega)]; omega) (l_cell (nI_add 2 k) hL (by omega) (fun v1 => l_up (n := 6) rfl (by omega) (by omega) (fun r hr => ?_)))
      rw [show (10 : Int32) + nI k = nI (10 + k) from nI_add 10 k, show (18 : Int32) + nI k = nI (18 + k) from nI_add 18 k, show (25 : Int32) + nI k = nI (25 + k) from nI_add 25 k, nI_clamp (n := 10 + k) (by omega), nI_clamp (n := 18 + k) (by omega)]
      refine ⟨vp_in_nI (by omega) (by omega), fun s3 e3 => ?_⟩
      rw [us_same, us_w] at e3
      subst e3
      refine l_up (n := 9) rfl (by omega) (by omega) (fun r4 hr4 => ⟨vp_in_nI (by omega) (by omega), fun s5 e5 => ?_⟩)
      rw [us_same, us_w, show (1 : Int32) + nI r4 = nI (1 + r4) from nI_add 1 r4] at e5
      subst e5
      have R2 := (hR.up (10 + k) r).up (18 + k) (1 + r4)
      have nx : ∀ m r2, m ≤ 24 → r2 < m → R_L_lay L xs F 98 [nI k + 1] [] (us s 81 (upd (upd (upd f (10 + k) (nI r)) (18 + k) (nI (1 + r4))) (25 + k) (nI r2))) := fun m r2 hm8 hr2 => by
        have R3 := R2.up (25 + k) r2
        have o : ∀ i, i ≠ 10 + k → i ≠ 18 + k → i ≠ 25 + k → upN (upN (upN R (10 + k) r) (18 + k) (1 + r4)) (25 + k) r2 i = R i := fun i a b c => by rw [upN_n c, upN_n b, upN_n a]
        rw [nI_1]
        refine ih (k + 1) _ _ R3 ?_ ?_ (fun h hh => ?_) (fun g hg' => ?_) ?_
        · rw [o 1 (by omega) (by omega) (by omega)]; exact h1
        · rw [o 2 (by omega) (by omega) (by omega)]; exact h2
        · rw [o _ (by omega) (by omega) (by omega)]; exact hw h hh
        · by_cases z : g = k
          · subst z
            rw [upN_s, upN_n (j := 18 + g) (by omega), upN_s, upN_n (j := 10 + g) (by omega), upN_n (j := 10 + g) (by omega), upN_s]
            omega
          · rw [o _ (by omega) (by omega) (by omega), o _ (by omega) (by omega) (by omega), o _ (by omega) (by omega) (by omega)]
            exact hg g (by omega)
        · rw [o 1 (by omega) (by omega) (by omega)]; omega
      have fin : ∀ (m : Nat) (mi : Int32) (s6 : St), mi = nI m → m ≤ 24 → 1 ≤ m → s6 = us s 81 (upd (upd f (10 + k) (nI r)) (18 + k) (nI (1 + r4))) → R_L_lay L xs F 168 [nI k, mi, v1 >>> ((8 : Int32) &&& 31), nI (25 + k)] [] s6 := fun m mi s6 em hm hm1 e6 => by
        refine i_L_lay_168 _ _ _ _ _ _ _ _ ?_
        unfold B_L_lay_168
        refine l_up em hm1 (by omega) (fun r2 hr2 => ?_)
        rw [nI_clamp (by omega)]
        refine ⟨vp_in_nI (by omega) (by omega), fun s2 e2 => ?_⟩
        rw [e6, us_same, us_w] at e2
        subst e2
        exact nx m r2 hm hr2
      refine l_up (n := 4) rfl (by omega) (by omega) (fun r6 hr6 => ?_)
      by_cases z : nI r6 = 0
      · exact fr_f z (fin 24 24 _ rfl (by omega) (by omega) rfl)
      · exact fr_t z (fin 10 10 _ rfl (by omega) (by omega) rfl)
  have l2 : ∀ d k f R, RR f R → (∀ h, h < k → R (4 + h) ≤ 4) → k + d = 6 → R_L_lay L xs F 20 [nI k] [] (us s 81 f) := by
    intro d
    induction d with
    | zero =>
      intro k f R hR hw e
      refine i_L_lay_20 _ _ _ _ _ ?_
      unfold B_L_lay_20
      refine br_t (by rw [show (6 : Int32) = nI 6 from rfl, q_le (by omega) (by omega)]; omega) (l_cell (j := 1) rfl hL (by omega) (fun v1 => l_up (n := 8) rfl (by omega) (by omega) (fun r hr => fun s3 e3 => ?_)))
      rw [us_same, us_w] at e3
      subst e3
      refine l_cell (j := 1) rfl hL (by omega) (fun v4 => l_up (n := 4) rfl (by omega) (by omega) (fun r5 hr5 => fun s6 e6 => ?_))
      rw [us_same, us_w] at e6
      subst e6
      have R2 := (hR.up 1 r).up 2 r5
      have o : ∀ i, i ≠ 1 → i ≠ 2 → upN (upN R 1 r) 2 r5 i = R i := fun i a b => by rw [upN_n b, upN_n a]
      refine l3 (upN (upN R 1 r) 2 r5 1) 0 _ _ R2 ?_ ?_ (fun h hh => ?_) (fun g hg => absurd hg (by omega)) (by omega)
      · rw [upN_n (by omega), upN_s]; omega
      · rw [upN_s]; omega
      · rw [o _ (by omega) (by omega)]; exact hw h (by omega)
    | succ d ih =>
      intro k f R hR hw e
      refine i_L_lay_20 _ _ _ _ _ ?_
      unfold B_L_lay_20
      refine br_f (by rw [show (6 : Int32) = nI 6 from rfl, q_le (by omega) (by omega)]; omega) (l_cell (j := 0) rfl hL (by omega) (fun v7 => l_cell (j := 0) rfl hL (by omega) (fun v8 => l_up (n := 3) rfl (by omega) (by omega) (fun r9 hr9 => ?_))))
      have e4 : (4 : Int32) + nI k = nI (4 + k) := nI_add 4 k
      have fin : ∀ (m : Nat) (mi : Int32), mi = nI m → m ≤ 5 → 1 ≤ m → R_L_lay L xs F 59 [nI k, mi, v7 >>> ((3 * nI k) &&& 31), 4 + nI k] [] (us s 81 f) := fun m mi em hm hm1 => by
        refine i_L_lay_59 _ _ _ _ _ _ _ _ ?_
        unfold B_L_lay_59
        refine l_up em hm1 (by omega) (fun r2 hr2 => ?_)
        rw [e4, nI_clamp (by omega)]
        refine ⟨vp_in_nI (by omega) (by omega), fun s2 e2 => ?_⟩
        rw [us_same, us_w] at e2
        subst e2
        rw [nI_1]
        refine ih (k + 1) _ _ (hR.up (4 + k) r2) (fun h hh => ?_) (by omega)
        by_cases z : h = k
        · subst z; rw [upN_s]; omega
        · rw [upN_n (by omega)]; exact hw h (by omega)
      by_cases z : nI r9 = 0
      · exact fr_f z (fin 5 5 rfl (by omega) (by omega))
      · exact fr_t z (fin 2 2 rfl (by omega) (by omega))
  have l1 : ∀ d k f, (∀ i, i < k → f i = nI 0) → k + d = 39 → R_L_lay L xs F 2 [nI k] [] (us s 81 f) := by
    intro d
    induction d with
    | zero =>
      intro k f hf e
      refine i_L_lay_2 _ _ _ _ _ ?_
      unfold B_L_lay_2
      exact br_t (by rw [show (39 : Int32) = nI 39 from rfl, q_le (by omega) (by omega)]; omega) (l2 6 0 f (fun _ => 0) (fun i hi => hf i (by omega)) (fun h hh => absurd hh (by omega)) (by omega))
    | succ d ih =>
      intro k f hf e
      refine i_L_lay_2 _ _ _ _ _ ?_
      unfold B_L_lay_2
      rw [nI_clamp (by omega)]
      refine br_f (by rw [show (39 : Int32) = nI 39 from rfl, q_le (by omega) (by omega)]; omega) ⟨vp_in_nI (by omega) (by omega), fun s1 e1 => ?_⟩
      rw [us_same, us_w] at e1
      subst e1
      rw [nI_1]
      refine ih (k + 1) _ (fun i hi => ?_) (by omega)
      unfold upd
      split
      · rfl
      · exact hf i (by omega)
  have := l1 39 0 (s 81) (fun i hi => absurd hi (by omega)) (by omega)
  rw [us_self] at this
  exact this
end HP
