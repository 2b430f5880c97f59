/-! what will be -/
def wn (p : Nat → Bool) : Nat → Nat → Int32
  | 0, _ => -1
  | d + 1, x => if p x = true then nI x else wn p d (x + 1)
theorem wn_t {p : Nat → Bool} {d x : Nat} (h : p x = true) : wn p (d + 1) x = nI x := if_pos h
theorem wn_f {p : Nat → Bool} {d x : Nat} (h : ¬ p x = true) : wn p (d + 1) x = wn p d (x + 1) := if_neg h
def vs (A : Nat → Nat) (g : Nat) : Nat → Int32
  | 0 => 0
  | x + 1 => vs A g x ||| ((1 : Int32) <<< (nI (it x A (6 + g)) &&& 31))
section O11
variable {σ τ : St} {a1 a2 a3 a4 : Int32}
/-! hours till over -/
set_option maxHeartbeats 4000000 in
set_option maxRecDepth 100000 in
theorem c_till {A : Nat → Nat} {g : Nat} (hs : StR σ 2 A) (hW : WFA A) (hg : g < A 0) {Q : Int32 → St → Prop} (hq : ∀ σ', (∀ q, q < 56 ∨ 64 < q → σ' q = σ q) → Q (wn (fun x => decide (it x A (6 + g) = 23)) 61 0) σ') : V_X0_hoursTillOver 2 (nI g) σ Q := by
  unfold V_X0_hoursTillOver B_X0_hoursTillOver_e
  have h15 := hW.2.2.1
  have h7 := hW.2.1
  refine s_copy hs hW.2.1 hW.1.2.1 (by omega) (fun s1 hs1 f1 => ?_)
  have loop : ∀ d x (s : St), x + d = 61 → StR s 56 (it x A) → (∀ q, q < 56 ∨ 64 < q → s q = σ q) → wn (fun x => decide (it x A (6 + g) = 23)) 61 0 = wn (fun x => decide (it x A (6 + g) = 23)) d x → R_X0_hoursTillOver 2 (nI g) Q 10 [nI x] [] s := by
    intro d
    induction d with
    | zero =>
      intro x s hx hs hf hw
      refine i_X0_hoursTillOver_10 _ _ _ _ _ ?_
      unfold B_X0_hoursTillOver_10
      refine ⟨fun _ => ?_, fun c => absurd (by rw [show (60 : Int32) = nI 60 from rfl, q_lt (by omega) (by omega)]; omega) c⟩
      have := hq s hf
      rw [hw] at this
      exact this
    | succ d ih =>
      intro x s hx hs hf hw
      refine i_X0_hoursTillOver_10 _ _ _ _ _ ?_
      unfold B_X0_hoursTillOver_10
      have e0 : it x A 0 = A 0 := it_lo (by omega) x
      refine ⟨fun c => absurd (by rw [show (60 : Int32) = nI 60 from rfl, q_lt (by omega) (by omega)] at c; exact c) (by omega), fun _ => ⟨vp_in_nI (by omega) (by omega), ?_⟩⟩
      have hb23 := ((Bd_it hW.1 x (by omega)).2.2.2.2.2.1 g (by omega)).2
      rw [nI_clamp (by omega), show s 60 g = nI (it x A (6 + g)) from hs.2.2.2.2.2.2.2.1 g (by omega)]
      by_cases z : it x A (6 + g) = 23
      · rw [z]
        refine fr_f rfl ?_
        have := hq s hf
        rw [hw, wn_t (decide_eq_true z)] at this
        exact this
      · refine fr_t (by rw [show (23 : Int32) = nI 23 from rfl, q_eq (by omega) (by omega)]; exact z) (s_passHour hs (Bd_it hW.1 x (by omega)) (fun s2 hs2 f2 => ?_))
        rw [nI_1]
        rw [← it_succ] at hs2
        exact ih (x + 1) s2 (by omega) hs2 (fun q hq => by rw [f2 q (by omega)]; exact hf q hq) (by rw [hw, wn_f (fun c => z (of_decide_eq_true c))])
  exact loop 61 0 s1 (by omega) hs1 (fun q hq => f1 q (by omega)) rfl
set_option maxHeartbeats 4000000 in
set_option maxRecDepth 100000 in
theorem c_tillAll {A : Nat → Nat} (hs : StR σ 2 A) (hW : WFA A) {Q : Int32 → St → Prop} (hq : ∀ σ', (∀ q, q < 56 ∨ 64 < q → σ' q = σ q) → Q (wn (fun x => decide (cnt (it x A) 23 (A 0) = A 0)) 61 0) σ') : V_X0_hoursTillAllOver 2 σ Q := by
  unfold V_X0_hoursTillAllOver B_X0_hoursTillAllOver_e
  have h15 := hW.2.2.1
  have h7 := hW.2.1
  refine s_copy hs hW.2.1 hW.1.2.1 (by omega) (fun s1 hs1 f1 => ?_)
  have loop : ∀ d x (s : St), x + d = 61 → StR s 56 (it x A) → (∀ q, q < 56 ∨ 64 < q → s q = σ q) → wn (fun x => decide (cnt (it x A) 23 (A 0) = A 0)) 61 0 = wn (fun x => decide (cnt (it x A) 23 (A 0) = A 0)) d x → R_X0_hoursTillAllOver 2 Q 10 [nI x] [] s := by
    intro d
    induction d with
    | zero =>
      intro x s hx hs hf hw
      refine i_X0_hoursTillAllOver_10 _ _ _ _ ?_
      unfold B_X0_hoursTillAllOver_10
      refine ⟨fun _ => ?_, fun c => absurd (by rw [show (60 : Int32) = nI 60 from rfl, q_lt (by omega) (by omega)]; omega) c⟩
      have := hq s hf
      rw [hw] at this
      exact this
    | succ d ih =>
      intro x s hx hs hf hw
      refine i_X0_hoursTillAllOver_10 _ _ _ _ ?_
      unfold B_X0_hoursTillAllOver_10
      have e0 : it x A 0 = A 0 := it_lo (by omega) x
      have hB := Bd_it hW.1 x (by omega)
      have hc := cnt_le (a := it x A) (s := 23) (A 0)
      refine ⟨fun c => absurd (by rw [show (60 : Int32) = nI 60 from rfl, q_lt (by omega) (by omega)] at c; exact c) (by omega), fun _ => s_over hs hB.2.2.2.2.2.2.2.2 (by omega) ?_⟩
      rw [e0, show s 56 8 = nI (A 0) from by rw [hs.1, e0]]
      by_cases z : cnt (it x A) 23 (A 0) = A 0
      · refine fr_f (by rw [z]) ?_
        have := hq s hf
        rw [hw, wn_t (decide_eq_true z)] at this
        exact this
      · refine fr_t (by rw [q_eq (by omega) (by omega)]; exact z) (s_passHour hs hB (fun s2 hs2 f2 => ?_))
        rw [nI_1]
        rw [← it_succ] at hs2
        exact ih (x + 1) s2 (by omega) hs2 (fun q hq => by rw [f2 q (by omega)]; exact hf q hq) (by rw [hw, wn_f (fun c => z (of_decide_eq_true c))])
  exact loop 61 0 s1 (by omega) hs1 (fun q hq => f1 q (by omega)) rfl
end O11

/-! the lady, the winter -/
def hG (m r c : Int32) : Int32 := ((if ((m >>> (r &&& 31)) &&& 1) = 1 then (5 : Int32) else 0) - (r / 3)) - (if r = c then (3 : Int32) else 0)
def dG (r c : Int32) : Int32 := (if r = c then (3 : Int32) else 0) - (c / 3)
def rs (m r c : Int32) : Nat → Nat → Bool
  | 0, _ => true
  | d + 1, k => if hG m r c < hG m (nI k) c then false else if dG r c < dG r (nI k) then false else rs m r c d (k + 1)
def ld (m w : Int32) : Nat → Nat → Int32 → Int32
  | 0, _, c => if w = -1 then c else -5
  | d + 1, x, c => if rs m (nI x / 10) (nI x - nI x / 10 * 10) 10 0 = true then (if c = w then nI x else ld m w d (x + 1) (c + 1)) else ld m w d (x + 1) c
section O12
variable {σ τ : St} {a1 a2 a3 a4 : Int32}
theorem ltle {x y : Int32} : ¬ x < y ↔ y ≤ x := by rw [Int32.le_iff_toInt_le, Int32.lt_iff_toInt_lt]; omega
theorem c_lady {r c m : Int32} {Q : Int32 → St → Prop} (hq : Q (hG m r c) σ) : V_X10_ladyGets r c m σ Q := by
  unfold V_X10_ladyGets B_X10_ladyGets_e
  have k : ∀ t, t = (if ((m >>> (r &&& 31)) &&& 1) = 1 then (5 : Int32) else 0) → R_X10_ladyGets r c m Q 14 [t] [] σ := fun t et => by
    refine i_X10_ladyGets_14 _ _ _ _ _ _ ?_
    unfold B_X10_ladyGets_14
    unfold hG at hq
    rw [← et] at hq
    by_cases e : r = c
    · rw [if_pos e] at hq; exact fr_f e hq
    · rw [if_neg e] at hq; exact fr_t e hq
  by_cases e : ((m >>> (r &&& 31)) &&& 1) = 1
  · exact fr_f e (k 5 (by rw [if_pos e]))
  · exact fr_t e (k 0 (by rw [if_neg e]))
theorem c_dG {r c : Int32} {Q : Int32 → St → Prop} (hq : Q (dG r c) σ) : V_X10_constableGets r c σ Q := by
  unfold V_X10_constableGets B_X10_constableGets_e
  unfold dG at hq
  by_cases e : r = c
  · rw [if_pos e] at hq; exact fr_f e hq
  · rw [if_neg e] at hq; exact fr_t e hq
set_option maxHeartbeats 4000000 in
set_option maxRecDepth 100000 in
theorem c_rests {r c m : Int32} {Q : Int32 → St → Prop} (h1 : rs m r c 10 0 = true → Q 1 σ) (h0 : ¬ rs m r c 10 0 = true → Q 0 σ) : V_X10_rests r c m σ Q := by
  unfold V_X10_rests B_X10_rests_e
  have loop : ∀ d k, k + d = 10 → rs m r c 10 0 = rs m r c d k → R_X10_rests r c m Q 2 [nI k] [] σ := by
    intro d
    induction d with
    | zero =>
      intro k hk hw
      refine i_X10_rests_2 _ _ _ _ _ _ ?_
      unfold B_X10_rests_2
      exact ⟨fun _ => h1 hw, fun c => absurd (by rw [show (10 : Int32) = nI 10 from rfl, q_le (by omega) (by omega)]; omega) c⟩
    | succ d ih =>
      intro k hk hw
      refine i_X10_rests_2 _ _ _ _ _ _ ?_
      unfold B_X10_rests_2
      refine ⟨fun c => absurd (by rw [show (10 : Int32) = nI 10 from rfl, q_le (by omega) (by omega)] at c; exact c) (by omega), fun _ => c_lady (c_lady ?_)⟩
      have hw2 : rs m r c (d + 1) k = if hG m r c < hG m (nI k) c then false else if dG r c < dG r (nI k) then false else rs m r c d (k + 1) := rfl
      by_cases e : hG m r c < hG m (nI k) c
      · exact br_t e (h0 (by rw [hw, hw2, if_pos e]; decide))
      · refine br_f e (c_dG (c_dG ?_))
        by_cases f : dG r c < dG r (nI k)
        · exact br_f (fun c => ltle.mpr c f) (h0 (by rw [hw, hw2, if_neg e, if_pos f]; decide))
        · refine br_t (ltle.mp f) ?_
          rw [nI_1]
          exact ih (k + 1) (by omega) (by rw [hw, hw2, if_neg e, if_neg f])
  exact loop 10 0 rfl rfl
set_option maxHeartbeats 4000000 in
set_option maxRecDepth 100000 in
theorem c_visited {A : Nat → Nat} {g : Nat} (hs : StR σ 2 A) (hW : WFA A) (hg : g < A 0) {Q : Int32 → St → Prop} (hq : ∀ σ', (∀ q, q < 56 ∨ 64 < q → σ' q = σ q) → Q (vs A g 31) σ') : V_X0_visited 2 (nI g) σ Q := by
  unfold V_X0_visited B_X0_visited_e
  have h15 := hW.2.2.1
  have h7 := hW.2.1
  refine s_copy hs hW.2.1 hW.1.2.1 (by omega) (fun s1 hs1 f1 => ?_)
  have loop : ∀ d x (s : St), x + d = 31 → StR s 56 (it x A) → (∀ q, q < 56 ∨ 64 < q → s q = σ q) → R_X0_visited 2 (nI g) Q 13 [vs A g x, nI x] [] s := by
    intro d
    induction d with
    | zero =>
      intro x s hx hs hf
      refine i_X0_visited_13 _ _ _ _ _ _ ?_
      unfold B_X0_visited_13
      refine ⟨fun _ => ?_, fun c => absurd (by rw [show (30 : Int32) = nI 30 from rfl, q_lt (by omega) (by omega)]; omega) c⟩
      rw [(by omega : x = 31)]
      exact hq s hf
    | succ d ih =>
      intro x s hx hs hf
      refine i_X0_visited_13 _ _ _ _ _ _ ?_
      unfold B_X0_visited_13
      have e0 : it x A 0 = A 0 := it_lo (by omega) x
      refine ⟨fun c => absurd (by rw [show (30 : Int32) = nI 30 from rfl, q_lt (by omega) (by omega)] at c; exact c) (by omega), fun _ => ⟨vp_in_nI (by omega) (by omega), fun v1 ev1 => ?_⟩⟩
      rw [nI_clamp (by omega), show s 60 g = nI (it x A (6 + g)) from hs.2.2.2.2.2.2.2.1 g (by omega)] at ev1
      subst ev1
      refine s_passHour hs (Bd_it hW.1 x (by omega)) (fun s2 hs2 f2 => ?_)
      rw [nI_1]
      rw [← it_succ] at hs2
      exact ih (x + 1) s2 (by omega) hs2 (fun q hq => by rw [f2 q (by omega)]; exact hf q hq)
  exact loop 31 0 s1 (by omega) hs1 (fun q hq => f1 q (by omega))
end O12

/-! a winter by chance; the rain -/
def nx (n : Nat) : Nat := (n * 1103515245 + 12345) % 2147483648
def vv (n : Nat) : Nat := nx n / 65536 % 4
def wt (A : Nat → Nat) (n : Nat) : Nat → Nat := if vv n < A 1 then upN A 14 (A 14 ^^^ 2 ^ vv n) else A
def wst : Nat → Nat → (Nat → Nat) → (Nat → Nat)
  | 0, _, A => A
  | d + 1, n, A => wst d (nx n) (hr (wt A n))
theorem Bd_sh {a : Nat → Nat} {x : Nat} (h : Bd a) (hx : x < 8) : Bd (upN a 14 x) := by
  obtain ⟨b0, b1, b14, b15, bw, bg, bc, bd, bs⟩ := h
  have o : ∀ i, i ≠ 14 → upN a 14 x i = a i := fun i hi => upN_n hi
  refine ⟨by rw [o _ (by omega)]; exact b0, by rw [o _ (by omega)]; exact b1, by rw [upN_s]; exact hx, by rw [o _ (by omega)]; exact b15, fun i hi => by rw [o _ (by omega)]; exact bw i hi, fun g hg => ?_, fun k hk => ?_, fun j k hj hk => ?_, fun i => ?_⟩
  · rw [o _ (by omega)] at hg
    by_cases z : 6 + g = 14
    · omega
    · rw [o _ (by omega), o _ z]; exact bg g hg
  · rw [o _ (by omega)] at hk
    rw [o _ (by omega), o _ (by omega)]; exact bc k hk
  · rw [o _ (by omega)] at hj hk
    rw [o _ (by omega), o _ (by omega)]; exact bd j k hj hk
  · by_cases z : i = 14
    · subst z; rw [upN_s]; omega
    · rw [o _ z]; exact bs i
theorem Bd_wt {a : Nat → Nat} {n : Nat} (h : Bd a) : Bd (wt a n) := by
  unfold wt
  split
  · rename_i c
    have h1 := h.2.1
    exact Bd_sh h (q_xor _ h.2.2.1 _ (by omega)).2
  · exact h
theorem wt_o {a : Nat → Nat} {n i : Nat} (h : i ≠ 14) : wt a n i = a i := by
  unfold wt
  split
  · exact upN_n h
  · rfl
theorem wy {n : Nat} (hn : n < 2147483648) : ((lN n * 1103515245) + 12345) - ((lN n * 1103515245) + 12345) / 2147483648 * 2147483648 = lN (nx n) := by
  rw [show (1103515245 : Int64) = lN 1103515245 from rfl, show (12345 : Int64) = lN 12345 from rfl, show (2147483648 : Int64) = lN 2147483648 from rfl, lN_mul, lN_add, pk_lRem (by omega) (by omega) (by omega)]
  rfl
theorem wv {n : Nat} : ((lN (nx n) / 65536) - (lN (nx n) / 65536) / 4 * 4).toInt32 = nI (vv n) := by
  have : nx n < 2147483648 := Nat.mod_lt _ (by omega)
  rw [show (65536 : Int64) = lN 65536 from rfl, show (4 : Int64) = lN 4 from rfl, pk_lDiv (by omega) (by omega) (by omega), pk_lRem (by omega) (by omega) (by omega), lN_i]
  rfl
section O13
variable {σ τ : St} {a1 a2 a3 a4 : Int32}
theorem vv4 {n : Nat} : vv n < 4 := Nat.mod_lt _ (by omega)
theorem nx31 {n : Nat} : nx n < 2147483648 := Nat.mod_lt _ (by omega)
set_option maxHeartbeats 4000000 in
set_option maxRecDepth 100000 in
theorem c_winter {A0 : Nat → Nat} {n0 m : Nat} (hs0 : StR σ 2 A0) (hW : WFA A0) (hn0 : n0 < 2147483648) (hm : m ≤ 60) {Q : Int32 → St → Prop} (hq : ∀ σ', (∀ q, q < 56 ∨ 64 < q → σ' q = σ q) → Q (nI (cnt (wst m n0 A0) 23 (A0 0))) σ') : V_X0_overBehindWinter 2 (nI n0) (nI m) σ Q := by
  unfold V_X0_overBehindWinter B_X0_overBehindWinter_e
  have h15 := hW.2.2.1
  have h7 := hW.2.1
  rw [nI_l (by omega)]
  refine s_copy hs0 hW.2.1 hW.1.2.1 (by omega) (fun s1 hs1 f1 => ?_)
  have loop : ∀ d x n (A : Nat → Nat) (s : St), x + d = m → n < 2147483648 → Bd A → A 0 = A0 0 → A 15 + d < 1000000 → StR s 56 A → (∀ q, q < 56 ∨ 64 < q → s q = σ q) → wst m n0 A0 = wst d n A → R_X0_overBehindWinter 2 (nI n0) (nI m) Q 15 [nI x] [lN n] s := by
    intro d
    induction d with
    | zero =>
      intro x n A s hx hn hB h0 h15 hs hf hw
      refine i_X0_overBehindWinter_15 _ _ _ _ _ _ _ ?_
      unfold B_X0_overBehindWinter_15
      refine ⟨fun _ => s_over hs hB.2.2.2.2.2.2.2.2 (by omega) ?_, fun c => absurd (by rw [q_le (by omega) (by omega)]; omega) c⟩
      have := hq s hf
      rw [hw] at this
      rw [h0]
      exact this
    | succ d ih =>
      intro x n A s hx hn hB h0 h15 hs hf hw
      refine i_X0_overBehindWinter_15 _ _ _ _ _ _ _ ?_
      unfold B_X0_overBehindWinter_15
      refine ⟨fun c => absurd (by rw [q_le (by omega) (by omega)] at c; exact c) (by omega), fun _ => fun v2 e2 v3 e3 => ?_⟩
      rw [wy hn] at e2
      subst e2
      rw [wv] at e3
      subst e3
      have hv := vv4 (n := n)
      have next : ∀ s', StR s' 56 (wt A n) → (∀ q, q < 56 ∨ 64 < q → s' q = σ q) → R_X0_overBehindWinter 2 (nI n0) (nI m) Q 71 [nI x] [lN (nx n)] s' := fun s' hs' hf' => by
        refine i_X0_overBehindWinter_71 _ _ _ _ _ _ _ ?_
        unfold B_X0_overBehindWinter_71
        have e15 : wt A n 15 = A 15 := wt_o (by omega)
        have e0 : wt A n 0 = A 0 := wt_o (by omega)
        refine s_passHour hs' (Bd_wt hB) (fun s2 hs2 f2 => ?_)
        rw [nI_1]
        exact ih (x + 1) (nx n) (hr (wt A n)) s2 (by omega) nx31 (Bd_hr (Bd_wt hB) (by omega)) (by rw [hr_lo (by omega), e0, h0]) (by rw [hr_15 (by omega), e15]; omega) hs2 (fun q hq => by rw [f2 q (by omega)]; exact hf' q hq) (by rw [hw]; rfl)
      rw [hs.2.1]
      have h1 := hB.2.1
      by_cases c : vv n < A 1
      · have ew : wt A n = upN A 14 (A 14 ^^^ 2 ^ vv n) := by unfold wt; rw [if_pos c]
        refine br_f (by rw [q_le (by omega) (by omega)]; omega) ?_
        unfold V_X8_turn B_X8_turn_e
        intro s3 f3
        rw [hs.2.2.1, q_shl (by omega), (q_xor _ hB.2.2.1 _ (by omega)).1] at f3
        subst f3
        exact next _ (by rw [ew]; exact hs.shut (by omega)) (fun q hq => by rw [us_ne (by omega)]; exact hf q hq)
      · have ew : wt A n = A := by unfold wt; rw [if_neg c]
        exact br_t (by rw [q_le (by omega) (by omega)]; omega) (next s (by rw [ew]; exact hs) hf)
  exact loop m 0 n0 A0 s1 (by omega) hn0 hW.1 rfl (by omega) hs1 (fun q hq => f1 q (by omega)) rfl
end O13

/-! what is counted -/
def pb : Nat → Nat → Nat
  | 0, _ => 0
  | d + 1, x => x % 2 + pb d (x / 2)
def wg (A : Nat → Nat) : Nat → Nat
  | 0 => 0
  | g + 1 => wg A g + (if bh A (A (6 + g)) = 0 then 0 else 1)
def wb (A : Nat → Nat) (n : Nat) : Nat → Nat
  | 0 => 0
  | k + 1 => wb A n k + cnt A (A (40 + k)) n
theorem wg_le {A : Nat → Nat} : ∀ n, wg A n ≤ n
  | 0 => Nat.le_refl _
  | n + 1 => by
    have := wg_le (A := A) n
    unfold wg
    split <;> omega
theorem wb_wg {A : Nat → Nat} (hB : Bd A) : ∀ n, wb A n (A 1) = wg A n := by
  intro n
  induction n with
  | zero =>
    have z : ∀ k, wb A 0 k = 0 := fun k => by
      induction k with
      | zero => rfl
      | succ k ih => show wb A 0 k + 0 = 0; omega
    rw [z]
    rfl
  | succ n ih =>
    have hb := bh_le (s := A (6 + n)) hB
    have key : ∀ k, k ≤ A 1 → wb A (n + 1) k = wb A n k + (if 0 < bh A (A (6 + n)) ∧ bh A (A (6 + n)) ≤ k then 1 else 0) := by
      intro k
      induction k with
      | zero =>
        intro _
        rw [if_neg (by omega)]
        rfl
      | succ k ihk =>
        intro hk
        have h := ihk (by omega)
        have e1 : wb A (n + 1) (k + 1) = wb A (n + 1) k + (cnt A (A (40 + k)) n + (if A (6 + n) = A (40 + k) then 1 else 0)) := rfl
        have e2 : wb A n (k + 1) = wb A n k + cnt A (A (40 + k)) n := rfl
        rw [e1, e2, h]
        by_cases z : A (6 + n) = A (40 + k)
        · have := bh_of hB (k := k) (by omega)
          rw [z, this, if_pos rfl, if_neg (by omega), if_pos (by omega)]
          omega
        · have hne : bh A (A (6 + n)) ≠ k + 1 := fun c => by
            have := bh_at (a := A) (s := A (6 + n)) (by omega)
            rw [c] at this
            exact z this.symm
          rw [if_neg z]
          by_cases y : 0 < bh A (A (6 + n)) ∧ bh A (A (6 + n)) ≤ k
          · rw [if_pos y, if_pos (by omega)]; omega
          · rw [if_neg y, if_neg (by omega)]; omega
    have e3 : wg A (n + 1) = wg A n + (if bh A (A (6 + n)) = 0 then 0 else 1) := rfl
    rw [key (A 1) (Nat.le_refl _), e3, ih]
    by_cases z : bh A (A (6 + n)) = 0
    · rw [if_neg (by omega), if_pos z]
    · rw [if_pos (by omega), if_neg z]
def cN (S : SS) (w : Nat) : Nat := if w = 0 then S 0 0 else if w = 1 then S 0 1 else if w = 2 then S 0 15 else if w = 3 then cnt (S 0) 23 (S 0 0) else if w = 4 then wg (S 0) (S 0 0) else if w = 5 then pb 3 (S 0 14) else if w = 6 then S 0 2 else if w = 7 then S 0 3 else if w = 8 then S 0 4 else if w = 9 then S 0 5 else S 6 0
section O14
variable {σ τ : St} {a1 a2 a3 a4 : Int32}
set_option maxHeartbeats 4000000 in
set_option maxRecDepth 100000 in
theorem v_bc {k : Nat} (hk : k < 8) {Q : Int32 → St → Prop} (hq : Q (nI (pb 3 k)) σ) : V_J6_bitCount_0f7a4 (nI k) σ Q := by
  unfold V_J6_bitCount_0f7a4 B_J6_bitCount_0f7a4_e
  rcases (by omega : k = 0 ∨ k = 1 ∨ k = 2 ∨ k = 3 ∨ k = 4 ∨ k = 5 ∨ k = 6 ∨ k = 7) with rfl | rfl | rfl | rfl | rfl | rfl | rfl | rfl
  · intro v1 e1 v2 e2 v3 e3 v4 e4 v5 e5
    subst e1; subst e2; subst e3; subst e4; subst e5
    exact (show ∀ v, v = nI (pb 3 0) → Q v σ from fun v e => e ▸ hq) _ (by decide +kernel)
  · intro v1 e1 v2 e2 v3 e3 v4 e4 v5 e5
    subst e1; subst e2; subst e3; subst e4; subst e5
    exact (show ∀ v, v = nI (pb 3 1) → Q v σ from fun v e => e ▸ hq) _ (by decide +kernel)
  · intro v1 e1 v2 e2 v3 e3 v4 e4 v5 e5
    subst e1; subst e2; subst e3; subst e4; subst e5
    exact (show ∀ v, v = nI (pb 3 2) → Q v σ from fun v e => e ▸ hq) _ (by decide +kernel)
  · intro v1 e1 v2 e2 v3 e3 v4 e4 v5 e5
    subst e1; subst e2; subst e3; subst e4; subst e5
    exact (show ∀ v, v = nI (pb 3 3) → Q v σ from fun v e => e ▸ hq) _ (by decide +kernel)
  · intro v1 e1 v2 e2 v3 e3 v4 e4 v5 e5
    subst e1; subst e2; subst e3; subst e4; subst e5
    exact (show ∀ v, v = nI (pb 3 4) → Q v σ from fun v e => e ▸ hq) _ (by decide +kernel)
  · intro v1 e1 v2 e2 v3 e3 v4 e4 v5 e5
    subst e1; subst e2; subst e3; subst e4; subst e5
    exact (show ∀ v, v = nI (pb 3 5) → Q v σ from fun v e => e ▸ hq) _ (by decide +kernel)
  · intro v1 e1 v2 e2 v3 e3 v4 e4 v5 e5
    subst e1; subst e2; subst e3; subst e4; subst e5
    exact (show ∀ v, v = nI (pb 3 6) → Q v σ from fun v e => e ▸ hq) _ (by decide +kernel)
  · intro v1 e1 v2 e2 v3 e3 v4 e4 v5 e5
    subst e1; subst e2; subst e3; subst e4; subst e5
    exact (show ∀ v, v = nI (pb 3 7) → Q v σ from fun v e => e ▸ hq) _ (by decide +kernel)
set_option maxHeartbeats 4000000 in
set_option maxRecDepth 100000 in
theorem s_waitAll {h : Nat} {a : Nat → Nat} (H : StR σ h a) (hB : Bd a) {Q : Int32 → St → Prop} (hq : Q (nI (wg a (a 0))) σ) : V_X8_waitingInAll h σ Q := by
  unfold V_X8_waitingInAll B_X8_waitingInAll_e
  have hs : Sm a := hB.2.2.2.2.2.2.2.2
  have h0 := hB.1
  have h1 := hB.2.1
  have loop : ∀ d k, k + d = a 1 → R_X8_waitingInAll h Q 4 [nI (wb a (a 0) k), nI k] [] σ := by
    intro d
    induction d with
    | zero =>
      intro k hk
      refine i_X8_waitingInAll_4 _ _ _ _ _ ?_
      unfold B_X8_waitingInAll_4
      rw [H.2.1]
      refine ⟨fun _ => ?_, fun c => absurd (by rw [q_le (by omega) (by omega)]; omega) c⟩
      rw [(by omega : k = a 1), wb_wg hB]
      exact hq
    | succ d ih =>
      intro k hk
      refine i_X8_waitingInAll_4 _ _ _ _ _ ?_
      unfold B_X8_waitingInAll_4
      rw [H.2.1]
      refine ⟨fun c => absurd (by rw [q_le (by omega) (by omega)] at c; exact c) (by omega), fun _ => s_waitingBehind H hs h0 h1 (by omega) ?_⟩
      rw [nI_add, nI_1]
      exact ih (k + 1) (by omega)
  exact loop (a 1) 0 (by omega)
set_option maxHeartbeats 4000000 in
set_option maxRecDepth 100000 in
theorem c_counted {S : SS} {B : CB} {w : Nat} (HC : CR σ S B) (HW : WF S) (hw : w ≤ 10) {Q : Int32 → St → Prop} (hq : Q (nI (cN S w)) σ) : V_X10_counted (nI w) σ Q := by
  unfold V_X10_counted B_X10_counted_e
  obtain ⟨c0, c1, c2, crow, c7, c8, c9, c10, c11, c12, c70, c71⟩ := id HC
  obtain ⟨hst, hpa, hse, hno, hma⟩ := id c0
  have h0 := HW.1.2.1
  have h14 := HW.1.1.2.2.1
  rcases (by omega : w = 0 ∨ w = 1 ∨ w = 2 ∨ w = 3 ∨ w = 4 ∨ w = 5 ∨ w = 6 ∨ w = 7 ∨ w = 8 ∨ w = 9 ∨ w = 10) with rfl | rfl | rfl | rfl | rfl | rfl | rfl | rfl | rfl | rfl | rfl
  · exact br_t rfl (by rw [show σ 2 8 = nI (S 0 0) from hst.1]; exact hq)
  · exact br_f (by decide) (br_t rfl (by rw [show σ 2 9 = nI (S 0 1) from hst.2.1]; exact hq))
  · exact br_f (by decide) (br_f (by decide) (br_t rfl (by rw [show σ 2 11 = nI (S 0 15) from hst.2.2.2.1]; exact hq)))
  · exact br_f (by decide) (br_f (by decide) (br_f (by decide) (br_t rfl (s_over hst HW.1.sm (by omega) hq))))
  · exact br_f (by decide) (br_f (by decide) (br_f (by decide) (br_f (by decide) (br_t rfl (s_waitAll hst HW.1.1 hq)))))
  · exact br_f (by decide) (br_f (by decide) (br_f (by decide) (br_f (by decide) (br_f (by decide) (br_t rfl (by rw [show σ 2 10 = nI (S 0 14) from hst.2.2.1]; exact v_bc h14 hq))))))
  · exact br_f (by decide) (br_f (by decide) (br_f (by decide) (br_f (by decide) (br_f (by decide) (br_f (by decide) (br_t rfl (by rw [show σ 13 3 = nI (S 0 2) from hse.1]; exact hq)))))))
  · exact br_f (by decide) (br_f (by decide) (br_f (by decide) (br_f (by decide) (br_f (by decide) (br_f (by decide) (br_f (by decide) (br_t rfl (by rw [show σ 15 3 = nI (S 0 3) from hno.1]; exact hq))))))))
  · exact br_f (by decide) (br_f (by decide) (br_f (by decide) (br_f (by decide) (br_f (by decide) (br_f (by decide) (br_f (by decide) (br_f (by decide) (br_t rfl (by rw [show σ 17 3 = nI (S 0 4) from hma.1]; exact hq)))))))))
  · exact br_f (by decide) (br_f (by decide) (br_f (by decide) (br_f (by decide) (br_f (by decide) (br_f (by decide) (br_f (by decide) (br_f (by decide) (br_f (by decide) (br_t rfl (by rw [show σ 11 1 = nI (S 0 5) from hpa.1]; exact hq))))))))))
  · exact br_f (by decide) (br_f (by decide) (br_f (by decide) (br_f (by decide) (br_f (by decide) (br_f (by decide) (br_f (by decide) (br_f (by decide) (br_f (by decide) (br_f (by decide) (by rw [c70]; exact hq))))))))))
end O14

