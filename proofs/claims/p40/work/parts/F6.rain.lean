/-! the rain -/
def gi (A : Nat → Nat) (w : Nat) : Nat → Nat
  | 0 => 0
  | g + 1 => gi A w g + (if bh A (A (6 + g)) = 0 then gA (A (22 + g)) (A 15) w else 0)
theorem gi_le {A : Nat → Nat} {w : Nat} : ∀ n, gi A w n ≤ 4 * n
  | 0 => Nat.le_refl _
  | n + 1 => by
    have := gi_le (A := A) (w := w) n
    have := gA_le (k := A (22 + n)) (h := A 15) (w := w)
    unfold gi
    split <;> omega
theorem lg_eq0 {x y : Int64} : lg_cmp x y = 0 ↔ x.toInt = y.toInt := by
  have h1 := lg_lt0 (x := x) (y := y)
  have h2 := lg_gt0 (x := x) (y := y)
  rw [Int32.lt_iff_toInt_lt] at h1 h2
  have z : (0 : Int32).toInt = 0 := by decide
  have e : lg_cmp x y = 0 ↔ (lg_cmp x y).toInt = 0 := ⟨fun c => by rw [c]; exact z, fun c => Int32.toInt_inj.mp (c.trans z.symm)⟩
  rw [z] at h1 h2
  rw [e]
  omega
def fr4 (S : SS) (a b : Nat) : SS := fun i => if i = 4 then (fun j => if j = 0 then a else b) else S i
theorem fr4_o {S : SS} {a b i : Nat} (h : i ≠ 4) : fr4 S a b i = S i := if_neg h
section O16
variable {σ τ : St} {a1 a2 a3 a4 : Int32}
set_option maxHeartbeats 4000000 in
set_option maxRecDepth 100000 in
theorem s_goneAll {h : Nat} {a : Nat → Nat} {w : Nat} (H : StR σ h a) (hB : Bd a) (hw : w ≤ 4) {Q : Int32 → St → Prop} (hq : Q (nI (gi a w (a 0))) σ) : V_X8_goneInAll h (nI w) σ Q := by
  unfold V_X8_goneInAll B_X8_goneInAll_e
  have hs : Sm a := hB.2.2.2.2.2.2.2.2
  have h0 := hB.1
  have loop : ∀ d g, g + d = a 0 → R_X8_goneInAll h (nI w) Q 4 [nI (gi a w g), nI g] [] σ := by
    intro d
    induction d with
    | zero =>
      intro g hg
      refine i_X8_goneInAll_4 _ _ _ _ _ _ ?_
      unfold B_X8_goneInAll_4
      rw [H.1, (by omega : g = a 0)]
      exact ⟨fun _ => hq, fun c => absurd (by rw [q_le (by omega) (by omega)]; omega) c⟩
    | succ d ih =>
      intro g hg
      refine i_X8_goneInAll_4 _ _ _ _ _ _ ?_
      unfold B_X8_goneInAll_4
      obtain ⟨b1, b2⟩ := hB.2.2.2.2.2.1 g (by omega)
      have e : gi a w (g + 1) = gi a w g + (if bh a (a (6 + g)) = 0 then gA (a (22 + g)) (a 15) w else 0) := rfl
      rw [H.1]
      refine ⟨fun c => absurd (by rw [q_le (by omega) (by omega)] at c; exact c) (by omega), fun _ => s_waits H hs (by omega) h0 b2 (fun z => ?_) (fun z => ?_)⟩
      · refine fr_f rfl ⟨vp_in_nI (by omega) (by omega), ?_⟩
        rw [nI_clamp (by omega), H.2.2.2.2.2.1 g (by omega), H.2.2.2.1]
        refine v_spikesGone b1 (hs _) hw ?_
        rw [if_pos z] at e
        rw [nI_add, nI_1, ← e]
        exact ih (g + 1) (by omega)
      · refine fr_t (by decide) ?_
        rw [if_neg z] at e
        rw [nI_1, show gi a w g = gi a w (g + 1) from e.symm]
        exact ih (g + 1) (by omega)
  exact loop (a 0) 0 (by omega)
set_option maxHeartbeats 4000000 in
set_option maxRecDepth 100000 in
theorem c_kf {num den : Nat} (hn : num ≤ 1000) (hd : den ≤ 60) (h0 : 0 < den) {Q : St → Prop} (hq : Q (us σ 0 (upd (upd (σ 0) 8 (nI (num / Nat.gcd den num))) 9 (nI (den / Nat.gcd den num))))) : V_X10_keepFraction (nI num) (nI den) σ Q := by
  unfold V_X10_keepFraction B_X10_keepFraction_e
  have hg : 0 < Nat.gcd den num := Nat.gcd_pos_of_pos_left _ h0
  have hgl : Nat.gcd den num ≤ den := Nat.le_of_dvd h0 (Nat.gcd_dvd_left _ _)
  have fin : R_X10_keepFraction (nI num) (nI den) Q 39 [nI (Nat.gcd den num)] [] σ := by
    refine i_X10_keepFraction_39 _ _ _ _ _ ?_
    unfold B_X10_keepFraction_39
    have ne : ¬ nI (Nat.gcd den num) = 0 := by rw [show (0 : Int32) = nI 0 from rfl, q_eq (by omega) (by omega)]; omega
    refine ⟨fun c => absurd (by rw [show (0 : Int32) = nI 0 from rfl, q_le (by omega) (by omega)] at c; exact c) (by omega), fun _ => ⟨ne, fun s1 e1 => ⟨ne, fun s2 e2 => ?_⟩⟩⟩
    rw [pk_div (by omega) hg (by omega)] at e1 e2
    subst e1
    rw [us_same, us_us] at e2
    subst e2
    exact hq
  have loop : ∀ n a b x, b ≤ n → a ≤ 1000 → n ≤ 60 → x + n ≤ 60 → Nat.gcd b a = Nat.gcd den num → R_X10_keepFraction (nI num) (nI den) Q 8 [nI a, nI b, nI x] [] σ := by
    intro n
    induction n with
    | zero =>
      intro a b x hb ha hn hx hgc
      refine i_X10_keepFraction_8 _ _ _ _ _ _ _ ?_
      unfold B_X10_keepFraction_8
      have z : b = 0 := Nat.le_antisymm hb (Nat.zero_le _)
      subst z
      rw [Nat.gcd_zero_left] at hgc
      rw [hgc]
      exact ⟨fun c => absurd (by rw [show (64 : Int32) = nI 64 from rfl, q_le (by omega) (by omega)] at c; exact c) (by omega), fun _ => br_t rfl fin⟩
    | succ n ih =>
      intro a b x hb ha hn hx hgc
      refine i_X10_keepFraction_8 _ _ _ _ _ _ _ ?_
      unfold B_X10_keepFraction_8
      refine ⟨fun c => absurd (by rw [show (64 : Int32) = nI 64 from rfl, q_le (by omega) (by omega)] at c; exact c) (by omega), fun _ => ?_⟩
      by_cases z : b = 0
      · subst z
        rw [Nat.gcd_zero_left] at hgc
        rw [hgc]
        exact br_t rfl fin
      · have nb : ¬ nI b = 0 := by rw [show (0 : Int32) = nI 0 from rfl, q_eq (by omega) (by omega)]; exact z
        have hm : a % b < b := Nat.mod_lt _ (by omega)
        refine br_f nb ⟨nb, ?_⟩
        rw [pk_rem (by omega) (by omega) (by omega), nI_1]
        exact ih b (a % b) (x + 1) (by omega) (by omega) (by omega) (by omega) (by rw [← Nat.gcd_rec]; exact hgc)
  exact loop den num den 0 (Nat.le_refl _) hn hd (by omega) rfl
end O16

/-! the fewest that hold -/
def hb (p : Nat → Bool) : Nat → Nat → Nat → Nat
  | 0, _, b => b
  | d + 1, k, b => hb p d (k + 1) (if p k = true ∧ (b = 9 ∨ pb 3 k < pb 3 b) then k else b)
def ov (b : Nat) : Int32 := if b = 9 then -1 else nI b
def hp (A : Nat → Nat) (m : Nat) (k : Nat) : Bool := decide (cnt (it m (upN A 14 k)) 23 (A 0) = cnt A 23 (A 0))
theorem pb3 : ∀ k, k < 8 → pb 3 k ≤ 3 := by decide
section O17
variable {σ τ : St} {a1 a2 a3 a4 : Int32}
set_option maxHeartbeats 4000000 in
set_option maxRecDepth 100000 in
theorem c_holds {A : Nat → Nat} {m k : Nat} (hs : StR σ 2 A) (hW : WFA A) (hm : m ≤ 60) (hk : k < 8) {Q : Int32 → St → Prop} (hq : ∀ σ', (∀ q, q < 56 ∨ 64 < q → σ' q = σ q) → Q (if hp A m k = true then 1 else 0) σ') : V_X0_holds 2 (nI k) (nI m) σ Q := by
  unfold V_X0_holds B_X0_holds_e
  have h15 := hW.2.2.1
  have h7 := hW.2.1
  refine s_copy hs hW.2.1 hW.1.2.1 (by omega) (fun s1 hs1 f1 s2 e2 => ?_)
  have hs2 := hs1.shut h7 (x := k)
  rw [← e2] at hs2
  have hB := Bd_sh hW.1 hk
  have e15 : upN A 14 k 15 = A 15 := upN_n (by omega)
  have e0 : it m (upN A 14 k) 0 = A 0 := by rw [it_lo (by omega), upN_n (by omega)]
  have hB2 := Bd_it hB m (by omega)
  refine s_pass hs2 hB (by omega) (fun s3 hs3 f3 => s_over hs3 hB2.2.2.2.2.2.2.2.2 (by omega) ?_)
  have fr : ∀ q, q < 56 ∨ 64 < q → s3 q = σ q := fun q hq => by rw [f3 q (by omega), e2, us_ne (by omega), f1 q (by omega)]
  refine s_over (hs.congr (fun q h1 h2 => fr q (by omega))) hW.sm (by omega) ?_
  have c1 := cnt_le (a := it m (upN A 14 k)) (s := 23) (A 0)
  have c2 := cnt_le (a := A) (s := 23) (A 0)
  have := hq s3 fr
  rw [e0]
  unfold hp at this
  by_cases z : cnt (it m (upN A 14 k)) 23 (A 0) = cnt A 23 (A 0)
  · rw [if_pos (decide_eq_true z)] at this
    exact fr_f (by rw [z]) this
  · rw [if_neg (fun c => z (of_decide_eq_true c))] at this
    exact fr_t (by rw [q_eq (by omega) (by omega)]; exact z) this
set_option maxHeartbeats 4000000 in
set_option maxRecDepth 100000 in
theorem c_fewest {A : Nat → Nat} {m : Nat} (hs : StR σ 2 A) (hW : WFA A) (hm : m ≤ 60) {Q : Int32 → St → Prop} (hq : ∀ σ', (∀ q, q < 56 ∨ 64 < q → σ' q = σ q) → Q (ov (hb (hp A m) (2 ^ A 1) 0 9)) σ') : V_X0_fewestThatHold 2 (nI m) σ Q := by
  unfold V_X0_fewestThatHold B_X0_fewestThatHold_e
  have h3 := hW.1.2.1
  have hp8 : 2 ^ A 1 ≤ 8 := Nat.pow_le_pow_right (n := 2) (by omega) h3
  have loop : ∀ d k b (s : St), k + d = 2 ^ A 1 → (b = 9 ∨ b < 8) → (∀ q, q < 56 ∨ 64 < q → s q = σ q) → hb (hp A m) (2 ^ A 1) 0 9 = hb (hp A m) d k b → R_X0_fewestThatHold 2 (nI m) Q 8 [ov b, nI (if b = 9 then 4 else pb 3 b), nI k] [] s := by
    intro d
    induction d with
    | zero =>
      intro k b s hk hb9 hf hw
      refine i_X0_fewestThatHold_8 _ _ _ _ _ _ _ ?_
      unfold B_X0_fewestThatHold_8
      rw [hf 2 (by omega), hs.2.1, q_shl (by omega)]
      refine ⟨fun _ => ?_, fun c => absurd (by rw [q_le (by omega) (by omega)]; omega) c⟩
      have := hq s hf
      rw [hw] at this
      exact this
    | succ d ih =>
      intro k b s hk hb9 hf hw
      refine i_X0_fewestThatHold_8 _ _ _ _ _ _ _ ?_
      unfold B_X0_fewestThatHold_8
      have p3 := pb3 k (by omega)
      have hbb : (if b = 9 then 4 else pb 3 b) ≤ 4 := by
        split
        · omega
        · have := pb3 b (by omega); omega
      have hw2 : hb (hp A m) (d + 1) k b = hb (hp A m) d (k + 1) (if hp A m k = true ∧ (b = 9 ∨ pb 3 k < pb 3 b) then k else b) := rfl
      rw [hf 2 (by omega), hs.2.1, q_shl (by omega)]
      refine ⟨fun c => absurd (by rw [q_le (by omega) (by omega)] at c; exact c) (by omega), fun _ => v_bc (by omega) ?_⟩
      have keep : ∀ s', (∀ q, q < 56 ∨ 64 < q → s' q = σ q) → ¬ (hp A m k = true ∧ (b = 9 ∨ pb 3 k < pb 3 b)) → R_X0_fewestThatHold 2 (nI m) Q 8 [ov b, nI (if b = 9 then 4 else pb 3 b), nI k + 1] [] s' := fun s' hf' c => by
        rw [nI_1]
        exact ih (k + 1) b s' (by omega) hb9 hf' (by rw [hw, hw2, if_neg c])
      by_cases c : (if b = 9 then 4 else pb 3 b) ≤ pb 3 k
      · refine br_t (by rw [q_le (by omega) (by omega)]; exact c) (keep s hf (fun h => ?_))
        rcases h.2 with h | h
        · rw [if_pos h] at c; omega
        · by_cases z : b = 9
          · rw [if_pos z] at c; omega
          · rw [if_neg z] at c; omega
      · refine br_f (by rw [q_le (by omega) (by omega)]; exact c) (c_holds (hs.congr (fun q h1 h2 => hf q (by omega))) hW hm (by omega) (fun s' hf' => ?_))
        have fr : ∀ q, q < 56 ∨ 64 < q → s' q = σ q := fun q hq => by rw [hf' q hq, hf q hq]
        by_cases y : hp A m k = true
        · rw [if_pos y]
          refine br_f (by decide) ?_
          have hup : hp A m k = true ∧ (b = 9 ∨ pb 3 k < pb 3 b) := ⟨y, by
            by_cases z : b = 9
            · exact Or.inl z
            · rw [if_neg z] at c; exact Or.inr (by omega)⟩
          have := ih (k + 1) k s' (by omega) (Or.inr (by omega)) fr (by rw [hw, hw2, if_pos hup])
          have ek : ov k = nI k := if_neg (by omega)
          rw [ek, if_neg (show ¬ k = 9 by omega)] at this
          rw [nI_1]
          exact this
        · rw [if_neg y]
          exact br_t rfl (keep s' fr (fun h => y h.1))
  exact loop (2 ^ A 1) 0 9 σ (by omega) (Or.inl rfl) (fun _ _ => rfl) rfl
end O17

/-! a glove dropped: the marks are of no weight in an hour -/
def Em (a b : Nat → Nat) : Prop := ∀ i, (i < 30 ∨ 37 ≤ i) → a i = b i
theorem Em_bh {a b : Nat → Nat} (E : Em a b) (s : Nat) : bh a s = bh b s := by
  unfold bh
  rw [E 1 (by omega), E 40 (by omega), E 41 (by omega), E 42 (by omega)]
theorem Em_cnt {a b : Nat → Nat} (E : Em a b) (s : Nat) : ∀ n, n ≤ 24 → cnt a s n = cnt b s n
  | 0, _ => rfl
  | n + 1, h => by
    unfold cnt
    rw [Em_cnt E s n (by omega), E (6 + n) (by omega)]
theorem Em_lets {a b : Nat → Nat} (E : Em a b) (h0 : a 0 ≤ 8) (k : Nat) : lets a k = lets b k := by
  unfold lets
  rw [← E 1 (by omega), ← E 14 (by omega), ← E (40 + k) (by omega), ← E 0 (by omega), ← E (37 + k) (by omega), ← E 15 (by omega), Em_cnt E _ (a 0) (by omega)]
theorem Em_gon {a b : Nat → Nat} (E : Em a b) {g : Nat} (hg : g < 8) : gon a g = gon b g := by
  unfold gon
  have := Nat.mod_lt (a 15) (show 0 < 6 by omega)
  rw [← E (22 + g) (by omega), ← E 15 (by omega), ← E (16 + a 15 % 6) (by omega)]
theorem Em_wk {a b : Nat → Nat} (E : Em a b) : ∀ n s, wk a n s = wk b n s
  | 0, _ => rfl
  | n + 1, s => by
    unfold wk
    rw [Em_bh E s, Em_wk E n (s + 1)]
theorem Em_nsp {a b : Nat → Nat} (E : Em a b) (h0 : a 0 ≤ 8) {g : Nat} (hg : g < 8) : nsp a g = nsp b g := by
  unfold nsp
  rw [← E (6 + g) (by omega), Em_bh E, Em_gon E hg, Em_wk E, Em_cnt E _ g (by omega), Em_lets E h0]
theorem Em_hr {a b : Nat → Nat} (E : Em a b) (h0 : a 0 ≤ 8) : Em (hr a) (hr b) := fun i hi => by
  unfold hr
  rw [← E 0 (by omega), ← E 15 (by omega), ← E i hi]
  by_cases c : 6 ≤ i ∧ i < 6 + a 0
  · rw [if_pos c, if_pos c, Em_nsp E h0 (by omega)]
  · rw [if_neg c, if_neg c]
theorem Em_it {a b : Nat → Nat} (E : Em a b) (h0 : a 0 ≤ 8) : ∀ n, Em (it n a) (it n b)
  | 0 => E
  | n + 1 => by
    rw [it_succ, it_succ]
    exact Em_hr (Em_it E h0 n) (by rw [it_lo (by omega)]; exact h0)
theorem Em_ag {a : Nat → Nat} {k m m' s : Nat} : Em (ag a k m s) (ag a k m' s) := fun i hi => by
  unfold ag
  by_cases h : a 0 < 7
  · rw [if_pos h, if_pos h]
    unfold upN
    split
    · rfl
    · split
      · rfl
      · split
        · omega
        · rfl
  · rw [if_neg h, if_neg h]
def mt (A : Nat → Nat) (k g m : Nat) : Nat → Int32
  | 0 => 0
  | x + 1 => if it m (ag A k 1 x) (6 + A 0) = it m (ag A k 1 x) (6 + g) then mt A k g m x ||| ((1 : Int32) <<< (nI x &&& 31)) else mt A k g m x
section O18
variable {σ τ : St} {a1 a2 a3 a4 : Int32}
set_option maxHeartbeats 4000000 in
set_option maxRecDepth 100000 in
theorem c_drop {A : Nat → Nat} {k g m : Nat} (hs : StR σ 2 A) (hW : WFA A) (hk : k ≤ 5) (hg : g < A 0) (hm : m ≤ 30) {Q : Int32 → St → Prop} (hq : ∀ σ', (∀ q, q < 56 ∨ 64 < q → σ' q = σ q) → Q (mt A k g m 23) σ') : V_X0_meetings 2 (nI k) (nI g) (nI m) σ Q := by
  unfold V_X0_meetings B_X0_meetings_e
  have h15 := hW.2.2.1
  have h7 := hW.2.1
  have loop : ∀ d x (s : St), x + d = 23 → (∀ q, q < 56 ∨ 64 < q → s q = σ q) → R_X0_meetings 2 (nI k) (nI g) (nI m) Q 6 [mt A k g m x, nI x] [] s := by
    intro d
    induction d with
    | zero =>
      intro x s hx hf
      refine i_X0_meetings_6 _ _ _ _ _ _ _ _ ?_
      unfold B_X0_meetings_6
      refine ⟨fun _ => ?_, fun c => absurd (by rw [show (23 : Int32) = nI 23 from rfl, q_le (by omega) (by omega)]; omega) c⟩
      rw [(by omega : x = 23)]
      exact hq s hf
    | succ d ih =>
      intro x s hx hf
      refine i_X0_meetings_6 _ _ _ _ _ _ _ _ ?_
      unfold B_X0_meetings_6
      refine ⟨fun c => absurd (by rw [show (23 : Int32) = nI 23 from rfl, q_le (by omega) (by omega)] at c; exact c) (by omega), fun _ => ?_⟩
      have hB := Bd_ag (k := k) (m := 1) (s := x) hW.1 h7 hk (by omega) (by omega)
      have e15 : ag A k 1 x 15 = A 15 := ag_o (by omega) (by omega) (by omega) (by omega)
      have e0 : it m (ag A k 1 x) 0 = A 0 + 1 := by rw [it_lo (by omega), ag_0]
      have hB2 := Bd_it hB m (by omega)
      have q1 := (hB2.2.2.2.2.2.1 (A 0) (by omega)).2
      have q2 := (hB2.2.2.2.2.2.1 g (by omega)).2
      refine s_copy (hs.congr (fun q h1 h2 => hf q (by omega))) h7 hW.1.2.1 (by omega) (fun s1 hs1 f1 => s_addGlove (m := 1) hs1 h7 (fun s2 hs2 f2 => s_pass hs2 hB (by omega) (fun s3 hs3 f3 => ?_)))
      have fr : ∀ q, q < 56 ∨ 64 < q → s3 q = σ q := fun q hq => by rw [f3 q (by omega), f2 q (by omega), f1 q (by omega), hf q hq]
      rw [hs3.1, e0, show nI (A 0 + 1) - 1 = nI (A 0) from nI_pred _, nI_clamp (by omega), nI_clamp (by omega), show s3 60 (A 0) = nI (it m (ag A k 1 x) (6 + A 0)) from hs3.2.2.2.2.2.2.2.1 _ (by omega), show s3 60 g = nI (it m (ag A k 1 x) (6 + g)) from hs3.2.2.2.2.2.2.2.1 _ (by omega)]
      refine ⟨vp_in_nI (by omega) (by omega), vp_in_nI (by omega) (by omega), ?_⟩
      have em : mt A k g m (x + 1) = if it m (ag A k 1 x) (6 + A 0) = it m (ag A k 1 x) (6 + g) then mt A k g m x ||| ((1 : Int32) <<< (nI x &&& 31)) else mt A k g m x := rfl
      rw [nI_1]
      by_cases z : it m (ag A k 1 x) (6 + A 0) = it m (ag A k 1 x) (6 + g)
      · rw [if_pos z] at em
        refine fr_f (by rw [z]) (fun v4 e4 => ?_)
        rw [e4, ← em]
        exact ih (x + 1) s3 (by omega) fr
      · rw [if_neg z] at em
        refine fr_t (by rw [q_eq (by omega) (by omega)]; exact z) ?_
        rw [← em]
        exact ih (x + 1) s3 (by omega) fr
  exact loop 23 0 σ (by omega) (fun _ _ => rfl)
end O18

/-! which gloves were seen so: bits told one by one -/
theorem q_and (a b : Nat) : nI a &&& nI b = nI (a &&& b) := Int32.toBitVec_inj.1 (show BitVec.ofNat 32 a &&& BitVec.ofNat 32 b = BitVec.ofNat 32 (a &&& b) from BitVec.eq_of_getLsbD_eq (fun i hi => by simp [hi]))
theorem q_or (a b : Nat) : nI a ||| nI b = nI (a ||| b) := Int32.toBitVec_inj.1 (show BitVec.ofNat 32 a ||| BitVec.ofNat 32 b = BitVec.ofNat 32 (a ||| b) from BitVec.eq_of_getLsbD_eq (fun i hi => by simp [hi]))
theorem q_xr (a b : Nat) : nI a ^^^ nI b = nI (a ^^^ b) := Int32.toBitVec_inj.1 (show BitVec.ofNat 32 a ^^^ BitVec.ofNat 32 b = BitVec.ofNat 32 (a ^^^ b) from BitVec.eq_of_getLsbD_eq (fun i hi => by simp [hi]))
theorem tb_and {a b j : Nat} : (a &&& b).testBit j = true ↔ a.testBit j = true ∧ b.testBit j = true := by rw [Nat.testBit_and, Bool.and_eq_true]
theorem tb_or {a b j : Nat} : (a ||| b).testBit j = true ↔ a.testBit j = true ∨ b.testBit j = true := by rw [Nat.testBit_or, Bool.or_eq_true]
theorem tb_pow {n j : Nat} : (2 ^ n).testBit j = true ↔ n = j := by rw [Nat.testBit_two_pow, decide_eq_true_eq]
theorem tb_all {n j : Nat} : (2 ^ n - 1).testBit j = true ↔ j < n := by rw [Nat.testBit_two_pow_sub_one, decide_eq_true_eq]
theorem tb_clr {g j : Nat} (hj : j < 32) : (2 ^ g ^^^ (2 ^ 32 - 1)).testBit j = true ↔ ¬ g = j := by
  rw [Nat.testBit_xor, Nat.testBit_two_pow, Nat.testBit_two_pow_sub_one]
  by_cases e : g = j <;> simp [e, hj]
theorem tb_eq {a b : Nat} (h : ∀ j, a.testBit j = true ↔ b.testBit j = true) : a = b := Nat.eq_of_testBit_eq (fun j => Bool.eq_iff_iff.mpr (h j))
/-- what was seen of a glove fits -/
def okS (A : Nat → Nat) (i g : Nat) : Prop := it (A (43 + 2 * i)) A (6 + g) = A (43 + 2 * i + 1)
def Mok (A : Nat → Nat) (M : Nat) : Prop := ∀ g, M.testBit g = true ↔ g < A 0 ∧ ∀ i, i < A 2 → okS A i g
section O19
variable {σ τ : St} {a1 a2 a3 a4 : Int32}
set_option maxHeartbeats 4000000 in
set_option maxRecDepth 100000 in
theorem c_those {A : Nat → Nat} {s : Nat} (hs : StR σ 56 A) (hB : Bd A) (hsb : s ≤ 23) {Q : Int32 → St → Prop} (hq : ∀ T, (∀ g, T.testBit g = true ↔ g < A 0 ∧ A (6 + g) = s) → Q (nI T) σ) : V_X0_thoseAt (nI s) σ Q := by
  unfold V_X0_thoseAt B_X0_thoseAt_e
  have h0 := hB.1
  have loop : ∀ d g T, g + d = A 0 → (∀ j, T.testBit j = true ↔ j < g ∧ A (6 + j) = s) → R_X0_thoseAt (nI s) Q 4 [nI T, nI g] [] σ := by
    intro d
    induction d with
    | zero =>
      intro g T hg hT
      refine i_X0_thoseAt_4 _ _ _ _ _ ?_
      unfold B_X0_thoseAt_4
      rw [hs.1]
      refine ⟨fun _ => hq T (fun j => ?_), fun c => absurd (by rw [q_le (by omega) (by omega)]; omega) c⟩
      rw [hT j, (by omega : g = A 0)]
    | succ d ih =>
      intro g T hg hT
      refine i_X0_thoseAt_4 _ _ _ _ _ ?_
      unfold B_X0_thoseAt_4
      have b2 := (hB.2.2.2.2.2.1 g (by omega)).2
      rw [hs.1, nI_clamp (by omega), show σ 60 g = nI (A (6 + g)) from hs.2.2.2.2.2.2.2.1 g (by omega), q_shl (by omega), q_or, nI_1]
      refine ⟨fun c => absurd (by rw [q_le (by omega) (by omega)] at c; exact c) (by omega), fun _ => ⟨vp_in_nI (by omega) (by omega), ?_⟩⟩
      by_cases z : A (6 + g) = s
      · refine fr_f (by rw [z]) (fun v1 e1 => ?_)
        subst e1
        refine ih (g + 1) _ (by omega) (fun j => ?_)
        rw [tb_or, tb_pow, hT j]
        constructor
        · rintro (h | h)
          · exact ⟨by omega, h.2⟩
          · subst h; exact ⟨by omega, z⟩
        · rintro ⟨h1, h2⟩
          by_cases y : g = j
          · exact Or.inr y
          · exact Or.inl ⟨by omega, h2⟩
      · refine fr_t (by rw [q_eq (by omega) (by omega)]; exact z) (ih (g + 1) T (by omega) (fun j => ?_))
        rw [hT j]
        constructor
        · rintro ⟨h1, h2⟩; exact ⟨by omega, h2⟩
        · rintro ⟨h1, h2⟩
          by_cases y : g = j
          · subst y; exact absurd h2 z
          · exact ⟨by omega, h2⟩
  exact loop (A 0) 0 0 (by omega) (fun j => by rw [Nat.zero_testBit]; exact ⟨fun c => absurd c (by decide), fun c => absurd c.1 (by omega)⟩)
set_option maxHeartbeats 4000000 in
set_option maxRecDepth 100000 in
theorem c_seen {A : Nat → Nat} (hst : StR σ 2 A) (hse : SeR σ 13 A) (hW : WFA A) {Q : Int32 → St → Prop} (hq : ∀ M σ', Mok A M → (∀ q, q < 56 ∨ 64 < q → σ' q = σ q) → Q (nI M) σ') : V_X0_seenThere 2 13 σ Q := by
  unfold V_X0_seenThere B_X0_seenThere_e
  have h15 := hW.2.2.1
  have h7 := hW.2.1
  have h2 := hW.2.2.2.1
  have wse := hW.2.2.2.2.2.2.2.1
  intro v1 e1
  have p7 : 0 < 2 ^ A 0 := Nat.pow_pos (by omega)
  rw [hst.1, q_shl (by omega), show (1 : Int32) = nI 1 from rfl, pk_sub (by omega)] at e1
  subst e1
  refine s_copy hst h7 hW.1.2.1 (by omega) (fun s1 hs1 f1 => ?_)
  have loop : ∀ d h M (s : St), h + d = 61 → (∀ g, M.testBit g = true ↔ g < A 0 ∧ ∀ j, j < A 2 → A (43 + 2 * j) < h → okS A j g) → StR s 56 (it h A) → (∀ q, q < 56 ∨ 64 < q → s q = σ q) → R_X0_seenThere 2 13 Q 20 [nI M, nI h] [] s := by
    intro d
    induction d with
    | zero =>
      intro h M s hh hM hs hf
      refine i_X0_seenThere_20 _ _ _ _ _ _ ?_
      unfold B_X0_seenThere_20
      refine ⟨fun _ => hq M s (fun g => ?_) hf, fun c => absurd (by rw [show (60 : Int32) = nI 60 from rfl, q_lt (by omega) (by omega)]; omega) c⟩
      rw [hM g]
      constructor
      · rintro ⟨h1, h2⟩; exact ⟨h1, fun i hi => h2 i hi (by have := (wse i hi).1; omega)⟩
      · rintro ⟨h1, h2⟩; exact ⟨h1, fun i hi _ => h2 i hi⟩
    | succ d ih =>
      intro h M s hh hM hs hf
      refine i_X0_seenThere_20 _ _ _ _ _ _ ?_
      unfold B_X0_seenThere_20
      refine ⟨fun c => absurd (by rw [show (60 : Int32) = nI 60 from rfl, q_lt (by omega) (by omega)] at c; exact c) (by omega), fun _ => ?_⟩
      have hB := Bd_it hW.1 h (by omega)
      have e0 : it h A 0 = A 0 := it_lo (by omega) h
      have inner : ∀ d2 i M, i + d2 = A 2 → (∀ g, M.testBit g = true ↔ g < A 0 ∧ ∀ j, j < A 2 → (A (43 + 2 * j) < h ∨ (A (43 + 2 * j) = h ∧ j < i)) → okS A j g) → R_X0_seenThere 2 13 Q 30 [nI M, nI h, nI i] [] s := by
        intro d2
        induction d2 with
        | zero =>
          intro i M hi hM
          refine i_X0_seenThere_30 _ _ _ _ _ _ _ ?_
          unfold B_X0_seenThere_30
          rw [hf 13 (by omega), hse.1]
          refine ⟨fun _ => s_passHour hs hB (fun s2 hs2 f2 => ?_), fun c => absurd (by rw [q_le (by omega) (by omega)]; omega) c⟩
          rw [nI_1]
          rw [← it_succ] at hs2
          refine ih (h + 1) M s2 (by omega) (fun g => ?_) hs2 (fun q hq => by rw [f2 q (by omega)]; exact hf q hq)
          rw [hM g]
          constructor
          · rintro ⟨h1, h2⟩; exact ⟨h1, fun j hj c => h2 j hj (by omega)⟩
          · rintro ⟨h1, h2⟩; exact ⟨h1, fun j hj c => h2 j hj (by omega)⟩
        | succ d2 ih2 =>
          intro i M hi hM
          refine i_X0_seenThere_30 _ _ _ _ _ _ _ ?_
          unfold B_X0_seenThere_30 V_X6_cell B_X6_cell_e
          obtain ⟨y1, y2⟩ := hse.2 i (by omega)
          obtain ⟨w1, w2⟩ := wse i (by omega)
          have em : nI i * 4 = nI (4 * i) := by rw [show (4 : Int32) = nI 4 from rfl, show nI i * nI 4 = nI (i * 4) from pk_mul i 4]; exact congrArg nI (by omega)
          rw [hf 13 (by omega), hse.1, em, show (0 : Int32) = nI 0 from rfl, nI_add (4 * i) 0, nI_clamp (n := 4 * i + 0) (by omega), show (13 + 1 : Nat) = 14 from rfl, hf 14 (by omega), show σ 14 (4 * i + 0) = nI (A (43 + 2 * i)) from y1]
          refine ⟨fun c => absurd (by rw [q_le (by omega) (by omega)] at c; exact c) (by omega), fun _ => ⟨vp_in_nI (by omega) (by omega), ?_⟩⟩
          try dsimp only
          rw [show (1 : Int32) = nI 1 from rfl, nI_add (4 * i) 1, nI_clamp (n := 4 * i + 1) (by omega), hf 14 (by omega), show σ 14 (4 * i + 1) = nI (A (43 + 2 * i + 1)) from y2]
          by_cases z : A (43 + 2 * i) = h
          · refine fr_f (by rw [z]) ⟨vp_in_nI (by omega) (by omega), c_those hs hB w2 (fun T hT => ?_)⟩
            rw [q_and, nI_add]
            refine ih2 (i + 1) _ (by omega) (fun g => ?_)
            rw [tb_and, hM g, hT g, e0]
            have ok : okS A i g ↔ it h A (6 + g) = A (43 + 2 * i + 1) := by unfold okS; rw [z]
            constructor
            · rintro ⟨⟨h1, h2⟩, h3, h4⟩
              refine ⟨h1, fun j hj c => ?_⟩
              by_cases y : j = i
              · subst y; exact ok.mpr h4
              · exact h2 j hj (by omega)
            · rintro ⟨h1, h2⟩
              exact ⟨⟨h1, fun j hj c => h2 j hj (by omega)⟩, h1, ok.mp (h2 i (by omega) (by omega))⟩
          · refine fr_t (by rw [q_eq (by omega) (by omega)]; exact z) ?_
            rw [nI_add]
            refine ih2 (i + 1) _ (by omega) (fun g => ?_)
            rw [hM g]
            constructor
            · rintro ⟨h1, h2⟩
              refine ⟨h1, fun j hj c => h2 j hj ?_⟩
              by_cases y : j = i
              · subst y; omega
              · omega
            · rintro ⟨h1, h2⟩
              exact ⟨h1, fun j hj c => h2 j hj (by omega)⟩
      refine inner (A 2) 0 M (by omega) (fun g => ?_)
      rw [hM g]
      constructor
      · rintro ⟨h1, h2⟩; exact ⟨h1, fun j hj c => h2 j hj (by omega)⟩
      · rintro ⟨h1, h2⟩; exact ⟨h1, fun j hj c => h2 j hj (by omega)⟩
  exact loop 61 0 _ s1 (by omega) (fun g => by rw [tb_all]; exact ⟨fun h => ⟨h, fun j hj c => absurd c (by omega)⟩, fun h => h.1⟩) hs1 (fun q hq => f1 q (by omega))
theorem Mok_eq {A : Nat → Nat} {M N : Nat} (h1 : Mok A M) (h2 : Mok A N) : M = N := tb_eq (fun j => (h1 j).trans (h2 j).symm)
end O19

