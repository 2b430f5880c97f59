/-! alike but for what may be undone and what was seen -/
def E3 (a b : Nat → Nat) : Prop := ∀ i, i < 43 → i ≠ 5 → i ≠ 2 → a i = b i
theorem E3.rf {a : Nat → Nat} : E3 a a := fun _ _ _ _ => rfl
theorem E3.sy {a b : Nat → Nat} (E : E3 a b) : E3 b a := fun i h1 h2 h3 => (E i h1 h2 h3).symm
theorem E3.tr {a b c : Nat → Nat} (E : E3 a b) (F : E3 b c) : E3 a c := fun i h1 h2 h3 => (E i h1 h2 h3).trans (F i h1 h2 h3)
theorem E3_bh {a b : Nat → Nat} (E : E3 a b) (s : Nat) : bh a s = bh b s := by
  unfold bh
  rw [E 1 (by omega) (by omega) (by omega), E 40 (by omega) (by omega) (by omega), E 41 (by omega) (by omega) (by omega), E 42 (by omega) (by omega) (by omega)]
theorem E3_cnt {a b : Nat → Nat} (E : E3 a b) (s : Nat) : ∀ n, n ≤ 24 → cnt a s n = cnt b s n
  | 0, _ => rfl
  | n + 1, h => by
    unfold cnt
    rw [E3_cnt E s n (by omega), E (6 + n) (by omega) (by omega) (by omega)]
theorem E3_lets {a b : Nat → Nat} (E : E3 a b) (h0 : a 0 ≤ 8) {k : Nat} (hk : k < 3) : lets a k = lets b k := by
  unfold lets
  rw [← E 1 (by omega) (by omega) (by omega), ← E 14 (by omega) (by omega) (by omega), ← E (40 + k) (by omega) (by omega) (by omega), ← E 0 (by omega) (by omega) (by omega), ← E (37 + k) (by omega) (by omega) (by omega), ← E 15 (by omega) (by omega) (by omega), E3_cnt E _ (a 0) (by omega)]
theorem E3_gon {a b : Nat → Nat} (E : E3 a b) {g : Nat} (hg : g < 8) : gon a g = gon b g := by
  unfold gon
  have := Nat.mod_lt (a 15) (show 0 < 6 by omega)
  rw [← E (22 + g) (by omega) (by omega) (by omega), ← E 15 (by omega) (by omega) (by omega), ← E (16 + a 15 % 6) (by omega) (by omega) (by omega)]
theorem E3_wk {a b : Nat → Nat} (E : E3 a b) : ∀ n s, wk a n s = wk b n s
  | 0, _ => rfl
  | n + 1, s => by
    unfold wk
    rw [E3_bh E s, E3_wk E n (s + 1)]
theorem E3_nsp {a b : Nat → Nat} (E : E3 a b) (h0 : a 0 ≤ 8) {g : Nat} (hg : g < 8) : nsp a g = nsp b g := by
  unfold nsp
  have hb := bh_sm (a := a) (s := a (6 + g))
  rw [← E (6 + g) (by omega) (by omega) (by omega), ← E3_bh E, E3_gon E hg, E3_wk E, E3_cnt E _ g (by omega), E3_lets E h0 (by omega)]
theorem E3_hr {a b : Nat → Nat} (E : E3 a b) (h0 : a 0 ≤ 8) : E3 (hr a) (hr b) := fun i hi h5 h2 => by
  unfold hr
  rw [← E 0 (by omega) (by omega) (by omega), ← E 15 (by omega) (by omega) (by omega), ← E i hi h5 h2]
  by_cases c : 6 ≤ i ∧ i < 6 + a 0
  · rw [if_pos c, if_pos c, E3_nsp E h0 (by omega)]
  · rw [if_neg c, if_neg c]
theorem E3_it {a b : Nat → Nat} (E : E3 a b) (h0 : a 0 ≤ 8) : ∀ n, E3 (it n a) (it n b)
  | 0 => E
  | n + 1 => by
    rw [it_succ, it_succ]
    exact E3_hr (E3_it E h0 n) (by rw [it_lo (by omega)]; exact h0)
