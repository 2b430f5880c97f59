/-! how a street moves: what is alike but for what may be undone, and that none goes back -/
def E4 (a b : Nat → Nat) : Prop := ∀ i, i < 43 → i ≠ 5 → a i = b i
theorem E4.rf {a : Nat → Nat} : E4 a a := fun _ _ _ => rfl
theorem E4.sy {a b : Nat → Nat} (E : E4 a b) : E4 b a := fun i h1 h2 => (E i h1 h2).symm
theorem E4.tr {a b c : Nat → Nat} (E : E4 a b) (F : E4 b c) : E4 a c := fun i h1 h2 => (E i h1 h2).trans (F i h1 h2)
theorem E4_bh {a b : Nat → Nat} (E : E4 a b) (s : Nat) : bh a s = bh b s := by
  unfold bh
  rw [E 1 (by omega) (by omega), E 40 (by omega) (by omega), E 41 (by omega) (by omega), E 42 (by omega) (by omega)]
theorem E4_cnt {a b : Nat → Nat} (E : E4 a b) (s : Nat) : ∀ n, n ≤ 24 → cnt a s n = cnt b s n
  | 0, _ => rfl
  | n + 1, h => by
    unfold cnt
    rw [E4_cnt E s n (by omega), E (6 + n) (by omega) (by omega)]
theorem E4_lets {a b : Nat → Nat} (E : E4 a b) (h0 : a 0 ≤ 8) {k : Nat} (hk : k < 3) : lets a k = lets b k := by
  unfold lets
  rw [← E 1 (by omega) (by omega), ← E 14 (by omega) (by omega), ← E (40 + k) (by omega) (by omega), ← E 0 (by omega) (by omega), ← E (37 + k) (by omega) (by omega), ← E 15 (by omega) (by omega), E4_cnt E _ (a 0) (by omega)]
theorem E4_gon {a b : Nat → Nat} (E : E4 a b) {g : Nat} (hg : g < 8) : gon a g = gon b g := by
  unfold gon
  have := Nat.mod_lt (a 15) (show 0 < 6 by omega)
  rw [← E (22 + g) (by omega) (by omega), ← E 15 (by omega) (by omega), ← E (16 + a 15 % 6) (by omega) (by omega)]
theorem E4_wk {a b : Nat → Nat} (E : E4 a b) : ∀ n s, wk a n s = wk b n s
  | 0, _ => rfl
  | n + 1, s => by
    unfold wk
    rw [E4_bh E s, E4_wk E n (s + 1)]
theorem E4_nsp {a b : Nat → Nat} (E : E4 a b) (h0 : a 0 ≤ 8) {g : Nat} (hg : g < 8) : nsp a g = nsp b g := by
  unfold nsp
  have hb := bh_sm (a := a) (s := a (6 + g))
  rw [← E (6 + g) (by omega) (by omega), ← E4_bh E, E4_gon E hg, E4_wk E, E4_cnt E _ g (by omega), E4_lets E h0 (by omega)]
theorem E4_hr {a b : Nat → Nat} (E : E4 a b) (h0 : a 0 ≤ 8) : E4 (hr a) (hr b) := fun i hi h5 => by
  unfold hr
  rw [← E 0 (by omega) (by omega), ← E 15 (by omega) (by omega), ← E i hi h5]
  by_cases c : 6 ≤ i ∧ i < 6 + a 0
  · rw [if_pos c, if_pos c, E4_nsp E h0 (by omega)]
  · rw [if_neg c, if_neg c]
theorem E4_it {a b : Nat → Nat} (E : E4 a b) (h0 : a 0 ≤ 8) : ∀ n, E4 (it n a) (it n b)
  | 0 => E
  | n + 1 => by
    rw [it_succ, it_succ]
    exact E4_hr (E4_it E h0 n) (by rw [it_lo (by omega)]; exact h0)
theorem E4_wg {a b : Nat → Nat} (E : E4 a b) : ∀ n, n ≤ 24 → wg a n = wg b n
  | 0, _ => rfl
  | n + 1, h => by
    unfold wg
    rw [E4_wg E n (by omega), E (6 + n) (by omega) (by omega), E4_bh E]
theorem E4_sv {A : Nat → Nat} : E4 (sv A) A := fun i h h5 => sv_lo (by omega) h5
theorem E4_5 {A : Nat → Nat} {v : Nat} : E4 (upN A 5 v) A := fun i h h5 => upN_n h5
/-! walking -/
theorem wk_ge {a : Nat → Nat} : ∀ n s, s ≤ wk a n s
  | 0, s => Nat.le_refl _
  | n + 1, s => by
    unfold wk
    split
    · exact Nat.le_trans (Nat.le_succ s) (wk_ge n (s + 1))
    · exact Nat.le_refl _
theorem wk_up {a : Nat → Nat} : ∀ n s, wk a n s ≤ s + n
  | 0, s => Nat.le_refl _
  | n + 1, s => by
    unfold wk
    split
    · have := wk_up (a := a) n (s + 1); omega
    · omega
theorem wk_stop {a : Nat → Nat} : ∀ n s, wk a n s < s + n → wk a n s ≥ 23 ∨ bh a (wk a n s) ≠ 0
  | 0, s => fun h => absurd h (by unfold wk; omega)
  | n + 1, s => fun h => by
    unfold wk at h ⊢
    by_cases c : s < 23 ∧ bh a s = 0
    · rw [if_pos c] at h ⊢
      exact wk_stop n (s + 1) (by omega)
    · rw [if_neg c]
      by_cases d : s < 23
      · exact Or.inr (fun e => c ⟨d, e⟩)
      · exact Or.inl (by omega)
theorem wk_free {a : Nat → Nat} : ∀ n s t, s ≤ t → t < wk a n s → bh a t = 0
  | 0, s, t => fun h1 h2 => absurd h2 (by unfold wk; omega)
  | n + 1, s, t => fun h1 h2 => by
    unfold wk at h2
    by_cases c : s < 23 ∧ bh a s = 0
    · rw [if_pos c] at h2
      by_cases e : t = s
      · rw [e]; exact c.2
      · exact wk_free n (s + 1) t (by omega) h2
    · rw [if_neg c] at h2
      omega
theorem wk_23 {a : Nat → Nat} : ∀ n, wk a n 23 = 23
  | 0 => rfl
  | n + 1 => by
    unfold wk
    rw [if_neg (by omega)]
theorem nsp_ge {a : Nat → Nat} {g : Nat} : a (6 + g) ≤ nsp a g := by
  unfold nsp
  split
  · exact wk_ge _ _
  · omega
theorem nsp_23 {a : Nat → Nat} {g : Nat} (hB : Bd a) (h : a (6 + g) = 23) : nsp a g = 23 := by
  unfold nsp
  rw [h, if_pos (bh_23 hB)]
  exact wk_23 _
theorem hr_ge {a : Nat → Nat} {g : Nat} (hg : g < a 0) : a (6 + g) ≤ hr a (6 + g) := by
  rw [hr_sp hg]
  exact nsp_ge
theorem it_ge {a : Nat → Nat} {g : Nat} (hg : g < a 0) : ∀ n m, n ≤ m → it n a (6 + g) ≤ it m a (6 + g) := by
  intro n m h
  induction m with
  | zero => have : n = 0 := by omega
            subst this; exact Nat.le_refl _
  | succ m ih =>
    by_cases e : n = m + 1
    · subst e; exact Nat.le_refl _
    · refine Nat.le_trans (ih (by omega)) ?_
      rw [it_succ]
      exact hr_ge (by rw [it_lo (by omega)]; exact hg)
theorem it_b {a : Nat → Nat} {g m : Nat} (hB : Bd a) (hg : g < a 0) (hm : a 15 + m < 1000000) : it m a (6 + g) ≤ 23 :=
  ((Bd_it hB m hm).2.2.2.2.2.1 g (by rw [it_lo (by omega)]; exact hg)).2
theorem it_23 {a : Nat → Nat} {g n m : Nat} (hB : Bd a) (hg : g < a 0) (hm : a 15 + m < 1000000) (hn : n ≤ m) (h : it n a (6 + g) = 23) : it m a (6 + g) = 23 := by
  have h1 := it_ge hg n m hn
  have h2 := it_b hB hg hm
  omega
theorem cnt_mo {a b : Nat → Nat} : ∀ n, (∀ g, g < n → a (6 + g) = 23 → b (6 + g) = 23) → cnt a 23 n ≤ cnt b 23 n
  | 0, _ => Nat.le_refl _
  | n + 1, h => by
    have ih := cnt_mo (a := a) (b := b) n (fun g hg => h g (by omega))
    have e1 : cnt a 23 (n + 1) = cnt a 23 n + (if a (6 + n) = 23 then 1 else 0) := rfl
    have e2 : cnt b 23 (n + 1) = cnt b 23 n + (if b (6 + n) = 23 then 1 else 0) := rfl
    rw [e1, e2]
    by_cases c : a (6 + n) = 23
    · rw [if_pos c, if_pos (h n (by omega) c)]; omega
    · rw [if_neg c]; split <;> omega
theorem cnt_all {a : Nat → Nat} {s : Nat} : ∀ n, cnt a s n = n ↔ ∀ g, g < n → a (6 + g) = s
  | 0 => ⟨fun _ g hg => absurd hg (by omega), fun _ => rfl⟩
  | n + 1 => by
    have ih := cnt_all (a := a) (s := s) n
    have hl := cnt_le (a := a) (s := s) n
    have e1 : cnt a s (n + 1) = cnt a s n + (if a (6 + n) = s then 1 else 0) := rfl
    rw [e1]
    constructor
    · intro h g hg
      by_cases c : a (6 + n) = s
      · rw [if_pos c] at h
        by_cases e : g = n
        · rw [e]; exact c
        · exact ih.mp (by omega) g (by omega)
      · rw [if_neg c] at h; omega
    · intro h
      rw [if_pos (h n (by omega)), ih.mpr (fun g hg => h g (by omega))]
/-! the first hour at which something is so -/
theorem wn_sp {p : Nat → Bool} : ∀ d x, (wn p d x = -1 ∧ ∀ y, x ≤ y → y < x + d → ¬ p y = true) ∨ ∃ m, x ≤ m ∧ m < x + d ∧ wn p d x = nI m ∧ p m = true ∧ ∀ y, x ≤ y → y < m → ¬ p y = true
  | 0, x => Or.inl ⟨rfl, fun y h1 h2 => absurd h2 (by omega)⟩
  | d + 1, x => by
    by_cases c : p x = true
    · exact Or.inr ⟨x, Nat.le_refl _, by omega, wn_t c, c, fun y h1 h2 => absurd h2 (by omega)⟩
    · rw [wn_f c]
      rcases wn_sp (p := p) d (x + 1) with ⟨e, h⟩ | ⟨m, h1, h2, e, h3, h4⟩
      · exact Or.inl ⟨e, fun y h1 h2 => by
          by_cases z : y = x
          · rw [z]; exact c
          · exact h y (by omega) (by omega)⟩
      · exact Or.inr ⟨m, by omega, by omega, e, h3, fun y h5 h6 => by
          by_cases z : y = x
          · rw [z]; exact c
          · exact h4 y (by omega) h6⟩
