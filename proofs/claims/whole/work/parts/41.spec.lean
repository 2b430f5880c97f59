/-! the street as a row of numbers: gloves 0, crossings 1, seens 2, notes 3, marks 4, undone 5, spikes 6.., shut 14, hour 15, wets 16.., kinds 22.., marks 30.., gates 37.., behind 40.. -/
/-- 1 more than the crossing behind a spike; 0: none -/
def bh (a : Nat → Nat) (s : Nat) : Nat := if 0 < a 1 ∧ a 40 = s then 1 else if 1 < a 1 ∧ a 41 = s then 2 else if 2 < a 1 ∧ a 42 = s then 3 else 0
/-- how many of the first gloves are at a spike -/
def cnt (a : Nat → Nat) (s : Nat) : Nat → Nat
  | 0 => 0
  | n + 1 => cnt a s n + (if a (6 + n) = s then 1 else 0)
/-- how many a crossing lets over in the hour -/
def lets (a : Nat → Nat) (k : Nat) : Nat := if a 1 ≤ k then 0 else if a 14 / 2 ^ k % 2 = 1 then 0 else if cnt a (a (40 + k)) (a 0) = 0 then 0 else lA (a (37 + k)) (a 15) (cnt a (a (40 + k)) (a 0))
def gon (a : Nat → Nat) (g : Nat) : Nat := gA (a (22 + g)) (a 15) (a (16 + a 15 % 6))
def wk (a : Nat → Nat) : Nat → Nat → Nat
  | 0, s => s
  | n + 1, s => if s < 23 ∧ bh a s = 0 then wk a n (s + 1) else s
/-- where a glove is behind the hour -/
def nsp (a : Nat → Nat) (g : Nat) : Nat := if bh a (a (6 + g)) = 0 then wk a (gon a g) (a (6 + g)) else a (6 + g) + (if cnt a (a (6 + g)) g < lets a (bh a (a (6 + g)) - 1) then 1 else 0)
/-- an hour goes by -/
def hr (a : Nat → Nat) : Nat → Nat := fun i => if 6 ≤ i ∧ i < 6 + a 0 then nsp a (i - 6) else if i = 15 then a 15 + 1 else a i
def it : Nat → (Nat → Nat) → Nat → Nat
  | 0, a => a
  | n + 1, a => it n (hr a)

def Bd (a : Nat → Nat) : Prop := a 0 ≤ 8 ∧ a 1 ≤ 3 ∧ a 14 < 8 ∧ a 15 < 1000000 ∧ (∀ i, i < 6 → a (16 + i) ≤ 4) ∧ (∀ g, g < a 0 → a (22 + g) ≤ 5 ∧ a (6 + g) ≤ 23) ∧ (∀ k, k < a 1 → a (37 + k) ≤ 5 ∧ a (40 + k) ≤ 22) ∧ (∀ j k, j < a 1 → k < a 1 → a (40 + j) = a (40 + k) → j = k) ∧ (∀ i, a i < 2147483648)
theorem bh_le {a : Nat → Nat} {s : Nat} (h : Bd a) : bh a s ≤ a 1 := by
  unfold bh
  repeat' split
  all_goals omega
theorem bh_at {a : Nat → Nat} {s : Nat} (h : bh a s ≠ 0) : a (40 + (bh a s - 1)) = s := by
  unfold bh at *
  repeat' split
  all_goals simp_all
theorem bh_of {a : Nat → Nat} {k : Nat} (hB : Bd a) (hk : k < a 1) : bh a (a (40 + k)) = k + 1 := by
  obtain ⟨-, h1, -, -, -, -, -, hd, -⟩ := hB
  have h40 : 0 < a 1 → k < a 1 → a 40 = a (40 + k) → 0 = k := hd 0 k
  have h41 : 1 < a 1 → k < a 1 → a 41 = a (40 + k) → 1 = k := hd 1 k
  have h42 : 2 < a 1 → k < a 1 → a 42 = a (40 + k) → 2 = k := hd 2 k
  unfold bh
  split
  · have := h40 (by omega) hk (by omega)
    omega
  · split
    · have := h41 (by omega) hk (by omega)
      omega
    · split
      · have := h42 (by omega) hk (by omega)
        omega
      · rcases (by omega : k = 0 ∨ k = 1 ∨ k = 2) with rfl | rfl | rfl <;> simp_all
theorem bh_none {a : Nat → Nat} {s : Nat} (h1 : a 1 ≤ 3) (h : ∀ k, k < a 1 → a (40 + k) ≠ s) : bh a s = 0 := by
  unfold bh
  have h0 := h 0
  have h1' := h 1
  have h2 := h 2
  split
  · simp_all
  · split
    · simp_all
    · split
      · simp_all
      · rfl
theorem bh_23 {a : Nat → Nat} (h : Bd a) : bh a 23 = 0 := bh_none h.2.1 (fun k hk e => by
  have := (h.2.2.2.2.2.2.1 k hk).2
  omega)
theorem cnt_le {a : Nat → Nat} {s : Nat} : ∀ n, cnt a s n ≤ n
  | 0 => Nat.le_refl _
  | n + 1 => by
    have := cnt_le (a := a) (s := s) n
    unfold cnt
    split <;> omega
theorem cnt_mono {a : Nat → Nat} {s : Nat} : ∀ (n m : Nat), n ≤ m → cnt a s n ≤ cnt a s m := by
  intro n m h
  induction m with
  | zero => have : n = 0 := by omega
            subst this; exact Nat.le_refl _
  | succ m ih =>
    by_cases e : n = m + 1
    · subst e; exact Nat.le_refl _
    · have := ih (by omega)
      have e2 : cnt a s (m + 1) = cnt a s m + (if a (6 + m) = s then 1 else 0) := rfl
      omega
theorem lets_le {a : Nat → Nat} {k : Nat} (h : Bd a) : lets a k ≤ 8 := by
  unfold lets
  have := cnt_le (a := a) (s := a (40 + k)) (a 0)
  have h0 := h.1
  split
  · omega
  · split
    · omega
    · split
      · omega
      · exact lA_le (by omega)
theorem gon_le {a : Nat → Nat} {g : Nat} : gon a g ≤ 4 := gA_le
theorem wk_le {a : Nat → Nat} : ∀ (n s : Nat), s ≤ 23 → wk a n s ≤ 23
  | 0, s, h => h
  | n + 1, s, h => by
    unfold wk
    split
    · exact wk_le n (s + 1) (by omega)
    · exact h
theorem nsp_le {a : Nat → Nat} {g : Nat} (h : Bd a) (hg : g < a 0) : nsp a g ≤ 23 := by
  have h1 := (h.2.2.2.2.2.1 g hg).2
  unfold nsp
  split
  · exact wk_le _ _ h1
  · rename_i hb
    have e := bh_at hb
    have := bh_le (s := a (6 + g)) h
    have := (h.2.2.2.2.2.2.1 (bh a (a (6 + g)) - 1) (by omega)).2
    split <;> omega
theorem hr_sp {a : Nat → Nat} {g : Nat} (hg : g < a 0) : hr a (6 + g) = nsp a g := by
  unfold hr
  rw [if_pos (by omega)]
  congr 1
  omega
theorem hr_15 {a : Nat → Nat} (h : a 0 ≤ 8) : hr a 15 = a 15 + 1 := by
  unfold hr
  rw [if_neg (by omega), if_pos rfl]
theorem hr_o {a : Nat → Nat} {i : Nat} (h1 : ¬ (6 ≤ i ∧ i < 6 + a 0)) (h2 : i ≠ 15) : hr a i = a i := by
  unfold hr
  rw [if_neg h1, if_neg h2]
theorem hr_lo {a : Nat → Nat} {i : Nat} (h : i < 6) : hr a i = a i := hr_o (by omega) (by omega)
theorem hr_hi {a : Nat → Nat} {i : Nat} (h0 : a 0 ≤ 8) (h : 16 ≤ i) : hr a i = a i := hr_o (by omega) (by omega)
theorem hr_14 {a : Nat → Nat} (h0 : a 0 ≤ 8) : hr a 14 = a 14 := hr_o (by omega) (by omega)
theorem bh_hr {a : Nat → Nat} (h0 : a 0 ≤ 8) (s : Nat) : bh (hr a) s = bh a s := by
  unfold bh
  rw [hr_lo (i := 1) (by omega), hr_hi (i := 40) h0 (by omega), hr_hi (i := 41) h0 (by omega), hr_hi (i := 42) h0 (by omega)]
theorem Bd_hr {a : Nat → Nat} (h : Bd a) (hh : a 15 + 1 < 1000000) : Bd (hr a) := by
  have h' := h
  obtain ⟨h0, h1, h2, h3, h4, h5, h6, h7, h8⟩ := h
  have e0 : hr a 0 = a 0 := hr_lo (by omega)
  have e1 : hr a 1 = a 1 := hr_lo (by omega)
  refine ⟨by omega, by omega, by rw [hr_14 h0]; exact h2, by rw [hr_15 h0]; exact hh, fun i hi => by rw [hr_hi h0 (by omega)]; exact h4 i hi, fun g hg => ?_, fun k hk => ?_, fun j k hj hk => ?_, fun i => ?_⟩
  · rw [e0] at hg
    rw [hr_hi h0 (by omega), hr_sp hg]
    exact ⟨(h5 g hg).1, nsp_le h' hg⟩
  · rw [e1] at hk
    rw [hr_hi h0 (by omega), hr_hi h0 (by omega)]
    exact h6 k hk
  · rw [e1] at hj hk
    rw [hr_hi h0 (by omega), hr_hi h0 (by omega)]
    exact h7 j k hj hk
  · by_cases c : 6 ≤ i ∧ i < 6 + a 0
    · rw [(by omega : i = 6 + (i - 6)), hr_sp (by omega)]
      have := nsp_le h' (g := i - 6) (by omega)
      omega
    · by_cases c2 : i = 15
      · subst c2; rw [hr_15 h0]; omega
      · rw [hr_o c c2]; exact h8 i
theorem it_succ {a : Nat → Nat} : ∀ n, it (n + 1) a = hr (it n a)
  | 0 => rfl
  | n + 1 => by
    show it (n + 1) (hr a) = hr (it n (hr a))
    exact it_succ n
theorem it_add {a : Nat → Nat} : ∀ n m, it (n + m) a = it m (it n a)
  | 0, m => by rw [Nat.zero_add]; rfl
  | n + 1, m => by
    rw [(by omega : n + 1 + m = (n + m) + 1)]
    show it (n + m) (hr a) = it m (it n (hr a))
    exact it_add n m
theorem it_lo {a : Nat → Nat} {i : Nat} (h : i < 6) : ∀ n, it n a i = a i
  | 0 => rfl
  | n + 1 => by rw [it_succ, hr_lo h]; exact it_lo h n
theorem it_hi {a : Nat → Nat} {i : Nat} (h0 : a 0 ≤ 8) (h : 16 ≤ i) : ∀ n, it n a i = a i
  | 0 => rfl
  | n + 1 => by
    rw [it_succ, hr_hi (by rw [it_lo (by omega)]; exact h0) h]
    exact it_hi h0 h n
theorem it_14 {a : Nat → Nat} (h0 : a 0 ≤ 8) : ∀ n, it n a 14 = a 14
  | 0 => rfl
  | n + 1 => by
    rw [it_succ, hr_14 (by rw [it_lo (by omega)]; exact h0)]
    exact it_14 h0 n
theorem it_15 {a : Nat → Nat} (h0 : a 0 ≤ 8) : ∀ n, it n a 15 = a 15 + n
  | 0 => rfl
  | n + 1 => by
    rw [it_succ, hr_15 (by rw [it_lo (by omega)]; exact h0), it_15 h0 n]
    omega
theorem Bd_it {a : Nat → Nat} (h : Bd a) : ∀ n, a 15 + n < 1000000 → Bd (it n a)
  | 0, _ => h
  | n + 1, q => by
    rw [it_succ]
    exact Bd_hr (Bd_it h n (by omega)) (by rw [it_15 h.1]; omega)
