/-! how many alike at most, told in two ways -/
def mu (p : Nat → Bool) (f : Nat → Nat) (v : Nat) : Nat → Nat
  | 0 => 0
  | n + 1 => mu p f v n + (if p n = true ∧ f n = v then 1 else 0)
/-- as each one comes -/
def mx1 (p : Nat → Bool) (f : Nat → Nat) : Nat → Nat
  | 0 => 0
  | n + 1 => if p n = true then max (mx1 p f n) (mu p f (f n) n + 1) else mx1 p f n
/-- one after another, over all N -/
def mx2 (p : Nat → Bool) (f : Nat → Nat) (N : Nat) : Nat → Nat
  | 0 => 0
  | g + 1 => if p g = true then max (mx2 p f N g) (mu p f (f g) N) else mx2 p f N g
theorem mu_le {p : Nat → Bool} {f : Nat → Nat} {v : Nat} : ∀ n, mu p f v n ≤ n
  | 0 => Nat.le_refl _
  | n + 1 => by
    have := mu_le (p := p) (f := f) (v := v) n
    unfold mu
    split <;> omega
theorem mx1_le {p : Nat → Bool} {f : Nat → Nat} : ∀ n, mx1 p f n ≤ n
  | 0 => Nat.le_refl _
  | n + 1 => by
    have := mx1_le (p := p) (f := f) n
    have := mu_le (p := p) (f := f) (v := f n) n
    unfold mx1
    split <;> omega
theorem mu_mx1 {p : Nat → Bool} {f : Nat → Nat} (v : Nat) : ∀ n, mu p f v n ≤ mx1 p f n
  | 0 => Nat.le_refl _
  | n + 1 => by
    have h := mu_mx1 (p := p) (f := f) v n
    unfold mu mx1
    by_cases c : p n = true
    · rw [if_pos c]
      by_cases e : f n = v
      · rw [if_pos ⟨c, e⟩, e]; omega
      · rw [if_neg (fun q => e q.2)]; omega
    · rw [if_neg c, if_neg (fun q => c q.1)]; omega
theorem mx1_w {p : Nat → Bool} {f : Nat → Nat} : ∀ n, mx1 p f n = 0 ∨ ∃ g, g < n ∧ p g = true ∧ mx1 p f n = mu p f (f g) n
  | 0 => Or.inl rfl
  | n + 1 => by
    have e1 : mx1 p f (n + 1) = if p n = true then max (mx1 p f n) (mu p f (f n) n + 1) else mx1 p f n := rfl
    have e2 : ∀ v, mu p f v (n + 1) = mu p f v n + (if p n = true ∧ f n = v then 1 else 0) := fun v => rfl
    by_cases c : p n = true
    · rw [if_pos c] at e1
      have e3 := e2 (f n)
      rw [if_pos ⟨c, rfl⟩] at e3
      by_cases m : mx1 p f n ≤ mu p f (f n) n + 1
      · exact Or.inr ⟨n, by omega, c, by omega⟩
      · rcases mx1_w (p := p) (f := f) n with h | ⟨g, h1, h2, h3⟩
        · omega
        · refine Or.inr ⟨g, by omega, h2, ?_⟩
          have e4 := e2 (f g)
          by_cases e : f n = f g
          · rw [← e] at h3; omega
          · rw [if_neg (fun q => e q.2)] at e4; omega
    · rw [if_neg c] at e1
      rcases mx1_w (p := p) (f := f) n with h | ⟨g, h1, h2, h3⟩
      · exact Or.inl (by omega)
      · refine Or.inr ⟨g, by omega, h2, ?_⟩
        have e4 := e2 (f g)
        rw [if_neg (fun q => c q.1)] at e4
        omega
theorem mx2_le {p : Nat → Bool} {f : Nat → Nat} {N : Nat} : ∀ g, mx2 p f N g ≤ mx1 p f N
  | 0 => Nat.zero_le _
  | g + 1 => by
    have h := mx2_le (p := p) (f := f) (N := N) g
    have h2 := mu_mx1 (p := p) (f := f) (f g) N
    unfold mx2
    split <;> omega
theorem mx2_ge {p : Nat → Bool} {f : Nat → Nat} {N : Nat} : ∀ n g, g < n → p g = true → mu p f (f g) N ≤ mx2 p f N n
  | 0, g, h, _ => absurd h (by omega)
  | n + 1, g, h, c => by
    unfold mx2
    by_cases e : g = n
    · subst e
      rw [if_pos c]
      omega
    · have := mx2_ge (p := p) (f := f) (N := N) n g (by omega) c
      split <;> omega
theorem mx_eq {p : Nat → Bool} {f : Nat → Nat} {N : Nat} : mx2 p f N N = mx1 p f N := by
  have h1 := mx2_le (p := p) (f := f) (N := N) N
  rcases mx1_w (p := p) (f := f) N with h | ⟨g, h2, h3, h4⟩
  · omega
  · have := mx2_ge (p := p) (f := f) (N := N) N g h2 h3
    omega
theorem mx1_pos {p : Nat → Bool} {f : Nat → Nat} : ∀ n g, g < n → p g = true → 0 < mx1 p f n
  | 0, g, h, _ => absurd h (by omega)
  | n + 1, g, h, c => by
    unfold mx1
    by_cases e : g = n
    · subst e
      rw [if_pos c]
      omega
    · have := mx1_pos (p := p) (f := f) n g (by omega) c
      split <;> omega
theorem mx1_0 {p : Nat → Bool} {f : Nat → Nat} : ∀ n, (∀ g, g < n → ¬ p g = true) → mx1 p f n = 0
  | 0, _ => rfl
  | n + 1, h => by
    unfold mx1
    rw [if_neg (h n (by omega))]
    exact mx1_0 n (fun g hg => h g (by omega))
