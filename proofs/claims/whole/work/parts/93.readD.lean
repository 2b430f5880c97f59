/-! what holds of the street that is read -/
def DI (A0 D : Nat → Nat) (p : Nat) : Prop := Bd D ∧ D 0 ≤ 7 ∧ (∀ g, g < D 0 → D (30 + g) ≤ 9) ∧ 5 * D 15 ≤ 99 * p ∧ ∀ i, (2 ≤ i ∧ i < 6) ∨ 43 ≤ i → D i = A0 i
theorem DI.mono {A0 D : Nat → Nat} {p q : Nat} (h : DI A0 D p) (hpq : p ≤ q) : DI A0 D q := ⟨h.1, h.2.1, h.2.2.1, by have := h.2.2.2.1; omega, h.2.2.2.2⟩
theorem DI.db {A0 D : Nat → Nat} {p : Nat} (h : DI A0 D p) (hp : p ≤ 150) : DB D := ⟨h.1, h.2.1, by have := h.2.2.2.1; omega⟩
section RD
variable {T : Nat → Nat} {n : Nat} {A0 : Nat → Nat}
theorem zst_D {q p' : Nat} {D D' : Nat → Nat} (hq : q ≤ n) (h : zst T n q D = (p', some D')) : D' = D ∧ q < p' ∧ p' ≤ n := by
  unfold zst at h
  by_cases c : ztk T n q = 3
  · rw [if_pos c] at h
    have h1 : zte T n q = p' := congrArg Prod.fst h
    have h2 : some D = some D' := congrArg Prod.snd h
    have z := zte_p (T := T) hq (by omega)
    have b := zts_b (T := T) hq
    have e := zte_b (T := T) hq
    exact ⟨(Option.some.inj h2).symm, by omega, by omega⟩
  · rw [if_neg c] at h
    exact absurd (congrArg Prod.snd h) (by intro x; cases x)
theorem no_D {q p' : Nat} {D' : Nat → Nat} {X : Prop} (h : ((q, none) : ZQ) = (p', some D')) : X := absurd (congrArg Prod.snd h) (by intro x; cases x)
theorem zte_l {p : Nat} (hp : p ≤ n) : p ≤ zte T n p ∧ zte T n p ≤ n := by
  have b := zts_b (T := T) hp
  have e := zte_b (T := T) hp
  omega
theorem zw_D : ∀ d h p (D : Nat → Nat) q p' D', h + d = 6 → p ≤ n → q ≤ p → DI A0 D q → zw T n d h p D = (p', some D') → DI A0 D' q ∧ p < p' ∧ p' ≤ n
  | 0, h, p, D, q, p', D', _, hp, hq, hD, hz => by
    obtain ⟨e1, e2, e3⟩ := zst_D hp hz
    subst e1
    exact ⟨hD, e2, e3⟩
  | d + 1, h, p, D, q, p', D', hh, hp, hq, hD, hz => by
    have ez := zte_l (T := T) hp
    unfold zw at hz
    by_cases c : h ≠ 0 ∧ ztk T n p = 3
    · rw [if_pos c] at hz
      have h1 : zte T n p = p' := congrArg Prod.fst hz
      have h2 : some D = some D' := congrArg Prod.snd hz
      have z := zte_p (T := T) hp (by omega)
      have b := zts_b (T := T) hp
      have e2 := Option.some.inj h2
      subst e2
      exact ⟨hD, by omega, by omega⟩
    · rw [if_neg c] at hz
      by_cases c2 : zn T n p 0 4
      · rw [if_pos c2] at hz
        have z := zte_p (T := T) hp (by omega)
        have b := zts_b (T := T) hp
        have zb := c2.2.2
        obtain ⟨d1, d2, d3, d4, d5⟩ := hD
        have hD2 : DI A0 (upN D (16 + h) (ztv T n p)) q := ⟨Bd_wet d1 (by omega) (by omega), by rw [upN_n (by omega)]; exact d2, fun g hg => by rw [upN_n (by omega)] at hg; rw [upN_n (by omega)]; exact d3 g hg, by rw [upN_n (by omega)]; exact d4, fun i hi => by rw [upN_n (by omega)]; exact d5 i hi⟩
        obtain ⟨r1, r2, r3⟩ := zw_D d (h + 1) (zte T n p) _ q p' D' (by omega) ez.2 (by omega) hD2 hz
        exact ⟨r1, by omega, r3⟩
      · rw [if_neg c2] at hz
        exact no_D hz
theorem zgl_D {p p' : Nat} {D D' : Nat → Nat} (hp : p ≤ n) (hD : DI A0 D p) (hz : zgl T n p D = (p', some D')) : DI A0 D' p' ∧ p < p' ∧ p' ≤ n := by
  have e0 := zte_l (T := T) hp
  have e1 := zte_l (T := T) e0.2
  have e2 := zte_l (T := T) e1.2
  have e3 := zte_l (T := T) e2.2
  unfold zgl at hz
  by_cases c7 : D 0 = 7
  · rw [if_pos c7] at hz; exact no_D hz
  · rw [if_neg c7] at hz
    unfold zg1 at hz
    by_cases z1 : zn T n (zte T n p) 0 5
    · rw [if_pos z1] at hz
      unfold zg2 at hz
      by_cases z2 : zn T n (zte T n (zte T n p)) 1 9
      · rw [if_pos z2] at hz
        unfold zg3 at hz
        by_cases z3 : zn T n (zte T n (zte T n (zte T n p))) 0 23
        · rw [if_pos z3] at hz
          obtain ⟨g1, g2, g3⟩ := zst_D e3.2 hz
          subst g1
          have b1 := z1.2.2
          have b2 := z2.2.2
          have b3 := z3.2.2
          obtain ⟨d1, d2, d3, d4, d5⟩ := hD
          refine ⟨⟨Bd_ag d1 (by omega) (by omega) (by omega) (by omega), by rw [ag_0]; omega, fun g hg => ?_, ?_, fun i hi => ?_⟩, by omega, g3⟩
          · rw [ag_0] at hg
            by_cases e : g = D 0
            · subst e; rw [ag_mk (by omega)]; omega
            · rw [ag_o (by omega) (by omega) (by omega) (by omega)]; exact d3 g (by omega)
          · rw [ag_o (by omega) (by omega) (by omega) (by omega)]; omega
          · rw [ag_o (by omega) (by omega) (by omega) (by omega)]; exact d5 i hi
        · rw [if_neg z3] at hz; exact no_D hz
      · rw [if_neg z2] at hz; exact no_D hz
    · rw [if_neg z1] at hz; exact no_D hz
theorem zcr_D {p p' : Nat} {D D' : Nat → Nat} (hp : p ≤ n) (hD : DI A0 D p) (hz : zcr T n p D = (p', some D')) : DI A0 D' p' ∧ p < p' ∧ p' ≤ n := by
  have e0 := zte_l (T := T) hp
  have e1 := zte_l (T := T) e0.2
  have e2 := zte_l (T := T) e1.2
  have h3 := hD.1.2.1
  unfold zcr at hz
  by_cases c3 : D 1 = 3
  · rw [if_pos c3] at hz; exact no_D hz
  · rw [if_neg c3] at hz
    unfold zc1 at hz
    by_cases z1 : zn T n (zte T n p) 0 5
    · rw [if_pos z1] at hz
      unfold zc2 at hz
      by_cases z2 : zn T n (zte T n (zte T n p)) 0 22 ∧ bh D (ztv T n (zte T n (zte T n p))) = 0
      · rw [if_pos z2] at hz
        obtain ⟨g1, g2, g3⟩ := zst_D e2.2 hz
        subst g1
        have b1 := z1.2.2
        have b2 := z2.1.2.2
        obtain ⟨d1, d2, d3, d4, d5⟩ := hD
        have o : ∀ i, i ≠ 1 → (i < 37 ∨ 43 ≤ i) → ac D (ztv T n (zte T n p)) (ztv T n (zte T n (zte T n p))) i = D i := fun i h1 h2 => ac_o h1 (by omega) (by omega)
        refine ⟨⟨Bd_ac d1 (by omega) (by omega) (by omega) z2.2, by rw [o 0 (by omega) (by omega)]; exact d2, fun g hg => ?_, ?_, fun i hi => ?_⟩, by omega, g3⟩
        · rw [o 0 (by omega) (by omega)] at hg
          rw [o _ (by omega) (by omega)]; exact d3 g hg
        · rw [o 15 (by omega) (by omega)]; omega
        · rw [o i (by omega) (by omega)]; exact d5 i hi
      · rw [if_neg z2] at hz; exact no_D hz
    · rw [if_neg z1] at hz; exact no_D hz
theorem zsh_D {p p' : Nat} {D D' : Nat → Nat} (hp : p ≤ n) (hD : DI A0 D p) (hz : zsh T n (zte T n p) D = (p', some D')) : DI A0 D' p' ∧ p < p' ∧ p' ≤ n := by
  have e0 := zte_l (T := T) hp
  have e1 := zte_l (T := T) e0.2
  have h3 := hD.1.2.1
  unfold zsh at hz
  by_cases z1 : zn T n (zte T n p) 0 ((D 1 : Int) - 1)
  · rw [if_pos z1] at hz
    obtain ⟨g1, g2, g3⟩ := zst_D e1.2 hz
    subst g1
    have b1 := z1.2.2
    obtain ⟨d1, d2, d3, d4, d5⟩ := hD
    obtain ⟨ex, ey⟩ := q_xor (D 14) d1.2.2.1 (ztv T n (zte T n p)) (by omega)
    refine ⟨⟨Bd_sh d1 ey, by rw [upN_n (by omega)]; exact d2, fun g hg => ?_, ?_, fun i hi => ?_⟩, by omega, g3⟩
    · rw [upN_n (by omega)] at hg
      rw [upN_n (by omega)]; exact d3 g hg
    · rw [upN_n (by omega)]; omega
    · rw [upN_n (by omega)]; exact d5 i hi
  · rw [if_neg z1] at hz; exact no_D hz
theorem zho_D {p p' : Nat} {D D' : Nat → Nat} (hn : n ≤ 150) (hp : p ≤ n) (hp5 : p + 5 ≤ zte T n p) (hD : DI A0 D p) (hz : zho T n (zte T n p) D = (p', some D')) : DI A0 D' p' ∧ p < p' ∧ p' ≤ n := by
  have e0 := zte_l (T := T) hp
  have e1 := zte_l (T := T) e0.2
  unfold zho at hz
  by_cases z1 : zn T n (zte T n p) 1 99
  · rw [if_pos z1] at hz
    obtain ⟨g1, g2, g3⟩ := zst_D e1.2 hz
    subst g1
    have b1 := z1.2.2
    obtain ⟨d1, d2, d3, d4, d5⟩ := hD
    refine ⟨⟨Bd_it d1 _ (by omega), by rw [it_lo (by omega)]; exact d2, fun g hg => ?_, ?_, fun i hi => ?_⟩, by omega, g3⟩
    · rw [it_lo (by omega)] at hg
      rw [it_hi (by omega) (by omega)]; exact d3 g hg
    · rw [it_15 (by omega)]; omega
    · rcases hi with hi | hi
      · rw [it_lo (by omega)]; exact d5 i (Or.inl hi)
      · rw [it_hi (by omega) (by omega)]; exact d5 i (Or.inr hi)
  · rw [if_neg z1] at hz; exact no_D hz
theorem wm_e {p i : Nat} (h : wm T n p i = true) : ztk T n p = 1 ∧ zte T n p - zts T n p = lenJ.getD i 0 := by
  unfold wm at h
  by_cases c : ztk T n p = 1 ∧ zte T n p - zts T n p = lenJ.getD i 0
  · exact c
  · rw [if_neg c] at h; exact absurd h (by decide)
theorem zit_D {p p' : Nat} {D D' : Nat → Nat} (hn : n ≤ 150) (hp : p ≤ n) (hD : DI A0 D p) (hz : zit T n p D = (p', some D')) : DI A0 D' p' ∧ p < p' ∧ p' ≤ n := by
  have b := zts_b (T := T) hp
  have e0 := zte_l (T := T) hp
  unfold zit at hz
  by_cases c1 : wm T n p 1 = true
  · rw [if_pos c1] at hz
    obtain ⟨r1, r2, r3⟩ := zw_D 6 0 _ D p p' D' (by omega) e0.2 (by omega) hD hz
    exact ⟨r1.mono (by omega), by omega, r3⟩
  · rw [if_neg c1] at hz
    by_cases c2 : wm T n p 2 = true
    · rw [if_pos c2] at hz
      exact zgl_D hp hD hz
    · rw [if_neg c2] at hz
      by_cases c3 : wm T n p 3 = true
      · rw [if_pos c3] at hz
        exact zcr_D hp hD hz
      · rw [if_neg c3] at hz
        by_cases c4 : wm T n p 4 = true
        · rw [if_pos c4] at hz
          exact zsh_D hp hD hz
        · rw [if_neg c4] at hz
          by_cases c5 : wm T n p 5 = true
          · rw [if_pos c5] at hz
            have w := (wm_e c5).2
            rw [show lenJ.getD 5 0 = 5 from rfl] at w
            exact zho_D hn hp (by omega) hD hz
          · rw [if_neg c5] at hz; exact no_D hz
/-- the whole text -/
def zrd (T : Nat → Nat) (n : Nat) : Nat → Nat → Nat → (Nat → Nat) → Int32 × Option (Nat → Nat)
  | 0, x, _, D => (nI x, some D)
  | d + 1, x, p, D => if ztk T n p = 0 then (nI x, some D) else match (zit T n p D).2 with
    | none => (-10 - nI (zts T n (zit T n p D).1), none)
    | some D' => zrd T n d (x + 1) (zit T n p D).1 D'
def zread (T : Nat → Nat) (n : Nat) (D : Nat → Nat) : Int32 × Option (Nat → Nat) := if wm T n 0 0 = true then (if ztk T n (zte T n 0) = 3 then zrd T n (n + 1) 1 (zte T n (zte T n 0)) D else (-10 - nI (zts T n (zte T n 0)), none)) else (-10 - nI (zts T n 0), none)
end RD
