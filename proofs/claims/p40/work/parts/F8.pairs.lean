/-! the greatest heap -/
abbrev HP : Type := Nat × Nat × Int32
def hc (A : Nat → Nat) (k : Nat) : Nat := cnt A (A (40 + k)) (A 0)
def Iv (A : Nat → Nat) (m : Nat) (P : Nat → Prop) (p p' : HP) : Prop := (p' = p ∧ ∀ k, k < A 1 → P k → hc A k ≤ p.1) ∨ (∃ k0, k0 < A 1 ∧ P k0 ∧ p' = (hc A k0, m, nI (A (40 + k0))) ∧ p.1 < hc A k0 ∧ ∀ k, k < A 1 → P k → hc A k ≤ hc A k0 ∧ (hc A k = hc A k0 → A (40 + k0) ≤ A (40 + k)))
def hpr (A : Nat → Nat) : Nat → HP → Prop
  | 0, p => p = (0, 0, -1)
  | m + 1, p => ∃ q, hpr A m q ∧ Iv (it m A) m (fun _ => True) q p
theorem Iv_u {A : Nat → Nat} {m : Nat} {p a b : HP} (h : Iv A m (fun _ => True) p a) (h' : Iv A m (fun _ => True) p b) : a = b := by
  rcases h with ⟨e, h1⟩ | ⟨k0, k1, -, e, h1, h2⟩ <;> rcases h' with ⟨e', h1'⟩ | ⟨k0', k1', -, e', h1', h2'⟩
  · rw [e, e']
  · have := h1 k0' k1' trivial; omega
  · have := h1' k0 k1 trivial; omega
  · have x := h2 k0' k1' trivial
    have x' := h2' k0 k1 trivial
    have ec : hc A k0' = hc A k0 := by omega
    have es : A (40 + k0') = A (40 + k0) := Nat.le_antisymm (x'.2 ec.symm) (x.2 ec)
    rw [e, e', ec, es]
theorem hp_u {A : Nat → Nat} : ∀ m p q, hpr A m p → hpr A m q → p = q
  | 0, _, _, h, h' => h.trans h'.symm
  | m + 1, p, q, ⟨x, h1, h2⟩, ⟨y, h1', h2'⟩ => by
    have := hp_u m x y h1 h1'
    subst this
    exact Iv_u h2 h2'
theorem hp_b {A : Nat → Nat} (h0 : A 0 ≤ 8) : ∀ m p, hpr A m p → p.1 ≤ 8 ∧ p.2.1 ≤ m ∧ (p.2.1 < m ∨ p.2.2 = -1)
  | 0, p, h => by
    have : p = (0, 0, -1) := h
    subst this
    exact ⟨by decide, by decide, Or.inr rfl⟩
  | m + 1, p, ⟨q, h1, h2⟩ => by
    obtain ⟨b1, b2, b3⟩ := hp_b h0 m q h1
    rcases h2 with ⟨e, -⟩ | ⟨k0, -, -, e, -, -⟩
    · subst e
      refine ⟨b1, by omega, ?_⟩
      rcases b3 with b3 | b3
      · exact Or.inl (by omega)
      · exact Or.inr b3
    · subst e
      have := cnt_le (a := it m A) (s := it m A (40 + k0)) (it m A 0)
      have e0 : it m A 0 = A 0 := it_lo (by omega) m
      exact ⟨show hc (it m A) k0 ≤ 8 by unfold hc; omega, show m ≤ m + 1 by omega, Or.inl (show m < m + 1 by omega)⟩
section O28
variable {σ τ : St} {a1 a2 a3 a4 : Int32}
def Hp (σ : St) (p : HP) : Prop := σ 55 1 = nI p.1 ∧ σ 55 2 = nI p.2.1 ∧ σ 55 3 = p.2.2
set_option maxHeartbeats 4000000 in
set_option maxRecDepth 100000 in
theorem c_take {p : HP} {n m s : Nat} (h : Hp σ p) (b1 : p.1 < 1000) (b2 : p.2.1 < 1000) (hn : n < 1000) (hm : m < 1000) {Q : St → Prop} (hk : ¬ (p.1 < n ∨ (n = p.1 ∧ m = p.2.1 ∧ ¬ p.2.2 ≤ nI s)) → Q σ) (ht : (p.1 < n ∨ (n = p.1 ∧ m = p.2.1 ∧ ¬ p.2.2 ≤ nI s)) → ∀ σ', Hp σ' (n, m, nI s) → (∀ q, q ≠ 55 → σ' q = σ q) → Q σ') : V_X0_takeGreaterHeap (nI n) (nI m) (nI s) σ Q := by
  obtain ⟨h1, h2, h3⟩ := h
  unfold V_X0_takeGreaterHeap B_X0_takeGreaterHeap_e
  have k44 : (p.1 < n ∨ (n = p.1 ∧ m = p.2.1 ∧ ¬ p.2.2 ≤ nI s)) → R_X0_takeGreaterHeap (nI n) (nI m) (nI s) Q 44 [] [] σ := fun c => by
    refine i_X0_takeGreaterHeap_44 _ _ _ _ _ ?_
    unfold B_X0_takeGreaterHeap_44
    intro s1 e1 s2 e2 s3 e3
    subst e1; subst e2; subst e3
    refine ht c _ ⟨?_, ?_, ?_⟩ (fun q hq => by rw [us_ne hq, us_ne hq, us_ne hq])
    · rw [us_same, pk_un (by omega), us_same, pk_un (by omega), us_same, pk_us]
    · rw [us_same, pk_un (by omega), us_same, pk_us]
    · rw [us_same, pk_us]
  have k29 : ∀ t : Int32, (t = 0 ∧ ¬ (n = p.1 ∧ m = p.2.1 ∧ ¬ p.2.2 ≤ nI s)) ∨ (t = 1 ∧ (n = p.1 ∧ m = p.2.1 ∧ ¬ p.2.2 ≤ nI s)) → R_X0_takeGreaterHeap (nI n) (nI m) (nI s) Q 29 [t] [] σ := fun t ht' => by
    refine i_X0_takeGreaterHeap_29 _ _ _ _ _ _ ?_
    unfold B_X0_takeGreaterHeap_29
    rw [h1, q_lt (by omega) (by omega)]
    refine ⟨fun c => k44 (Or.inl c), fun c => ?_⟩
    rcases ht' with ⟨rfl, c2⟩ | ⟨rfl, c2⟩
    · exact br_t rfl (hk (fun x => by rcases x with x | x; exact c x; exact c2 x))
    · exact br_f (by decide) (k44 (Or.inr c2))
  rw [h1, h2, h3, q_eq (by omega) (by omega), q_eq (by omega) (by omega)]
  refine ⟨fun c => k29 0 (Or.inl ⟨rfl, fun x => c x.1⟩), fun c1 => ⟨fun c => k29 0 (Or.inl ⟨rfl, fun x => c x.2.1⟩), fun c2 => ⟨fun c => k29 0 (Or.inl ⟨rfl, fun x => x.2.2 c⟩), fun c => k29 1 (Or.inr ⟨rfl, c1, c2, c⟩)⟩⟩⟩
theorem m1_le {s : Nat} (hs : s < 2147483648) : (-1 : Int32) ≤ nI s := Int32.le_iff_toInt_le.mpr (by
  rw [nI_toInt hs, show (-1 : Int32).toInt = -1 from by decide]
  omega)
set_option maxHeartbeats 4000000 in
set_option maxRecDepth 100000 in
theorem c_heap {A : Nat → Nat} (hst : StR σ 2 A) (hW : WFA A) {Q : St → Prop} (hq : ∀ p σ', hpr A 31 p → Hp σ' p → (∀ q, q < 55 ∨ 64 < q → σ' q = σ q) → Q σ') : V_X0_findHeap 2 σ Q := by
  unfold V_X0_findHeap B_X0_findHeap_e
  have h15 := hW.2.2.1
  have h7 := hW.2.1
  have h3 := hW.1.2.1
  intro s1 e1 s2 e2 s3 e3
  have i1 : s3 55 1 = nI 0 := by rw [e3, us_same, pk_un (by omega), e2, us_same, pk_un (by omega), e1, us_same, pk_us]; rfl
  have i2 : s3 55 2 = nI 0 := by rw [e3, us_same, pk_un (by omega), e2, us_same, pk_us]; rfl
  have i3 : s3 55 3 = -1 := by rw [e3, us_same, pk_us]
  have f3 : ∀ q, q ≠ 55 → s3 q = σ q := fun q hq => by rw [e3, us_ne hq, e2, us_ne hq, e1, us_ne hq]
  refine s_copy (hst.congr (fun q h1 h2 => f3 q (by omega))) h7 h3 (by omega) (fun s4 hs4 f4 => ?_)
  have loop : ∀ d m (p : HP) (s : St), m + d = 31 → hpr A m p → Hp s p → StR s 56 (it m A) → (∀ q, q < 55 ∨ 64 < q → s q = σ q) → R_X0_findHeap 2 Q 25 [nI m] [] s := by
    intro d
    induction d with
    | zero =>
      intro m p s hm hpp hH hs hf
      refine i_X0_findHeap_25 _ _ _ _ ?_
      unfold B_X0_findHeap_25
      rw [(by omega : m = 31)] at *
      exact ⟨fun _ => hq p s hpp hH hf, fun c => absurd (by decide) c⟩
    | succ d ih =>
      intro m p s hm hpp hH hs hf
      refine i_X0_findHeap_25 _ _ _ _ ?_
      unfold B_X0_findHeap_25
      refine ⟨fun c => absurd (by rw [show (30 : Int32) = nI 30 from rfl, q_lt (by omega) (by omega)] at c; exact c) (by omega), fun _ => ?_⟩
      have hB := Bd_it hW.1 m (by omega)
      have hsm : Sm (it m A) := hB.2.2.2.2.2.2.2.2
      have e0 : it m A 0 = A 0 := it_lo (by omega) m
      have e1 : it m A 1 = A 1 := it_lo (by omega) m
      obtain ⟨b1, b2, b3⟩ := hp_b (by omega) m p hpp
      have inner : ∀ d2 k (p' : HP) (s' : St), k + d2 = A 1 → Iv (it m A) m (fun j => j < k) p p' → Hp s' p' → (∀ q, q ≠ 55 → s' q = s q) → R_X0_findHeap 2 Q 33 [nI m, nI k] [] s' := by
        intro d2
        induction d2 with
        | zero =>
          intro k p' s' hk hI hH' hf'
          refine i_X0_findHeap_33 _ _ _ _ _ ?_
          unfold B_X0_findHeap_33
          have hs' : StR s' 56 (it m A) := hs.congr (fun q h1 h2 => hf' q (by omega))
          rw [hs'.2.1, e1]
          refine ⟨fun _ => s_passHour hs' hB (fun s5 hs5 f5 => ?_), fun c => absurd (by rw [q_le (by omega) (by omega)]; omega) c⟩
          rw [← it_succ] at hs5
          rw [nI_1]
          refine ih (m + 1) p' s5 (by omega) ⟨p, hpp, ?_⟩ ?_ hs5 (fun q hq => by rw [f5 q (by omega), hf' q (by omega), hf q hq])
          · rcases hI with ⟨e, x⟩ | ⟨k0, k1, k2, e, x, y⟩
            · exact Or.inl ⟨e, fun j hj _ => x j hj (by omega)⟩
            · exact Or.inr ⟨k0, k1, trivial, e, x, fun j hj _ => y j hj (by omega)⟩
          · unfold Hp at *
            rw [f5 55 (by omega)]
            exact hH'
        | succ d2 ih2 =>
          intro k p' s' hk hI hH' hf'
          refine i_X0_findHeap_33 _ _ _ _ _ ?_
          unfold B_X0_findHeap_33
          have hs' : StR s' 56 (it m A) := hs.congr (fun q h1 h2 => hf' q (by omega))
          have hcn := cnt_le (a := it m A) (s := it m A (40 + k)) (it m A 0)
          have hsp := (hB.2.2.2.2.2.2.1 k (by omega)).2
          rw [hs'.2.1, e1]
          refine ⟨fun c => absurd (by rw [q_le (by omega) (by omega)] at c; exact c) (by omega), fun _ => s_waitingBehind hs' hsm (by omega) (by omega) (by omega) ⟨vp_in_nI (by omega) (by omega), ?_⟩⟩
          rw [nI_clamp (by omega), show s' 62 k = nI (it m A (40 + k)) from hs'.2.2.2.2.2.2.2.2.2.1 k (by omega)]
          have hp1 : p'.1 ≤ 8 := by
            rcases hI with ⟨e, -⟩ | ⟨k0, k1, k2, e, -, -⟩
            · rw [e]; exact b1
            · rw [e]
              have := cnt_le (a := it m A) (s := it m A (40 + k0)) (it m A 0)
              show hc (it m A) k0 ≤ 8
              unfold hc; omega
          have hp2 : p'.2.1 ≤ m := by
            rcases hI with ⟨e, -⟩ | ⟨k0, k1, k2, e, -, -⟩
            · rw [e]; exact b2
            · rw [e]; exact Nat.le_refl _
          have ec : cnt (it m A) (it m A (40 + k)) (it m A 0) = hc (it m A) k := rfl
          have hck : hc (it m A) k ≤ 8 := by unfold hc; omega
          rw [ec] at *
          refine c_take hH' (by omega) (by omega) (by omega) (by omega) (fun c => ?_) (fun c s5 h5 f5 => ?_)
          · rw [nI_1]
            refine ih2 (k + 1) p' s' (by omega) ?_ hH' hf'
            rcases hI with ⟨e, x⟩ | ⟨k0, k1, k2, e, x, y⟩
            · refine Or.inl ⟨e, fun j hj h => ?_⟩
              by_cases z : j = k
              · rw [z, ← e]
                exact Nat.le_of_not_lt (fun q => c (Or.inl q))
              · exact x j hj (by omega)
            · refine Or.inr ⟨k0, k1, by omega, e, x, fun j hj h => ?_⟩
              by_cases z : j = k
              · rw [z]
                have e1' : p'.1 = hc (it m A) k0 := by rw [e]
                have e2' : p'.2.1 = m := by rw [e]
                have e3' : p'.2.2 = nI (it m A (40 + k0)) := by rw [e]
                have hsp0 := (hB.2.2.2.2.2.2.1 k0 (by omega)).2
                refine ⟨Nat.le_of_not_lt (fun q => c (Or.inl (by omega))), fun q => Classical.byContradiction (fun w => c (Or.inr ⟨by omega, by omega, ?_⟩))⟩
                rw [e3', q_le (by omega) (by omega)]
                exact w
              · exact y j hj (by omega)
          · rw [nI_1]
            refine ih2 (k + 1) _ s5 (by omega) ?_ h5 (fun q hq => by rw [f5 q hq, hf' q hq])
            refine Or.inr ⟨k, by omega, by omega, rfl, ?_, fun j hj h => ?_⟩
            · rcases hI with ⟨e, x⟩ | ⟨k0, k1, k2, e, x, y⟩
              · rcases c with c | ⟨c1, c2, c3⟩
                · rw [← e]; exact c
                · rw [e] at c2 c3
                  rcases b3 with b3 | b3
                  · omega
                  · rw [b3] at c3
                    exact absurd (m1_le (by omega)) c3
              · have e1' : p'.1 = hc (it m A) k0 := by rw [e]
                rcases c with c | ⟨c1, c2, c3⟩
                · omega
                · omega
            · by_cases z : j = k
              · subst z; exact ⟨Nat.le_refl _, fun _ => Nat.le_refl _⟩
              · rcases hI with ⟨e, x⟩ | ⟨k0, k1, k2, e, x, y⟩
                · have x1 := x j hj (by omega)
                  rw [← e] at x1
                  rcases c with c | ⟨c1, c2, c3⟩
                  · exact ⟨by omega, fun q => absurd q (by omega)⟩
                  · rw [e] at c2 c3
                    rcases b3 with b3 | b3
                    · omega
                    · rw [b3] at c3
                      exact absurd (m1_le (by omega)) c3
                · have e1' : p'.1 = hc (it m A) k0 := by rw [e]
                  have e3' : p'.2.2 = nI (it m A (40 + k0)) := by rw [e]
                  have hsp0 := (hB.2.2.2.2.2.2.1 k0 (by omega)).2
                  have x1 := y j hj (by omega)
                  rcases c with c | ⟨c1, c2, c3⟩
                  · exact ⟨by omega, fun q => absurd q (by omega)⟩
                  · rw [e3', q_le (by omega) (by omega)] at c3
                    exact ⟨by omega, fun q => by have := x1.2 (by omega); omega⟩
      exact inner (A 1) 0 p s (by omega) (Or.inl ⟨rfl, fun j hj h => absurd h (by omega)⟩) hH (fun _ _ => rfl)
  exact loop 31 0 (0, 0, -1) s4 (by omega) rfl ⟨by rw [f4 55 (by omega)]; exact i1, by rw [f4 55 (by omega)]; exact i2, by rw [f4 55 (by omega)]; exact i3⟩ hs4 (fun q hq => by rw [f4 q (by omega), f3 q (by omega)])
end O28

/-! pairs: what is told, in numbers -/
def isP (A : Nat → Nat) (g o : Nat) : Bool := decide (A (22 + g) = A (22 + o) ∧ A (30 + g) ≤ A (30 + o) + 1 ∧ A (30 + o) ≤ A (30 + g) + 1)
def cl (s g : Nat) : Nat := s &&& (2 ^ g ^^^ (2 ^ 32 - 1))
def lowb (s : Nat) : Nat := if s % 2 = 1 then 0 else if s / 2 % 2 = 1 then 1 else if s / 4 % 2 = 1 then 2 else if s / 8 % 2 = 1 then 3 else if s / 16 % 2 = 1 then 4 else if s / 32 % 2 = 1 then 5 else 6
theorem bi_tb {s g : Nat} : bi s g = s.testBit g := by
  unfold bi
  rw [Nat.testBit_eq_decide_div_mod_eq]
theorem bi_cl {s g o : Nat} (ho : o < 32) : bi (cl s g) o = true ↔ bi s o = true ∧ o ≠ g := by
  unfold cl
  rw [bi_tb, bi_tb, tb_and, tb_clr ho]
  exact ⟨fun h => ⟨h.1, fun e => h.2 e.symm⟩, fun h => ⟨h.1, fun e => h.2 e.symm⟩⟩
theorem cl_le {s g : Nat} : cl s g ≤ s := Nat.and_le_left
theorem cl_lt {s g : Nat} (hg : g < 32) (h : bi s g = true) : cl s g < s := by
  have h1 := cl_le (s := s) (g := g)
  by_cases e : cl s g = s
  · have := (bi_cl (s := s) hg).mp (e.symm ▸ h)
    exact absurd rfl this.2
  · omega
theorem bi_all {n j : Nat} : bi (2 ^ n - 1) j = true ↔ j < n := by rw [bi_tb]; exact tb_all
theorem lowb_f : ∀ s : Fin 128, s.val ≠ 0 → lowb s.val ≤ 6 ∧ bi s.val (lowb s.val) = true ∧ ∀ j : Fin 7, j.val < lowb s.val → bi s.val j.val = false := by decide +kernel
theorem lowb_1 {s : Nat} (hs : s < 128) (h0 : s ≠ 0) : lowb s ≤ 6 := (lowb_f ⟨s, hs⟩ h0).1
theorem lowb_2 {s : Nat} (hs : s < 128) (h0 : s ≠ 0) : bi s (lowb s) = true := (lowb_f ⟨s, hs⟩ h0).2.1
theorem lowb_3 {s j : Nat} (hs : s < 128) (h0 : s ≠ 0) (hj : j < lowb s) : bi s j = false := (lowb_f ⟨s, hs⟩ h0).2.2 ⟨j, by have := lowb_1 hs h0; omega⟩ hj
theorem lowb_e {s g : Nat} (hs : s < 128) (hg : bi s g = true) (hl : ∀ j, j < g → ¬ bi s j = true) : lowb s = g := by
  have h0 : s ≠ 0 := fun e => by rw [e] at hg; exact bi_0 hg
  by_cases c : lowb s < g
  · exact absurd (lowb_2 hs h0) (hl _ c)
  · by_cases c2 : g < lowb s
    · rw [lowb_3 hs h0 c2] at hg
      exact absurd hg (by decide)
    · omega
theorem q_cl {s g : Nat} (hg : g < 31) : nI s &&& (((1 : Int32) <<< (nI g &&& 31)) ^^^ (-1)) = nI (cl s g) := by
  rw [q_shl hg, show (-1 : Int32) = nI (2 ^ 32 - 1) from by decide, q_xr, q_and]
  rfl
/-- the most pairs as the others come -/
def vf (A t : Nat → Nat) (g r : Nat) : Nat → Nat
  | 0 => t r
  | o + 1 => if g < o ∧ bi r o = true ∧ isP A g o = true then max (vf A t g r o) (1 + t (cl r o)) else vf A t g r o
def vl (A t : Nat → Nat) (s : Nat) : Nat := vf A t (lowb s) (cl s (lowb s)) (A 0)
def tab (A : Nat → Nat) : Nat → Nat → Nat
  | 0 => fun _ => 0
  | s + 1 => upN (tab A s) (s + 1) (vl A (tab A s) (s + 1))
def tt (A : Nat → Nat) (s : Nat) : Nat := tab A s s
theorem vf_s {A t : Nat → Nat} {g r o : Nat} : vf A t g r (o + 1) = if g < o ∧ bi r o = true ∧ isP A g o = true then max (vf A t g r o) (1 + t (cl r o)) else vf A t g r o := rfl
theorem vf_c {A t t' : Nat → Nat} {g r : Nat} (h : ∀ j, j ≤ r → t j = t' j) : ∀ k, vf A t g r k = vf A t' g r k
  | 0 => h r (Nat.le_refl _)
  | k + 1 => by rw [vf_s, vf_s, vf_c h k, h _ cl_le]
theorem vf_lo {A t : Nat → Nat} {g r : Nat} : ∀ k, k ≤ g + 1 → vf A t g r k = t r
  | 0, _ => rfl
  | k + 1, h => by rw [vf_s, if_neg (by omega)]; exact vf_lo k (by omega)
theorem vf_t {A t : Nat → Nat} {g r : Nat} : ∀ k, t r ≤ vf A t g r k
  | 0 => Nat.le_refl _
  | k + 1 => by
    have := vf_t (A := A) (t := t) (g := g) (r := r) k
    rw [vf_s]
    split <;> omega
theorem vf_ge {A t : Nat → Nat} {g r o : Nat} (h1 : g < o) (h2 : bi r o = true) (h3 : isP A g o = true) : ∀ k, o < k → 1 + t (cl r o) ≤ vf A t g r k
  | 0, h => absurd h (by omega)
  | k + 1, h => by
    rw [vf_s]
    by_cases e : o = k
    · subst e
      rw [if_pos ⟨h1, h2, h3⟩]
      omega
    · have := vf_ge (A := A) (t := t) h1 h2 h3 k (by omega)
      split <;> omega
theorem vf_w {A t : Nat → Nat} {g r : Nat} : ∀ k, vf A t g r k = t r ∨ ∃ o, g < o ∧ o < k ∧ bi r o = true ∧ isP A g o = true ∧ vf A t g r k = 1 + t (cl r o)
  | 0 => Or.inl rfl
  | k + 1 => by
    have ih := vf_w (A := A) (t := t) (g := g) (r := r) k
    rw [vf_s]
    by_cases c : g < k ∧ bi r k = true ∧ isP A g k = true
    · rw [if_pos c]
      by_cases m : vf A t g r k ≤ 1 + t (cl r k)
      · exact Or.inr ⟨k, c.1, by omega, c.2.1, c.2.2, Nat.max_eq_right m⟩
      · rw [Nat.max_eq_left (by omega)]
        rcases ih with e | ⟨o, e1, e2, e3, e4, e5⟩
        · exact Or.inl e
        · exact Or.inr ⟨o, e1, by omega, e3, e4, e5⟩
    · rw [if_neg c]
      rcases ih with e | ⟨o, e1, e2, e3, e4, e5⟩
      · exact Or.inl e
      · exact Or.inr ⟨o, e1, by omega, e3, e4, e5⟩
theorem vf_le {A t : Nat → Nat} {g r b : Nat} (h : ∀ j, j ≤ r → t j ≤ b) : ∀ k, vf A t g r k ≤ b + 1
  | 0 => Nat.le_trans (h r (Nat.le_refl _)) (by omega)
  | k + 1 => by
    have ih := vf_le (A := A) (t := t) (g := g) (r := r) h k
    have := h _ (cl_le (s := r) (g := k))
    rw [vf_s]
    split <;> omega
theorem vl_c {A t t' : Nat → Nat} {s : Nat} (hs : s < 128) (h0 : s ≠ 0) (h : ∀ j, j < s → t j = t' j) : vl A t s = vl A t' s := by
  have := cl_lt (by have := lowb_1 hs h0; omega) (lowb_2 hs h0)
  exact vf_c (fun j hj => h j (by omega)) _
theorem tab_le {A : Nat → Nat} {j : Nat} : ∀ s, j ≤ s → tab A s j = tt A j
  | 0, h => by
    have : j = 0 := by omega
    subst this; rfl
  | s + 1, h => by
    by_cases e : j = s + 1
    · subst e; rfl
    · show upN (tab A s) (s + 1) _ j = _
      rw [upN_n e]
      exact tab_le s (by omega)
theorem tt_0 {A : Nat → Nat} : tt A 0 = 0 := rfl
theorem tt_s {A : Nat → Nat} {s : Nat} (hs : s < 128) (h0 : s ≠ 0) : tt A s = vl A (tt A) s := by
  obtain ⟨k, rfl⟩ : ∃ k, s = k + 1 := ⟨s - 1, by omega⟩
  show upN (tab A k) (k + 1) (vl A (tab A k) (k + 1)) (k + 1) = _
  rw [upN_s]
  exact vl_c hs h0 (fun j hj => tab_le k (by omega))
theorem tt_le {A : Nat → Nat} : ∀ n s, s ≤ n → s < 128 → tt A s ≤ s
  | 0, s, h, _ => by
    have : s = 0 := by omega
    subst this; exact Nat.le_refl _
  | n + 1, s, h, h1 => by
    by_cases h0 : s = 0
    · subst h0; exact Nat.le_refl _
    · rw [tt_s h1 h0]
      have l := cl_lt (by have := lowb_1 h1 h0; omega) (lowb_2 h1 h0)
      have : ∀ j, j ≤ cl s (lowb s) → tt A j ≤ cl s (lowb s) := fun j hj => Nat.le_trans (tt_le n j (by omega) (by omega)) hj
      exact Nat.le_trans (vf_le this _) (by omega)
theorem tt_b {A : Nat → Nat} {s : Nat} (h : s < 128) : tt A s < 128 := Nat.lt_of_le_of_lt (tt_le s s (Nat.le_refl _) h) h
section O30
variable {σ τ : St} {a1 a2 a3 a4 : Int32}
theorem q_ntz : ∀ s : Fin 128, s.val ≠ 0 → (nI s.val ^^^ (-1)) &&& (nI s.val - 1) = nI (2 ^ lowb s.val - 1) := by decide +kernel
set_option maxHeartbeats 4000000 in
set_option maxRecDepth 100000 in
theorem v_ntz {s : Nat} (hs : s < 128) (h0 : s ≠ 0) {Q : Int32 → St → Prop} (hq : Q (nI (lowb s)) σ) : V_J6_numberOfTrailingZeros_0f7a4 (nI s) σ Q := by
  unfold V_J6_numberOfTrailingZeros_0f7a4 B_J6_numberOfTrailingZeros_0f7a4_e
  intro v1 e1
  rw [show (nI s ^^^ (-1)) &&& (nI s - 1) = nI (2 ^ lowb s - 1) from q_ntz ⟨s, hs⟩ h0] at e1
  have h6 := lowb_1 hs h0
  generalize lowb s = g at *
  have a62 : ∀ x y r : Int32, (x ≤ 4 ∧ y + (x.toUInt32 >>> ((1 : Int32).toUInt32 &&& Int32.toUInt32 31)).toInt32 = r) → r = nI g → R_J6_numberOfTrailingZeros_0f7a4 Q 62 [x, y] [] σ := fun x y r h e => by
    refine i_J6_numberOfTrailingZeros_0f7a4_62 _ _ _ _ ?_
    unfold B_J6_numberOfTrailingZeros_0f7a4_62
    refine br_t h.1 ?_
    rw [h.2, e]; exact hq
  rcases (by omega : g = 0 ∨ g = 1 ∨ g = 2 ∨ g = 3 ∨ g = 4 ∨ g = 5 ∨ g = 6) with rfl | rfl | rfl | rfl | rfl | rfl | rfl
  · subst e1
    exact br_f (by decide) hq
  · subst e1
    refine br_t (by decide) (br_t (by decide) (i_J6_numberOfTrailingZeros_0f7a4_34 _ _ _ _ ?_))
    unfold B_J6_numberOfTrailingZeros_0f7a4_34
    refine br_t (by decide) (i_J6_numberOfTrailingZeros_0f7a4_49 _ _ _ _ ?_)
    unfold B_J6_numberOfTrailingZeros_0f7a4_49
    exact br_t (by decide) (a62 _ _ (nI 1) ⟨by decide, by decide⟩ rfl)
  · subst e1
    refine br_t (by decide) (br_t (by decide) (i_J6_numberOfTrailingZeros_0f7a4_34 _ _ _ _ ?_))
    unfold B_J6_numberOfTrailingZeros_0f7a4_34
    refine br_t (by decide) (i_J6_numberOfTrailingZeros_0f7a4_49 _ _ _ _ ?_)
    unfold B_J6_numberOfTrailingZeros_0f7a4_49
    exact br_t (by decide) (a62 _ _ (nI 2) ⟨by decide, by decide⟩ rfl)
  · subst e1
    refine br_t (by decide) (br_t (by decide) (i_J6_numberOfTrailingZeros_0f7a4_34 _ _ _ _ ?_))
    unfold B_J6_numberOfTrailingZeros_0f7a4_34
    refine br_t (by decide) (i_J6_numberOfTrailingZeros_0f7a4_49 _ _ _ _ ?_)
    unfold B_J6_numberOfTrailingZeros_0f7a4_49
    refine br_t (by decide) (i_J6_numberOfTrailingZeros_0f7a4_62 _ _ _ _ ?_)
    unfold B_J6_numberOfTrailingZeros_0f7a4_62
    refine br_f (by decide) (fun v2 e2 => ?_)
    subst e2
    exact hq
  · subst e1
    refine br_t (by decide) (br_t (by decide) (i_J6_numberOfTrailingZeros_0f7a4_34 _ _ _ _ ?_))
    unfold B_J6_numberOfTrailingZeros_0f7a4_34
    refine br_t (by decide) (i_J6_numberOfTrailingZeros_0f7a4_49 _ _ _ _ ?_)
    unfold B_J6_numberOfTrailingZeros_0f7a4_49
    refine br_t (by decide) (i_J6_numberOfTrailingZeros_0f7a4_62 _ _ _ _ ?_)
    unfold B_J6_numberOfTrailingZeros_0f7a4_62
    refine br_f (by decide) (fun v2 e2 => ?_)
    subst e2
    exact hq
  · subst e1
    refine br_t (by decide) (br_t (by decide) (i_J6_numberOfTrailingZeros_0f7a4_34 _ _ _ _ ?_))
    unfold B_J6_numberOfTrailingZeros_0f7a4_34
    refine br_t (by decide) (i_J6_numberOfTrailingZeros_0f7a4_49 _ _ _ _ ?_)
    unfold B_J6_numberOfTrailingZeros_0f7a4_49
    refine br_f (by decide) (fun v2 e2 => ?_)
    subst e2
    exact a62 _ _ (nI 5) ⟨by decide, by decide⟩ rfl
  · subst e1
    refine br_t (by decide) (br_t (by decide) (i_J6_numberOfTrailingZeros_0f7a4_34 _ _ _ _ ?_))
    unfold B_J6_numberOfTrailingZeros_0f7a4_34
    refine br_t (by decide) (i_J6_numberOfTrailingZeros_0f7a4_49 _ _ _ _ ?_)
    unfold B_J6_numberOfTrailingZeros_0f7a4_49
    refine br_f (by decide) (fun v2 e2 => ?_)
    subst e2
    exact a62 _ _ (nI 6) ⟨by decide, by decide⟩ rfl
theorem q_dist : ∀ a b : Fin 10, (1 < (if 0 ≤ nI a.val - nI b.val then nI a.val - nI b.val else 0 - (nI a.val - nI b.val))) ↔ ¬ (a.val ≤ b.val + 1 ∧ b.val ≤ a.val + 1) := by decide +kernel
theorem q_dist2 : ∀ a b : Fin 10, (nI a.val - nI b.val).toInt = (a.val : Int) - b.val := by decide +kernel
set_option maxHeartbeats 4000000 in
set_option maxRecDepth 100000 in
theorem c_fit {h : Nat} {A : Nat → Nat} {M g o : Nat} (hs : StR σ h A) (hW : WFA A) (hM : M < 128) (hg : g < A 0) (ho : o < A 0) {Q : Int32 → St → Prop} (h1 : bi M o = true → isP A g o = true → Q 1 σ) (h0 : ¬ (bi M o = true ∧ isP A g o = true) → Q 0 σ) : V_X2_fit h (nI M) (nI g) (nI o) σ Q := by
  unfold V_X2_fit B_X2_fit_e
  have h7 := hW.2.1
  have hsm := hW.1.2.2.2.2.2.2.2.2
  have g9 := hW.2.2.2.2.2.2.2.2.2.2.2 g hg
  have o9 := hW.2.2.2.2.2.2.2.2.2.2.2 o ho
  have hm2 := Nat.mod_lt (M / 2 ^ o) (show 0 < 2 by omega)
  rw [q_bit (by omega) (by omega), nI_clamp (by omega), nI_clamp (by omega), hs.2.2.2.2.2.1 g hg, hs.2.2.2.2.2.1 o ho, hs.2.2.2.2.2.2.1 g hg (by omega), hs.2.2.2.2.2.2.1 o ho (by omega)]
  by_cases z : M / 2 ^ o % 2 = 1
  · refine fr_f (by rw [z]; rfl) ⟨vp_in_nI (by omega) (by omega), vp_in_nI (by omega) (by omega), ?_⟩
    by_cases y : A (22 + g) = A (22 + o)
    · refine fr_f (by rw [y]) ⟨vp_in_nI (by omega) (by omega), vp_in_nI (by omega) (by omega), ?_⟩
      have qd := q_dist ⟨A (30 + g), by omega⟩ ⟨A (30 + o), by omega⟩
      by_cases x : A (30 + g) ≤ A (30 + o) + 1 ∧ A (30 + o) ≤ A (30 + g) + 1
      · exact br_f (fun c => (qd.mp c) x) (h1 (decide_eq_true z) (decide_eq_true ⟨y, x⟩))
      · exact br_t (qd.mpr x) (h0 (fun q => x (of_decide_eq_true q.2).2))
    · exact fr_t (by rw [q_eq (hsm _) (hsm _)]; exact y) (h0 (fun q => y (of_decide_eq_true q.2).1))
  · exact fr_t (by rw [show (1 : Int32) = nI 1 from rfl, q_eq (by omega) (by omega)]; exact z) (h0 (fun q => z (of_decide_eq_true q.1)))
end O30

/-! pairs, in the class -/
def mi (c : Nat) : Int32 := if c = 0 then -1 else nI (c - 1)
def fsr (A : Nat → Nat) (s r g : Nat) : Nat → Nat → Nat
  | 0, _ => 0
  | d + 1, o => if bi r o = true ∧ isP A g o = true ∧ 1 + tt A (cl r o) = tt A s then o + 1 else fsr A s r g d (o + 1)
def fp (A : Nat → Nat) (s g : Nat) : Nat := if tt A (cl s g) = tt A s then 0 else fsr A s (cl s g) g (A 0 - (g + 1)) (g + 1)
def wo (s g c : Nat) : Nat := if c = 0 then cl s g else cl (cl s g) (c - 1)
def pt (A : Nat → Nat) (w : Nat) : Nat → Nat → Nat → Int32
  | 0, _, _ => -1
  | d + 1, g, s => if bi s g = true then (if g = w then mi (fp A s g) else if fp A s g = w + 1 then nI g else pt A w d (g + 1) (wo s g (fp A s g))) else pt A w d (g + 1) s
theorem fs_s {A : Nat → Nat} {s r g d o : Nat} : fsr A s r g (d + 1) o = if bi r o = true ∧ isP A g o = true ∧ 1 + tt A (cl r o) = tt A s then o + 1 else fsr A s r g d (o + 1) := rfl
theorem fs_b {A : Nat → Nat} {s r g : Nat} : ∀ d o, fsr A s r g d o ≤ o + d
  | 0, o => Nat.zero_le _
  | d + 1, o => by
    have := fs_b (A := A) (s := s) (r := r) (g := g) d (o + 1)
    rw [fs_s]
    split <;> omega
theorem fp_b {A : Nat → Nat} {s g : Nat} (hg : g < A 0) : fp A s g ≤ A 0 := by
  unfold fp
  split
  · omega
  · have := fs_b (A := A) (s := s) (r := cl s g) (g := g) (A 0 - (g + 1)) (g + 1)
    omega
theorem pt_s {A : Nat → Nat} {w d g s : Nat} : pt A w (d + 1) g s = if bi s g = true then (if g = w then mi (fp A s g) else if fp A s g = w + 1 then nI g else pt A w d (g + 1) (wo s g (fp A s g))) else pt A w d (g + 1) s := rfl
theorem mi_eq {c w : Nat} (hc : c < 1000) (hw : w < 1000) : (mi c = nI w) = (c = w + 1) := by
  unfold mi
  by_cases z : c = 0
  · rw [if_pos z]
    exact propext ⟨fun h => absurd h.symm (fun q => by rw [show (-1 : Int32) = -nI 1 from rfl, q_m1n (by omega)] at q; exact q), fun h => absurd h (by omega)⟩
  · rw [if_neg z, q_eq (by omega) (by omega)]
    exact propext ⟨fun h => by omega, fun h => by omega⟩
theorem mi_m1 {c : Nat} (hc : c < 1000) : (mi c = -1) = (c = 0) := by
  unfold mi
  by_cases z : c = 0
  · rw [if_pos z]
    exact propext ⟨fun _ => z, fun _ => rfl⟩
  · rw [if_neg z]
    exact propext ⟨fun h => by rw [show (-1 : Int32) = -nI 1 from rfl, q_m1n (by omega)] at h; exact h.elim, fun h => absurd h z⟩
theorem wo_le {s g c : Nat} : wo s g c ≤ s := by
  unfold wo
  split
  · exact cl_le
  · exact Nat.le_trans cl_le cl_le
theorem p2_7 {n : Nat} (h : n ≤ 7) : 2 ^ n ≤ 128 := by
  have := Nat.pow_le_pow_right (show 0 < 2 by omega) h
  exact this
section O31
variable {σ τ : St} {a1 a2 a3 a4 : Int32}
def Tb (σ : St) (c : Nat) (A : Nat → Nat) (s : Nat) : Prop := ∀ j, j < s → σ c j = nI (tt A j)
set_option maxHeartbeats 4000000 in
set_option maxRecDepth 100000 in
theorem c_count {h : Nat} {A : Nat → Nat} (hst : StR σ h A) (hh : h + 8 < 65) (hW : WFA A) {Q : St → Prop} (hq : ∀ σ', σ' 65 1 = nI (2 ^ A 0 - 1) → Tb σ' 66 A (2 ^ A 0) → (∀ q, q ≠ 65 → q ≠ 66 → σ' q = σ q) → Q σ') : V_X2_countAll h σ Q := by
  unfold V_X2_countAll B_X2_countAll_e
  have h7 := hW.2.1
  have hp7 := p2_7 h7
  have hp0 : 0 < 2 ^ A 0 := Nat.pow_pos (by omega)
  rw [hst.1, q_shl (by omega), show nI (2 ^ A 0) - 1 = nI (2 ^ A 0 - 1) from pk_sub (b := 1) (by omega)]
  intro s1 e1 s2 e2
  have loop : ∀ d s (σ1 : St), s + d = 2 ^ A 0 → 0 < s → σ1 65 1 = nI (2 ^ A 0 - 1) → Tb σ1 66 A s → (∀ q, q ≠ 65 → q ≠ 66 → σ1 q = σ q) → R_X2_countAll h Q 21 [nI s] [] σ1 := by
    intro d
    induction d with
    | zero =>
      intro s σ1 hs hs0 h1 hT hf
      refine i_X2_countAll_21 _ _ _ _ ?_
      unfold B_X2_countAll_21
      rw [(by omega : s = 2 ^ A 0)] at *
      rw [h1]
      exact ⟨fun _ => hq σ1 h1 hT hf, fun c => absurd (by rw [q_lt (by omega) (by omega)]; omega) c⟩
    | succ d ih =>
      intro s σ1 hs hs0 h1 hT hf
      refine i_X2_countAll_21 _ _ _ _ ?_
      unfold B_X2_countAll_21
      rw [h1]
      refine ⟨fun c => absurd (by rw [q_lt (by omega) (by omega)] at c; exact c) (by omega), fun _ => v_ntz (by omega) (by omega) (fun v2 e2 => ?_)⟩
      have l1 := lowb_1 (s := s) (by omega) (by omega)
      have l2 := lowb_2 (s := s) (by omega) (by omega)
      have l3 := cl_lt (by omega) l2
      have hts := tt_s (A := A) (s := s) (by omega) (by omega)
      rw [q_cl (by omega)] at e2
      subst e2
      refine ⟨vp_in_nI (by omega) (by omega), vp_in_nI (by omega) (by omega), fun s3 e3 => ?_⟩
      rw [nI_clamp (by omega), nI_clamp (by omega), hT _ l3] at e3
      have hlg : lowb s < A 0 := by
        have := Nat.ge_two_pow_of_testBit (by rw [← bi_tb]; exact l2 : s.testBit (lowb s) = true)
        exact (Nat.pow_lt_pow_iff_right (show 1 < 2 by omega)).mp (by omega)
      have hvl : vl A (tt A) s = vf A (tt A) (lowb s) (cl s (lowb s)) (A 0) := rfl
      rw [hvl] at hts
      generalize lowb s = g at *
      have vb : ∀ k, vf A (tt A) g (cl s g) k < 1000 := fun k => by
        have := vf_le (A := A) (t := tt A) (g := g) (r := cl s g) (b := 127) (fun j hj => by have := tt_b (A := A) (s := j) (by omega); omega) k
        omega
      have inner : ∀ e o (σ2 : St), o + e = A 0 → g < o → σ2 65 1 = nI (2 ^ A 0 - 1) → Tb σ2 66 A s → σ2 66 s = nI (vf A (tt A) g (cl s g) o) → (∀ q, q ≠ 65 → q ≠ 66 → σ2 q = σ q) → R_X2_countAll h Q 61 [nI s, nI g, nI (cl s g), nI o] [] σ2 := by
        intro e
        induction e with
        | zero =>
          intro o σ2 ho hgo h1' hT' hv hf'
          refine i_X2_countAll_61 _ _ _ _ _ _ _ ?_
          unfold B_X2_countAll_61
          have hs' : StR σ2 h A := hst.congr (fun q h1 h2 => hf' q (by omega) (by omega))
          rw [hs'.1, (by omega : o = A 0), nI_1] at *
          refine ⟨fun _ => ih (s + 1) σ2 (by omega) (by omega) h1' (fun j hj => ?_) hf', fun c => absurd (by rw [q_le (by omega) (by omega)]; omega) c⟩
          by_cases z : j = s
          · rw [z, hv, hts]
          · exact hT' j (by omega)
        | succ e ih2 =>
          intro o σ2 ho hgo h1' hT' hv hf'
          refine i_X2_countAll_61 _ _ _ _ _ _ _ ?_
          unfold B_X2_countAll_61
          have hs' : StR σ2 h A := hst.congr (fun q h1 h2 => hf' q (by omega) (by omega))
          have xs : vf A (tt A) g (cl s g) (o + 1) = if g < o ∧ bi (cl s g) o = true ∧ isP A g o = true then max (vf A (tt A) g (cl s g) o) (1 + tt A (cl (cl s g) o)) else vf A (tt A) g (cl s g) o := rfl
          have hcl : cl (cl s g) o ≤ cl s g := cl_le
          have hb1 := tt_b (A := A) (s := cl (cl s g) o) (by omega)
          have hb2 := vb o
          rw [hs'.1, nI_1 o]
          refine ⟨fun c => absurd (by rw [q_le (by omega) (by omega)] at c; exact c) (by omega), fun _ => c_fit hs' hW (by omega) (by omega) (by omega) (fun z1 z2 => ?_) (fun z => ?_)⟩
          · rw [if_pos ⟨hgo, z1, z2⟩] at xs
            rw [q_cl (by omega), nI_clamp (by omega), nI_clamp (by omega), hv, hT' (cl (cl s g) o) (by omega), show (1 : Int32) = nI 1 from rfl, nI_add]
            refine br_f (by decide) ⟨vp_in_nI (by omega) (by omega), vp_in_nI (by omega) (by omega), vp_in_nI (by omega) (by omega), fun s4 e4 => ?_⟩
            have em : (if nI (vf A (tt A) g (cl s g) o) < nI (1 + tt A (cl (cl s g) o)) then nI (1 + tt A (cl (cl s g) o)) else nI (vf A (tt A) g (cl s g) o)) = nI (vf A (tt A) g (cl s g) (o + 1)) := by
              rw [xs]
              by_cases y : vf A (tt A) g (cl s g) o < 1 + tt A (cl (cl s g) o)
              · rw [if_pos (by rw [q_lt (by omega) (by omega)]; exact y)]; exact congrArg nI (by omega)
              · rw [if_neg (by rw [q_lt (by omega) (by omega)]; exact y)]; exact congrArg nI (by omega)
            rw [em] at e4
            refine ih2 (o + 1) s4 (by omega) (by omega) (by rw [e4, us_ne (by omega)]; exact h1') (fun j hj => ?_) (by rw [e4, us_same, pk_us]) (fun q q1 q2 => by rw [e4, us_ne q2]; exact hf' q q1 q2)
            rw [e4, us_same, pk_un (by omega)]
            exact hT' j hj
          · rw [if_neg (fun q => z q.2)] at xs
            rw [← xs] at hv
            exact br_t rfl (ih2 (o + 1) σ2 (by omega) (by omega) h1' hT' hv hf')
      rw [nI_1]
      refine inner (A 0 - (g + 1)) (g + 1) s3 (by omega) (by omega) (by rw [e3, us_ne (by omega)]; exact h1) (fun j hj => ?_) (by rw [e3, us_same, pk_us, vf_lo _ (by omega)]) (fun q q1 q2 => by rw [e3, us_ne q2]; exact hf q q1 q2)
      rw [e3, us_same, pk_un (by omega)]
      exact hT j hj
  refine loop (2 ^ A 0 - 1) 1 s2 (by omega) (by omega) (by rw [e2, us_ne (by omega), e1, us_same, pk_us]) (fun j hj => ?_) (fun q q1 q2 => by rw [e2, us_ne q2, e1, us_ne q1])
  have : j = 0 := by omega
  subst this
  rw [e2, us_same, pk_us]
  rfl
set_option maxHeartbeats 4000000 in
set_option maxRecDepth 100000 in
theorem c_first {h : Nat} {A : Nat → Nat} {s g : Nat} (hst : StR σ h A) (hW : WFA A) (hT : Tb σ 66 A (2 ^ A 0)) (hs : s < 2 ^ A 0) (hg : g < A 0) {Q : Int32 → St → Prop} (hq : Q (mi (fp A s g)) σ) : V_X2_firstPartner h (nI s) (nI g) σ Q := by
  unfold V_X2_firstPartner B_X2_firstPartner_e
  have h7 := hW.2.1
  have hp7 := p2_7 h7
  have hcl : cl s g ≤ s := cl_le
  have b1 := tt_b (A := A) (s := s) (by omega)
  have b2 := tt_b (A := A) (s := cl s g) (by omega)
  intro v1 e1
  rw [q_cl (by omega)] at e1
  subst e1
  refine ⟨vp_in_nI (by omega) (by omega), vp_in_nI (by omega) (by omega), ?_⟩
  rw [nI_clamp (by omega), nI_clamp (by omega), hT _ (by omega), hT _ hs, q_eq (by omega) (by omega)]
  unfold fp at hq
  by_cases z : tt A (cl s g) = tt A s
  · rw [if_pos z] at hq
    exact fr_f z hq
  · rw [if_neg z] at hq
    refine fr_t z ?_
    have loop : ∀ d o, o + d = A 0 → Q (mi (fsr A s (cl s g) g d o)) σ → R_X2_firstPartner h (nI s) (nI g) Q 32 [nI (cl s g), nI o] [] σ := by
      intro d
      induction d with
      | zero =>
        intro o ho hq'
        refine i_X2_firstPartner_32 _ _ _ _ _ _ _ ?_
        unfold B_X2_firstPartner_32
        rw [hst.1]
        exact ⟨fun _ => hq', fun c => absurd (by rw [q_le (by omega) (by omega)]; omega) c⟩
      | succ d ih =>
        intro o ho hq'
        refine i_X2_firstPartner_32 _ _ _ _ _ _ _ ?_
        unfold B_X2_firstPartner_32
        have hc2 : cl (cl s g) o ≤ cl s g := cl_le
        have b3 := tt_b (A := A) (s := cl (cl s g) o) (by omega)
        rw [fs_s] at hq'
        rw [hst.1, nI_1]
        refine ⟨fun c => absurd (by rw [q_le (by omega) (by omega)] at c; exact c) (by omega), fun _ => c_fit hst hW (by omega) hg (by omega) (fun z1 z2 => br_f (by decide) ?_) (fun y => br_t rfl ?_)⟩
        · rw [q_cl (by omega), nI_clamp (by omega), nI_clamp (by omega), hT _ (by omega), hT _ hs, show (1 : Int32) = nI 1 from rfl, nI_add, q_eq (by omega) (by omega)]
          refine ⟨vp_in_nI (by omega) (by omega), vp_in_nI (by omega) (by omega), ?_⟩
          by_cases y : 1 + tt A (cl (cl s g) o) = tt A s
          · rw [if_pos ⟨z1, z2, y⟩] at hq'
            exact fr_f y hq'
          · rw [if_neg (fun q => y q.2.2)] at hq'
            exact fr_t y (ih (o + 1) (by omega) hq')
        · rw [if_neg (fun q => y ⟨q.1, q.2.1⟩)] at hq'
          exact ih (o + 1) (by omega) hq'
    rw [nI_1]
    exact loop (A 0 - (g + 1)) (g + 1) (by omega) hq
set_option maxHeartbeats 4000000 in
set_option maxRecDepth 100000 in
theorem c_partner {h : Nat} {A : Nat → Nat} {w : Nat} (hst : StR σ h A) (hW : WFA A) (hT : Tb σ 66 A (2 ^ A 0)) (h65 : σ 65 1 = nI (2 ^ A 0 - 1)) (hw : w < A 0) {Q : Int32 → St → Prop} (hq : Q (pt A w (A 0) 0 (2 ^ A 0 - 1)) σ) : V_X2_partner h (nI w) σ Q := by
  unfold V_X2_partner B_X2_partner_e
  have h7 := hW.2.1
  have hp7 := p2_7 h7
  have hp0 : 0 < 2 ^ A 0 := Nat.pow_pos (by omega)
  have loop : ∀ d g s, g + d = A 0 → s < 2 ^ A 0 → Q (pt A w d g s) σ → R_X2_partner h (nI w) Q 8 [nI s, nI g] [] σ := by
    intro d
    induction d with
    | zero =>
      intro g s hg hs hq'
      refine i_X2_partner_8 _ _ _ _ _ _ ?_
      unfold B_X2_partner_8
      rw [hst.1]
      exact ⟨fun _ => hq', fun c => absurd (by rw [q_le (by omega) (by omega)]; omega) c⟩
    | succ d ih =>
      intro g s hg hs hq'
      refine i_X2_partner_8 _ _ _ _ _ _ ?_
      unfold B_X2_partner_8
      have hm2 := Nat.mod_lt (s / 2 ^ g) (show 0 < 2 by omega)
      rw [pt_s] at hq'
      rw [hst.1, q_bit (by omega) (by omega), nI_1]
      refine ⟨fun c => absurd (by rw [q_le (by omega) (by omega)] at c; exact c) (by omega), fun _ => ?_⟩
      by_cases z : s / 2 ^ g % 2 = 1
      · have zb : bi s g = true := decide_eq_true z
        rw [if_pos zb] at hq'
        have hfb := fp_b (A := A) (s := s) (show g < A 0 by omega)
        refine fr_f (by rw [z]; rfl) (c_first hst hW hT hs (by omega) ?_)
        rw [q_eq (by omega) (by omega), mi_eq (by omega) (by omega)]
        by_cases y : g = w
        · rw [if_pos y] at hq'
          exact fr_f y hq'
        · rw [if_neg y] at hq'
          refine fr_t y ?_
          by_cases x : fp A s g = w + 1
          · rw [if_pos x] at hq'
            exact fr_f x hq'
          · rw [if_neg x] at hq'
            refine fr_t x ?_
            unfold V_X2_without B_X2_without_e
            intro v1 e1
            rw [q_cl (by omega)] at e1
            subst e1
            rw [mi_m1 (by omega)]
            have hwl := wo_le (s := s) (g := g) (c := fp A s g)
            have nx := ih (g + 1) _ (by omega) (show wo s g (fp A s g) < 2 ^ A 0 by omega) hq'
            unfold wo at nx
            by_cases v : fp A s g = 0
            · rw [if_pos v] at nx
              exact fr_f v nx
            · rw [if_neg v] at nx
              refine fr_t v ?_
              unfold mi
              rw [if_neg v, q_cl (by omega)]
              exact nx
      · have zb : ¬ bi s g = true := fun c => z (of_decide_eq_true c)
        rw [if_neg zb] at hq'
        exact fr_t (by rw [show (1 : Int32) = nI 1 from rfl, q_eq (by omega) (by omega)]; exact z) (ih (g + 1) s (by omega) hs hq')
  rw [h65]
  exact loop (A 0) 0 (2 ^ A 0 - 1) (by omega) (by omega) hq
end O31

theorem fs_p {A : Nat → Nat} {s r g : Nat} : ∀ d o, fsr A s r g d o ≠ 0 → bi r (fsr A s r g d o - 1) = true
  | 0, _, h => absurd rfl h
  | d + 1, o, h => by
    rw [fs_s] at *
    by_cases c : bi r o = true ∧ isP A g o = true ∧ 1 + tt A (cl r o) = tt A s
    · rw [if_pos c]
      exact c.1
    · rw [if_neg c] at *
      exact fs_p d (o + 1) h
theorem fp_p {A : Nat → Nat} {s g : Nat} (h : fp A s g ≠ 0) : bi (cl s g) (fp A s g - 1) = true := by
  unfold fp at *
  by_cases c : tt A (cl s g) = tt A s
  · rw [if_pos c] at h; exact absurd rfl h
  · rw [if_neg c] at *
    exact fs_p _ _ h
theorem bi_wo {s g c w : Nat} (hw : w < 32) : bi (wo s g c) w = true ↔ bi s w = true ∧ w ≠ g ∧ (c ≠ 0 → w ≠ c - 1) := by
  unfold wo
  by_cases z : c = 0
  · rw [if_pos z, bi_cl hw]
    exact ⟨fun h => ⟨h.1, h.2, fun q => absurd z q⟩, fun h => ⟨h.1, h.2.1⟩⟩
  · rw [if_neg z, bi_cl hw, bi_cl hw]
    exact ⟨fun h => ⟨h.1.1, h.1.2, fun _ => h.2⟩, fun h => ⟨⟨h.1, h.2.1⟩, h.2.2 z⟩⟩
section O33
variable {σ τ : St} {a1 a2 a3 a4 : Int32}
end O33

