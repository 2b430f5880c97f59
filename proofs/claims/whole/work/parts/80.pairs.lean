/-! pairs: what is told, in numbers -/
def isP (A : Nat → Nat) (g o : Nat) : Bool := decide (A (22 + g) = A (22 + o) ∧ A (30 + g) ≤ A (30 + o) + 1 ∧ A (30 + o) ≤ A (30 + g) + 1)
def cl (s g : Nat) : Nat := s &&& (2 ^ g ^^^ (2 ^ 32 - 1))
def lowb (s : Nat) : Nat := if s % 2 = 1 then 0 else if s / 2 % 2 = 1 then 1 else if s / 4 % 2 = 1 then 2 else if s / 8 % 2 = 1 then 3 else if s / 16 % 2 = 1 then 4 else if s / 32 % 2 = 1 then 5 else 6
theorem bi_tb {s g : Nat} : bi s g = s.testBit g := by
  unfold bi
  rw [Nat.testBit_eq_decide_div_mod_eq]
theorem bi_cl {s g o : Nat} (ho : o < 32) : bi (cl s g) o = true ↔ bi s o = true ∧ o ≠ g := by
  unfold cl
  rw [bi_tb, bi_tb, tb_and, tb_clr ho]
  exact ⟨fun h => ⟨h.1, fun e => h.2 e.symm⟩, fun h => ⟨h.1, fun e => h.2 e.symm⟩⟩
theorem cl_le {s g : Nat} : cl s g ≤ s := Nat.and_le_left
theorem cl_lt {s g : Nat} (hg : g < 32) (h : bi s g = true) : cl s g < s := by
  have h1 := cl_le (s := s) (g := g)
  by_cases e : cl s g = s
  · have := (bi_cl (s := s) hg).mp (e.symm ▸ h)
    exact absurd rfl this.2
  · omega
theorem bi_all {n j : Nat} : bi (2 ^ n - 1) j = true ↔ j < n := by rw [bi_tb]; exact tb_all
theorem lowb_f : ∀ s : Fin 128, s.val ≠ 0 → lowb s.val ≤ 6 ∧ bi s.val (lowb s.val) = true ∧ ∀ j : Fin 7, j.val < lowb s.val → bi s.val j.val = false := by decide +kernel
theorem lowb_1 {s : Nat} (hs : s < 128) (h0 : s ≠ 0) : lowb s ≤ 6 := (lowb_f ⟨s, hs⟩ h0).1
theorem lowb_2 {s : Nat} (hs : s < 128) (h0 : s ≠ 0) : bi s (lowb s) = true := (lowb_f ⟨s, hs⟩ h0).2.1
theorem lowb_3 {s j : Nat} (hs : s < 128) (h0 : s ≠ 0) (hj : j < lowb s) : bi s j = false := (lowb_f ⟨s, hs⟩ h0).2.2 ⟨j, by have := lowb_1 hs h0; omega⟩ hj
theorem lowb_e {s g : Nat} (hs : s < 128) (hg : bi s g = true) (hl : ∀ j, j < g → ¬ bi s j = true) : lowb s = g := by
  have h0 : s ≠ 0 := fun e => by rw [e] at hg; exact bi_0 hg
  by_cases c : lowb s < g
  · exact absurd (lowb_2 hs h0) (hl _ c)
  · by_cases c2 : g < lowb s
    · rw [lowb_3 hs h0 c2] at hg
      exact absurd hg (by decide)
    · omega
theorem q_cl {s g : Nat} (hg : g < 31) : nI s &&& (((1 : Int32) <<< (nI g &&& 31)) ^^^ (-1)) = nI (cl s g) := by
  rw [q_shl hg, show (-1 : Int32) = nI (2 ^ 32 - 1) from by decide, q_xr, q_and]
  rfl
/-- the most pairs as the others come -/
def vf (A t : Nat → Nat) (g r : Nat) : Nat → Nat
  | 0 => t r
  | o + 1 => if g < o ∧ bi r o = true ∧ isP A g o = true then max (vf A t g r o) (1 + t (cl r o)) else vf A t g r o
def vl (A t : Nat → Nat) (s : Nat) : Nat := vf A t (lowb s) (cl s (lowb s)) (A 0)
def tab (A : Nat → Nat) : Nat → Nat → Nat
  | 0 => fun _ => 0
  | s + 1 => upN (tab A s) (s + 1) (vl A (tab A s) (s + 1))
def tt (A : Nat → Nat) (s : Nat) : Nat := tab A s s
theorem vf_s {A t : Nat → Nat} {g r o : Nat} : vf A t g r (o + 1) = if g < o ∧ bi r o = true ∧ isP A g o = true then max (vf A t g r o) (1 + t (cl r o)) else vf A t g r o := rfl
theorem vf_c {A t t' : Nat → Nat} {g r : Nat} (h : ∀ j, j ≤ r → t j = t' j) : ∀ k, vf A t g r k = vf A t' g r k
  | 0 => h r (Nat.le_refl _)
  | k + 1 => by rw [vf_s, vf_s, vf_c h k, h _ cl_le]
theorem vf_lo {A t : Nat → Nat} {g r : Nat} : ∀ k, k ≤ g + 1 → vf A t g r k = t r
  | 0, _ => rfl
  | k + 1, h => by rw [vf_s, if_neg (by omega)]; exact vf_lo k (by omega)
theorem vf_t {A t : Nat → Nat} {g r : Nat} : ∀ k, t r ≤ vf A t g r k
  | 0 => Nat.le_refl _
  | k + 1 => by
    have := vf_t (A := A) (t := t) (g := g) (r := r) k
    rw [vf_s]
    split <;> omega
theorem vf_ge {A t : Nat → Nat} {g r o : Nat} (h1 : g < o) (h2 : bi r o = true) (h3 : isP A g o = true) : ∀ k, o < k → 1 + t (cl r o) ≤ vf A t g r k
  | 0, h => absurd h (by omega)
  | k + 1, h => by
    rw [vf_s]
    by_cases e : o = k
    · subst e
      rw [if_pos ⟨h1, h2, h3⟩]
      omega
    · have := vf_ge (A := A) (t := t) h1 h2 h3 k (by omega)
      split <;> omega
theorem vf_w {A t : Nat → Nat} {g r : Nat} : ∀ k, vf A t g r k = t r ∨ ∃ o, g < o ∧ o < k ∧ bi r o = true ∧ isP A g o = true ∧ vf A t g r k = 1 + t (cl r o)
  | 0 => Or.inl rfl
  | k + 1 => by
    have ih := vf_w (A := A) (t := t) (g := g) (r := r) k
    rw [vf_s]
    by_cases c : g < k ∧ bi r k = true ∧ isP A g k = true
    · rw [if_pos c]
      by_cases m : vf A t g r k ≤ 1 + t (cl r k)
      · exact Or.inr ⟨k, c.1, by omega, c.2.1, c.2.2, Nat.max_eq_right m⟩
      · rw [Nat.max_eq_left (by omega)]
        rcases ih with e | ⟨o, e1, e2, e3, e4, e5⟩
        · exact Or.inl e
        · exact Or.inr ⟨o, e1, by omega, e3, e4, e5⟩
    · rw [if_neg c]
      rcases ih with e | ⟨o, e1, e2, e3, e4, e5⟩
      · exact Or.inl e
      · exact Or.inr ⟨o, e1, by omega, e3, e4, e5⟩
theorem vf_le {A t : Nat → Nat} {g r b : Nat} (h : ∀ j, j ≤ r → t j ≤ b) : ∀ k, vf A t g r k ≤ b + 1
  | 0 => Nat.le_trans (h r (Nat.le_refl _)) (by omega)
  | k + 1 => by
    have ih := vf_le (A := A) (t := t) (g := g) (r := r) h k
    have := h _ (cl_le (s := r) (g := k))
    rw [vf_s]
    split <;> omega
theorem vl_c {A t t' : Nat → Nat} {s : Nat} (hs : s < 128) (h0 : s ≠ 0) (h : ∀ j, j < s → t j = t' j) : vl A t s = vl A t' s := by
  have := cl_lt (by have := lowb_1 hs h0; omega) (lowb_2 hs h0)
  exact vf_c (fun j hj => h j (by omega)) _
theorem tab_le {A : Nat → Nat} {j : Nat} : ∀ s, j ≤ s → tab A s j = tt A j
  | 0, h => by
    have : j = 0 := by omega
    subst this; rfl
  | s + 1, h => by
    by_cases e : j = s + 1
    · subst e; rfl
    · show upN (tab A s) (s + 1) _ j = _
      rw [upN_n e]
      exact tab_le s (by omega)
theorem tt_0 {A : Nat → Nat} : tt A 0 = 0 := rfl
theorem tt_s {A : Nat → Nat} {s : Nat} (hs : s < 128) (h0 : s ≠ 0) : tt A s = vl A (tt A) s := by
  obtain ⟨k, rfl⟩ : ∃ k, s = k + 1 := ⟨s - 1, by omega⟩
  show upN (tab A k) (k + 1) (vl A (tab A k) (k + 1)) (k + 1) = _
  rw [upN_s]
  exact vl_c hs h0 (fun j hj => tab_le k (by omega))
theorem tt_le {A : Nat → Nat} : ∀ n s, s ≤ n → s < 128 → tt A s ≤ s
  | 0, s, h, _ => by
    have : s = 0 := by omega
    subst this; exact Nat.le_refl _
  | n + 1, s, h, h1 => by
    by_cases h0 : s = 0
    · subst h0; exact Nat.le_refl _
    · rw [tt_s h1 h0]
      have l := cl_lt (by have := lowb_1 h1 h0; omega) (lowb_2 h1 h0)
      have : ∀ j, j ≤ cl s (lowb s) → tt A j ≤ cl s (lowb s) := fun j hj => Nat.le_trans (tt_le n j (by omega) (by omega)) hj
      exact Nat.le_trans (vf_le this _) (by omega)
theorem tt_b {A : Nat → Nat} {s : Nat} (h : s < 128) : tt A s < 128 := Nat.lt_of_le_of_lt (tt_le s s (Nat.le_refl _) h) h
section O30
variable {σ τ : St} {a1 a2 a3 a4 : Int32}
theorem q_ntz : ∀ s : Fin 128, s.val ≠ 0 → (nI s.val ^^^ (-1)) &&& (nI s.val - 1) = nI (2 ^ lowb s.val - 1) := by decide +kernel
set_option maxHeartbeats 4000000 in
set_option maxRecDepth 100000 in
theorem v_ntz {s : Nat} (hs : s < 128) (h0 : s ≠ 0) {Q : Int32 → St → Prop} (hq : Q (nI (lowb s)) σ) : V_J6_numberOfTrailingZeros_0f7a4 (nI s) σ Q := by
  unfold V_J6_numberOfTrailingZeros_0f7a4 B_J6_numberOfTrailingZeros_0f7a4_e
  intro v1 e1
  rw [show (nI s ^^^ (-1)) &&& (nI s - 1) = nI (2 ^ lowb s - 1) from q_ntz ⟨s, hs⟩ h0] at e1
  have h6 := lowb_1 hs h0
  generalize lowb s = g at *
  have a62 : ∀ x y r : Int32, (x ≤ 4 ∧ y + (x.toUInt32 >>> ((1 : Int32).toUInt32 &&& Int32.toUInt32 31)).toInt32 = r) → r = nI g → R_J6_numberOfTrailingZeros_0f7a4 Q 62 [x, y] [] σ := fun x y r h e => by
    refine i_J6_numberOfTrailingZeros_0f7a4_62 _ _ _ _ ?_
    unfold B_J6_numberOfTrailingZeros_0f7a4_62
    refine br_t h.1 ?_
    rw [h.2, e]; exact hq
  rcases (by omega : g = 0 ∨ g = 1 ∨ g = 2 ∨ g = 3 ∨ g = 4 ∨ g = 5 ∨ g = 6) with rfl | rfl | rfl | rfl | rfl | rfl | rfl
  · subst e1
    exact br_f (by decide) hq
  · subst e1
    refine br_t (by decide) (br_t (by decide) (i_J6_numberOfTrailingZeros_0f7a4_34 _ _ _ _ ?_))
    unfold B_J6_numberOfTrailingZeros_0f7a4_34
    refine br_t (by decide) (i_J6_numberOfTrailingZeros_0f7a4_49 _ _ _ _ ?_)
    unfold B_J6_numberOfTrailingZeros_0f7a4_49
    exact br_t (by decide) (a62 _ _ (nI 1) ⟨by decide, by decide⟩ rfl)
  · subst e1
    refine br_t (by decide) (br_t (by decide) (i_J6_numberOfTrailingZeros_0f7a4_34 _ _ _ _ ?_))
    unfold B_J6_numberOfTrailingZeros_0f7a4_34
    refine br_t (by decide) (i_J6_numberOfTrailingZeros_0f7a4_49 _ _ _ _ ?_)
    unfold B_J6_numberOfTrailingZeros_0f7a4_49
    exact br_t (by decide) (a62 _ _ (nI 2) ⟨by decide, by decide⟩ rfl)
  · subst e1
    refine br_t (by decide) (br_t (by decide) (i_J6_numberOfTrailingZeros_0f7a4_34 _ _ _ _ ?_))
    unfold B_J6_numberOfTrailingZeros_0f7a4_34
    refine br_t (by decide) (i_J6_numberOfTrailingZeros_0f7a4_49 _ _ _ _ ?_)
    unfold B_J6_numberOfTrailingZeros_0f7a4_49
    refine br_t (by decide) (i_J6_numberOfTrailingZeros_0f7a4_62 _ _ _ _ ?_)
    unfold B_J6_numberOfTrailingZeros_0f7a4_62
    refine br_f (by decide) (fun v2 e2 => ?_)
    subst e2
    exact hq
  · subst e1
    refine br_t (by decide) (br_t (by decide) (i_J6_numberOfTrailingZeros_0f7a4_34 _ _ _ _ ?_))
    unfold B_J6_numberOfTrailingZeros_0f7a4_34
    refine br_t (by decide) (i_J6_numberOfTrailingZeros_0f7a4_49 _ _ _ _ ?_)
    unfold B_J6_numberOfTrailingZeros_0f7a4_49
    refine br_t (by decide) (i_J6_numberOfTrailingZeros_0f7a4_62 _ _ _ _ ?_)
    unfold B_J6_numberOfTrailingZeros_0f7a4_62
    refine br_f (by decide) (fun v2 e2 => ?_)
    subst e2
    exact hq
  · subst e1
    refine br_t (by decide) (br_t (by decide) (i_J6_numberOfTrailingZeros_0f7a4_34 _ _ _ _ ?_))
    unfold B_J6_numberOfTrailingZeros_0f7a4_34
    refine br_t (by decide) (i_J6_numberOfTrailingZeros_0f7a4_49 _ _ _ _ ?_)
    unfold B_J6_numberOfTrailingZeros_0f7a4_49
    refine br_f (by decide) (fun v2 e2 => ?_)
    subst e2
    exact a62 _ _ (nI 5) ⟨by decide, by decide⟩ rfl
  · subst e1
    refine br_t (by decide) (br_t (by decide) (i_J6_numberOfTrailingZeros_0f7a4_34 _ _ _ _ ?_))
    unfold B_J6_numberOfTrailingZeros_0f7a4_34
    refine br_t (by decide) (i_J6_numberOfTrailingZeros_0f7a4_49 _ _ _ _ ?_)
    unfold B_J6_numberOfTrailingZeros_0f7a4_49
    refine br_f (by decide) (fun v2 e2 => ?_)
    subst e2
    exact a62 _ _ (nI 6) ⟨by decide, by decide⟩ rfl
theorem q_dist : ∀ a b : Fin 10, (1 < (if 0 ≤ nI a.val - nI b.val then nI a.val - nI b.val else 0 - (nI a.val - nI b.val))) ↔ ¬ (a.val ≤ b.val + 1 ∧ b.val ≤ a.val + 1) := by decide +kernel
theorem q_dist2 : ∀ a b : Fin 10, (nI a.val - nI b.val).toInt = (a.val : Int) - b.val := by decide +kernel
set_option maxHeartbeats 4000000 in
set_option maxRecDepth 100000 in
theorem c_fit {h : Nat} {A : Nat → Nat} {M g o : Nat} (hs : StR σ h A) (hW : WFA A) (hM : M < 128) (hg : g < A 0) (ho : o < A 0) {Q : Int32 → St → Prop} (h1 : bi M o = true → isP A g o = true → Q 1 σ) (h0 : ¬ (bi M o = true ∧ isP A g o = true) → Q 0 σ) : V_X2_fit h (nI M) (nI g) (nI o) σ Q := by
  unfold V_X2_fit B_X2_fit_e
  have h7 := hW.2.1
  have hsm := hW.1.2.2.2.2.2.2.2.2
  have g9 := hW.2.2.2.2.2.2.2.2.2.2.2 g hg
  have o9 := hW.2.2.2.2.2.2.2.2.2.2.2 o ho
  have hm2 := Nat.mod_lt (M / 2 ^ o) (show 0 < 2 by omega)
  rw [q_bit (by omega) (by omega), nI_clamp (by omega), nI_clamp (by omega), hs.2.2.2.2.2.1 g hg, hs.2.2.2.2.2.1 o ho, hs.2.2.2.2.2.2.1 g hg (by omega), hs.2.2.2.2.2.2.1 o ho (by omega)]
  by_cases z : M / 2 ^ o % 2 = 1
  · refine fr_f (by rw [z]; rfl) ⟨vp_in_nI (by omega) (by omega), vp_in_nI (by omega) (by omega), ?_⟩
    by_cases y : A (22 + g) = A (22 + o)
    · refine fr_f (by rw [y]) ⟨vp_in_nI (by omega) (by omega), vp_in_nI (by omega) (by omega), ?_⟩
      have qd := q_dist ⟨A (30 + g), by omega⟩ ⟨A (30 + o), by omega⟩
      by_cases x : A (30 + g) ≤ A (30 + o) + 1 ∧ A (30 + o) ≤ A (30 + g) + 1
      · exact br_f (fun c => (qd.mp c) x) (h1 (decide_eq_true z) (decide_eq_true ⟨y, x⟩))
      · exact br_t (qd.mpr x) (h0 (fun q => x (of_decide_eq_true q.2).2))
    · exact fr_t (by rw [q_eq (hsm _) (hsm _)]; exact y) (h0 (fun q => y (of_decide_eq_true q.2).1))
  · exact fr_t (by rw [show (1 : Int32) = nI 1 from rfl, q_eq (by omega) (by omega)]; exact z) (h0 (fun q => z (of_decide_eq_true q.1)))
set_option maxHeartbeats 4000000 in
set_option maxRecDepth 100000 in
theorem m_isPair {A : Nat → Nat} {g o : Nat} (hR : RowN τ 1 181 A) (hW : WFA A) (hg : g < A 0) (ho : o < A 0) {Q : Int32 → St → Prop} (h1 : isP A g o = true → Q 1 τ) (h0 : ¬ isP A g o = true → Q 0 τ) : V_X11_isPair (nI g) (nI o) τ Q := by
  unfold V_X11_isPair B_X11_isPair_e
  have h7 := hW.2.1
  have hsm := hW.1.2.2.2.2.2.2.2.2
  have g9 := hW.2.2.2.2.2.2.2.2.2.2.2 g hg
  have o9 := hW.2.2.2.2.2.2.2.2.2.2.2 o ho
  have ee : ∀ b j, b + j < 181 → vp_in (nI b + nI j) 181 ∧ τ 1 (nI b + nI j).toNatClampNeg = nI (A (b + j)) := fun b j hj => by
    rw [nI_add, nI_clamp (by omega)]
    exact ⟨vp_in_nI (by omega) (by omega), hR _ hj⟩
  have x1 := ee 30 g (by omega)
  have x2 := ee 30 o (by omega)
  have x3 := ee 22 g (by omega)
  have x4 := ee 22 o (by omega)
  refine ⟨x1.1, x2.1, fun v1 e1 => ⟨x3.1, x4.1, ?_⟩⟩
  rw [show τ 1 (30 + nI g).toNatClampNeg = _ from x1.2, show τ 1 (30 + nI o).toNatClampNeg = _ from x2.2] at e1
  rw [show τ 1 (22 + nI g).toNatClampNeg = _ from x3.2, show τ 1 (22 + nI o).toNatClampNeg = _ from x4.2]
  have qd := q_dist2 ⟨A (30 + g), by omega⟩ ⟨A (30 + o), by omega⟩
  have qd' : v1.toInt = (A (30 + g) : Int) - A (30 + o) := by rw [e1]; exact qd
  by_cases y : A (22 + g) = A (22 + o)
  · refine fr_f (by rw [y]) ?_
    by_cases x : A (30 + g) ≤ A (30 + o) + 1 ∧ A (30 + o) ≤ A (30 + g) + 1
    · exact mw1 (l := -1) (u := 1) ⟨by omega, by omega⟩ (by decide) (by decide) (br_f (by decide) (h1 (decide_eq_true ⟨y, x⟩)))
    · exact mw0 (l := -1) (u := 1) (fun k => x ⟨by have := k.2; omega, by have := k.1; omega⟩) (by decide) (by decide) (br_t rfl (h0 (fun q => x (of_decide_eq_true q).2)))
  · exact fr_t (by rw [q_eq (hsm _) (hsm _)]; exact y) (h0 (fun q => y (of_decide_eq_true q).1))
end O30
