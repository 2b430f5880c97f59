/-! the kinds that fit what was told -/
/-- what a kind says: of a glove (1) or of a crossing (0) -/
def sy (w k h n : Nat) : Nat := if w = 0 then lA k h n else gA k h n
def fl (A : Nat → Nat) (base w who k : Nat) : Nat → Bool
  | 0 => true
  | r + 1 => if fl A base w who k r = true then (if A (base + 4 * r) = who then decide (sy w k (A (base + 4 * r + 1)) (A (base + 4 * r + 2)) = A (base + 4 * r + 3)) else true) else false
def km (A : Nat → Nat) (base w who n : Nat) : Nat → Int32
  | 0 => 0
  | k + 1 => if fl A base w who k n = true then km A base w who n k ||| ((1 : Int32) <<< (nI k &&& 31)) else km A base w who n k
def fi (b : Bool) : Int32 := if b = true then 1 else 0
theorem sy_le {w k h n : Nat} (hn : n ≤ 8) : sy w k h n ≤ 8 := by
  unfold sy
  have := gA_le (k := k) (h := h) (w := n)
  have := lA_le (k := k) (h := h) hn
  split <;> omega
section O20
variable {σ τ : St} {a1 a2 a3 a4 : Int32}
theorem v_says {w k h n : Nat} (hw : w ≤ 1) (hk : k ≤ 5) (hh : h ≤ 99) (hn : w = 0 → n ≤ 8) (hn' : w = 1 → n ≤ 4) {Q : Int32 → St → Prop} (hq : Q (nI (sy w k h n)) σ) : V_X1_says (nI w) (nI k) (nI h) (nI n) σ Q := by
  unfold V_X1_says B_X1_says_e
  unfold sy at hq
  rcases (by omega : w = 0 ∨ w = 1) with rfl | rfl
  · exact br_t rfl (v_letOver hk (by omega) (hn rfl) hq)
  · exact br_f (by decide) (v_spikesGone hk (by omega) (hn' rfl) hq)
set_option maxHeartbeats 4000000 in
set_option maxRecDepth 100000 in
theorem c_kinds {A : Nat → Nat} {q cn base w who : Nat} (hf : FoR σ q A cn base) (hn : A cn ≤ 6) (hs : Sm A) (hw : w ≤ 1) (hwho : who < 1000) (hb : ∀ r, r < A cn → A (base + 4 * r + 1) ≤ 99 ∧ (w = 0 → A (base + 4 * r + 2) ≤ 8) ∧ (w = 1 → A (base + 4 * r + 2) ≤ 4)) {Q : Int32 → St → Prop} (hq : Q (km A base w who (A cn) 6) σ) : V_X10_kindsThatFit q (nI who) (nI w) σ Q := by
  unfold V_X10_kindsThatFit B_X10_kindsThatFit_e
  have loop : ∀ d k, k + d = 6 → R_X10_kindsThatFit q (nI who) (nI w) Q 5 [km A base w who (A cn) k, nI k] [] σ := by
    intro d
    induction d with
    | zero =>
      intro k hk
      refine i_X10_kindsThatFit_5 _ _ _ _ _ _ _ ?_
      unfold B_X10_kindsThatFit_5
      rw [(by omega : k = 6)]
      exact ⟨fun _ => hq, fun c => absurd (by decide) c⟩
    | succ d ih =>
      intro k hk
      refine i_X10_kindsThatFit_5 _ _ _ _ _ _ _ ?_
      unfold B_X10_kindsThatFit_5
      refine ⟨fun c => absurd (by rw [show (6 : Int32) = nI 6 from rfl, q_le (by omega) (by omega)] at c; exact c) (by omega), fun _ => ?_⟩
      have inner : ∀ d2 r, r + d2 = A cn → R_X10_kindsThatFit q (nI who) (nI w) Q 18 [km A base w who (A cn) k, nI k, fi (fl A base w who k r), nI r] [] σ := by
        intro d2
        induction d2 with
        | zero =>
          intro r hr
          refine i_X10_kindsThatFit_18 _ _ _ _ _ _ _ _ _ ?_
          unfold B_X10_kindsThatFit_18
          rw [hf.1, (by omega : r = A cn)]
          refine ⟨fun _ => ?_, fun c => absurd (by rw [q_le (by omega) (by omega)]; omega) c⟩
          have em : km A base w who (A cn) (k + 1) = if fl A base w who k (A cn) = true then km A base w who (A cn) k ||| ((1 : Int32) <<< (nI k &&& 31)) else km A base w who (A cn) k := rfl
          rw [nI_1]
          unfold fi
          by_cases z : fl A base w who k (A cn) = true
          · rw [if_pos z] at em ⊢
            refine br_f (by decide) (fun v1 e1 => ?_)
            rw [e1, ← em]
            exact ih (k + 1) (by omega)
          · rw [if_neg z] at em ⊢
            refine br_t rfl ?_
            rw [← em]
            exact ih (k + 1) (by omega)
        | succ d2 ih2 =>
          intro r hr
          refine i_X10_kindsThatFit_18 _ _ _ _ _ _ _ _ _ ?_
          unfold B_X10_kindsThatFit_18 V_X6_cell B_X6_cell_e
          obtain ⟨b1, b2, b3⟩ := hb r (by omega)
          have cell : ∀ j, j < 4 → vp_in (nI r * 4 + nI j) 24 ∧ σ (q + 1) (nI r * 4 + nI j).toNatClampNeg = nI (A (base + 4 * r + j)) := fun j hj => by
            have e : nI r * 4 + nI j = nI (4 * r + j) := by rw [show (4 : Int32) = nI 4 from rfl, show nI r * nI 4 = nI (r * 4) from pk_mul r 4, nI_add]; exact congrArg nI (by omega)
            rw [e, nI_clamp (by omega)]
            exact ⟨vp_in_nI (by omega) (by omega), hf.2 r (by omega) j hj⟩
          have x0 := cell 0 (by omega)
          have x1 := cell 1 (by omega)
          have x2 := cell 2 (by omega)
          have x3 := cell 3 (by omega)
          have e0 : base + 4 * r + 0 = base + 4 * r := rfl
          rw [e0] at x0
          rw [hf.1]
          refine ⟨fun c => absurd (by rw [q_le (by omega) (by omega)] at c; exact c) (by omega), fun _ => ⟨x1.1, x2.1, ?_⟩⟩
          rw [show σ (q + 1) (nI r * 4 + 1).toNatClampNeg = _ from x1.2, show σ (q + 1) (nI r * 4 + 2).toNatClampNeg = _ from x2.2]
          refine v_says hw (by omega) b1 b2 b3 ?_
          have ef : fl A base w who k (r + 1) = if fl A base w who k r = true then (if A (base + 4 * r) = who then decide (sy w k (A (base + 4 * r + 1)) (A (base + 4 * r + 2)) = A (base + 4 * r + 3)) else true) else false := rfl
          have nx := ih2 (r + 1) (by omega)
          rw [ef] at nx
          rw [nI_1]
          by_cases z : fl A base w who k r = true
          · rw [if_pos z] at nx
            rw [z]
            refine br_f (by decide) ⟨x0.1, ?_⟩
            rw [show σ (q + 1) (nI r * 4 + 0).toNatClampNeg = _ from x0.2]
            have h0 := hs (base + 4 * r)
            have h3 := hs (base + 4 * r + 3)
            have hsy : sy w k (A (base + 4 * r + 1)) (A (base + 4 * r + 2)) ≤ 8 := sy_le (by
              rcases (by omega : w = 0 ∨ w = 1) with u | u
              · exact b2 u
              · have := b3 u; omega)
            by_cases y : A (base + 4 * r) = who
            · rw [if_pos y] at nx
              refine fr_f (by rw [y]) ⟨x3.1, ?_⟩
              rw [show σ (q + 1) (nI r * 4 + 3).toNatClampNeg = _ from x3.2]
              by_cases x : sy w k (A (base + 4 * r + 1)) (A (base + 4 * r + 2)) = A (base + 4 * r + 3)
              · rw [decide_eq_true x] at nx
                exact fr_f (by rw [x]) nx
              · rw [decide_eq_false x] at nx
                exact fr_t (by rw [q_eq (by omega) (by omega)]; exact x) nx
            · rw [if_neg y] at nx
              exact fr_t (by rw [q_eq (by omega) (by omega)]; exact y) nx
          · rw [if_neg z] at nx
            rw [Bool.eq_false_iff.mpr z]
            exact br_t rfl nx
      exact inner (A cn) 0 (by omega)
  exact loop 6 0 (by omega)
end O20

/-! the parting: how many alike at most -/
def Pt (σ : St) (c : Nat → Nat) (mx b : Nat) (v : Int32) : Prop := (∀ j, j < 24 → σ 68 j = nI (c j)) ∧ σ 67 1 = nI mx ∧ σ 67 2 = nI b ∧ σ 67 3 = v
section O22
variable {σ τ : St} {a1 a2 a3 a4 : Int32}
set_option maxHeartbeats 4000000 in
set_option maxRecDepth 100000 in
theorem t_begin {Q : St → Prop} (hq : ∀ σ', σ' 67 3 = -1 → σ' 67 2 = nI 24 → (∀ q, q ≠ 67 → σ' q = σ q) → Q σ') : V_X3_begin σ Q := by
  unfold V_X3_begin B_X3_begin_e
  intro s1 e1 s2 e2
  subst e1; subst e2
  refine hq _ ?_ ?_ (fun q h => by rw [us_ne h, us_ne h])
  · rw [us_same, pk_un (by omega), us_same, pk_us]
  · rw [us_same, pk_us]; rfl
set_option maxHeartbeats 4000000 in
set_option maxRecDepth 100000 in
theorem t_empty {b : Nat} {v : Int32} (h2 : σ 67 2 = nI b) (h3 : σ 67 3 = v) {Q : St → Prop} (hq : ∀ σ', Pt σ' (fun _ => 0) 0 b v → (∀ q, q ≠ 67 → q ≠ 68 → σ' q = σ q) → Q σ') : V_X3_empty σ Q := by
  unfold V_X3_empty B_X3_empty_e
  have loop : ∀ d x (s : St), x + d = 24 → (∀ j, j < x → s 68 j = nI 0) → (∀ q, q ≠ 68 → s q = σ q) → R_X3_empty Q 2 [nI x] [] s := by
    intro d
    induction d with
    | zero =>
      intro x s hx hj hf
      refine i_X3_empty_2 _ _ _ ?_
      unfold B_X3_empty_2
      refine ⟨fun _ s1 e1 => ?_, fun c => absurd (by rw [show (24 : Int32) = nI 24 from rfl, q_le (by omega) (by omega)]; omega) c⟩
      subst e1
      refine hq _ ⟨fun j h => ?_, ?_, ?_, ?_⟩ (fun q h1 h2 => by rw [us_ne h1, hf q h2])
      · rw [us_ne (by omega)]; exact hj j (by omega)
      · rw [us_same, pk_us]; rfl
      · rw [us_same, pk_un (by omega), hf 67 (by omega)]; exact h2
      · rw [us_same, pk_un (by omega), hf 67 (by omega)]; exact h3
    | succ d ih =>
      intro x s hx hj hf
      refine i_X3_empty_2 _ _ _ ?_
      unfold B_X3_empty_2
      rw [nI_clamp (by omega)]
      refine ⟨fun c => absurd (by rw [show (24 : Int32) = nI 24 from rfl, q_le (by omega) (by omega)] at c; exact c) (by omega), fun _ => ⟨vp_in_nI (by omega) (by omega), fun s2 e2 => ?_⟩⟩
      subst e2
      rw [nI_1]
      refine ih (x + 1) _ (by omega) (fun j h => ?_) (fun q h => by rw [us_ne h, hf q h])
      rw [us_same]
      unfold upd
      by_cases z : j = x
      · rw [if_pos z]; rfl
      · rw [if_neg z]; exact hj j (by omega)
  exact loop 24 0 σ (by omega) (fun j h => absurd h (by omega)) (fun _ _ => rfl)
set_option maxHeartbeats 4000000 in
set_option maxRecDepth 100000 in
theorem t_add {c : Nat → Nat} {mx b w : Nat} {v : Int32} (h : Pt σ c mx b v) (hw : w < 24) (hc : c w < 1000) (hm : mx < 1000) {Q : St → Prop} (hq : ∀ σ', Pt σ' (upN c w (c w + 1)) (max mx (c w + 1)) b v → (∀ q, q ≠ 67 → q ≠ 68 → σ' q = σ q) → Q σ') : V_X3_add (nI w) σ Q := by
  obtain ⟨p1, p2, p3, p4⟩ := h
  unfold V_X3_add B_X3_add_e
  rw [nI_clamp (by omega), p1 w hw, nI_1]
  refine br_f (by rw [show (0 : Int32) = nI 0 from rfl, q_lt (by omega) (by omega)]; omega) (br_f (by rw [show (24 : Int32) = nI 24 from rfl, q_le (by omega) (by omega)]; omega) ⟨vp_in_nI (by omega) (by omega), vp_in_nI (by omega) (by omega), fun s1 e1 => ⟨vp_in_nI (by omega) (by omega), fun s2 e2 => ?_⟩⟩)
  have e67 : s1 67 = σ 67 := by rw [e1, us_ne (by omega)]
  have e68 : s1 68 w = nI (c w + 1) := by rw [e1, us_same, pk_us]
  have em : (if (s1 67 1) < (s1 68 w) then (s1 68 w) else (s1 67 1)) = nI (max mx (c w + 1)) := by
    rw [e67, e68, p2]
    by_cases z : mx < c w + 1
    · rw [if_pos (by rw [q_lt (by omega) (by omega)]; exact z)]; exact congrArg nI (by omega)
    · rw [if_neg (by rw [q_lt (by omega) (by omega)]; exact z)]; exact congrArg nI (by omega)
  rw [em] at e2
  refine hq s2 ⟨fun j hj => ?_, ?_, ?_, ?_⟩ (fun q h1 h2 => by rw [e2, us_ne h1, e1, us_ne h2])
  · rw [e2, us_ne (by omega), e1, us_same]
    unfold upd upN
    by_cases z : j = w
    · rw [if_pos z, if_pos z]
    · rw [if_neg z, if_neg z]; exact p1 j hj
  · rw [e2, us_same, pk_us]
  · rw [e2, us_same, pk_un (by omega), e67]; exact p3
  · rw [e2, us_same, pk_un (by omega), e67]; exact p4
set_option maxHeartbeats 4000000 in
set_option maxRecDepth 100000 in
theorem t_offer {c : Nat → Nat} {mx b : Nat} {v x : Int32} (h : Pt σ c mx b v) (hm : mx < 1000) (hb : b < 1000) {Q : St → Prop} (hk : (mx = 0 ∨ b ≤ mx) → Q σ) (hq : 0 < mx → mx < b → ∀ σ', Pt σ' c mx mx x → (∀ q, q ≠ 67 → σ' q = σ q) → Q σ') : V_X3_offer x σ Q := by
  obtain ⟨p1, p2, p3, p4⟩ := h
  unfold V_X3_offer B_X3_offer_e
  rw [p2, p3]
  by_cases z : mx = 0
  · exact br_t (by rw [show (0 : Int32) = nI 0 from rfl, q_le (by omega) (by omega)]; omega) (hk (Or.inl z))
  · refine br_f (by rw [show (0 : Int32) = nI 0 from rfl, q_le (by omega) (by omega)]; omega) ?_
    by_cases y : b ≤ mx
    · exact br_t (by rw [q_le (by omega) (by omega)]; exact y) (hk (Or.inr y))
    · refine br_f (by rw [q_le (by omega) (by omega)]; exact y) (fun s1 e1 s2 e2 => ?_)
      subst e1; subst e2
      refine hq (by omega) (by omega) _ ⟨fun j hj => ?_, ?_, ?_, ?_⟩ (fun q h => by rw [us_ne h, us_ne h])
      · rw [us_ne (by omega), us_ne (by omega)]; exact p1 j hj
      · rw [us_same, pk_un (by omega), us_same, pk_un (by omega)]; exact p2
      · rw [us_same, pk_un (by omega), us_same, pk_us]
      · rw [us_same, pk_us]
end O22

/-! how many alike at most, told in two ways -/
def mu (p : Nat → Bool) (f : Nat → Nat) (v : Nat) : Nat → Nat
  | 0 => 0
  | n + 1 => mu p f v n + (if p n = true ∧ f n = v then 1 else 0)
/-- as each one comes -/
def mx1 (p : Nat → Bool) (f : Nat → Nat) : Nat → Nat
  | 0 => 0
  | n + 1 => if p n = true then max (mx1 p f n) (mu p f (f n) n + 1) else mx1 p f n
/-- one after another, over all N -/
def mx2 (p : Nat → Bool) (f : Nat → Nat) (N : Nat) : Nat → Nat
  | 0 => 0
  | g + 1 => if p g = true then max (mx2 p f N g) (mu p f (f g) N) else mx2 p f N g
theorem mu_le {p : Nat → Bool} {f : Nat → Nat} {v : Nat} : ∀ n, mu p f v n ≤ n
  | 0 => Nat.le_refl _
  | n + 1 => by
    have := mu_le (p := p) (f := f) (v := v) n
    unfold mu
    split <;> omega
theorem mx1_le {p : Nat → Bool} {f : Nat → Nat} : ∀ n, mx1 p f n ≤ n
  | 0 => Nat.le_refl _
  | n + 1 => by
    have := mx1_le (p := p) (f := f) n
    have := mu_le (p := p) (f := f) (v := f n) n
    unfold mx1
    split <;> omega
theorem mu_mx1 {p : Nat → Bool} {f : Nat → Nat} (v : Nat) : ∀ n, mu p f v n ≤ mx1 p f n
  | 0 => Nat.le_refl _
  | n + 1 => by
    have h := mu_mx1 (p := p) (f := f) v n
    unfold mu mx1
    by_cases c : p n = true
    · rw [if_pos c]
      by_cases e : f n = v
      · rw [if_pos ⟨c, e⟩, e]; omega
      · rw [if_neg (fun q => e q.2)]; omega
    · rw [if_neg c, if_neg (fun q => c q.1)]; omega
theorem mx1_w {p : Nat → Bool} {f : Nat → Nat} : ∀ n, mx1 p f n = 0 ∨ ∃ g, g < n ∧ p g = true ∧ mx1 p f n = mu p f (f g) n
  | 0 => Or.inl rfl
  | n + 1 => by
    have e1 : mx1 p f (n + 1) = if p n = true then max (mx1 p f n) (mu p f (f n) n + 1) else mx1 p f n := rfl
    have e2 : ∀ v, mu p f v (n + 1) = mu p f v n + (if p n = true ∧ f n = v then 1 else 0) := fun v => rfl
    by_cases c : p n = true
    · rw [if_pos c] at e1
      have e3 := e2 (f n)
      rw [if_pos ⟨c, rfl⟩] at e3
      by_cases m : mx1 p f n ≤ mu p f (f n) n + 1
      · exact Or.inr ⟨n, by omega, c, by omega⟩
      · rcases mx1_w (p := p) (f := f) n with h | ⟨g, h1, h2, h3⟩
        · omega
        · refine Or.inr ⟨g, by omega, h2, ?_⟩
          have e4 := e2 (f g)
          by_cases e : f n = f g
          · rw [← e] at h3; omega
          · rw [if_neg (fun q => e q.2)] at e4; omega
    · rw [if_neg c] at e1
      rcases mx1_w (p := p) (f := f) n with h | ⟨g, h1, h2, h3⟩
      · exact Or.inl (by omega)
      · refine Or.inr ⟨g, by omega, h2, ?_⟩
        have e4 := e2 (f g)
        rw [if_neg (fun q => c q.1)] at e4
        omega
theorem mx2_le {p : Nat → Bool} {f : Nat → Nat} {N : Nat} : ∀ g, mx2 p f N g ≤ mx1 p f N
  | 0 => Nat.zero_le _
  | g + 1 => by
    have h := mx2_le (p := p) (f := f) (N := N) g
    have h2 := mu_mx1 (p := p) (f := f) (f g) N
    unfold mx2
    split <;> omega
theorem mx2_ge {p : Nat → Bool} {f : Nat → Nat} {N : Nat} : ∀ n g, g < n → p g = true → mu p f (f g) N ≤ mx2 p f N n
  | 0, g, h, _ => absurd h (by omega)
  | n + 1, g, h, c => by
    unfold mx2
    by_cases e : g = n
    · subst e
      rw [if_pos c]
      omega
    · have := mx2_ge (p := p) (f := f) (N := N) n g (by omega) c
      split <;> omega
theorem mx_eq {p : Nat → Bool} {f : Nat → Nat} {N : Nat} : mx2 p f N N = mx1 p f N := by
  have h1 := mx2_le (p := p) (f := f) (N := N) N
  rcases mx1_w (p := p) (f := f) N with h | ⟨g, h2, h3, h4⟩
  · omega
  · have := mx2_ge (p := p) (f := f) (N := N) N g h2 h3
    omega
theorem mx1_pos {p : Nat → Bool} {f : Nat → Nat} : ∀ n g, g < n → p g = true → 0 < mx1 p f n
  | 0, g, h, _ => absurd h (by omega)
  | n + 1, g, h, c => by
    unfold mx1
    by_cases e : g = n
    · subst e
      rw [if_pos c]
      omega
    · have := mx1_pos (p := p) (f := f) n g (by omega) c
      split <;> omega
theorem mx1_0 {p : Nat → Bool} {f : Nat → Nat} : ∀ n, (∀ g, g < n → ¬ p g = true) → mx1 p f n = 0
  | 0, _ => rfl
  | n + 1, h => by
    unfold mx1
    rw [if_neg (h n (by omega))]
    exact mx1_0 n (fun g hg => h g (by omega))

/-! the hour that parts, in the class -/
def bi (M g : Nat) : Bool := decide (M / 2 ^ g % 2 = 1)
def tm (A : Nat → Nat) (M h : Nat) : Nat := mx1 (bi M) (fun g => it h A (6 + g)) (A 0)
def tf (A : Nat → Nat) (M : Nat) : Nat → Nat → Nat → Int32 → Int32
  | 0, _, _, v => v
  | d + 1, h, b, v => if 0 < tm A M h ∧ tm A M h < b then tf A M d (h + 1) (tm A M h) (nI h) else tf A M d (h + 1) b v
theorem bi_0 {g : Nat} : ¬ bi 0 g = true := by
  unfold bi
  rw [Nat.zero_div]
  decide
section O24
variable {σ τ : St} {a1 a2 a3 a4 : Int32}
set_option maxHeartbeats 4000000 in
set_option maxRecDepth 100000 in
theorem c_tell {A : Nat → Nat} {M : Nat} (hst : StR σ 2 A) (hW : WFA A) (hM : M < 2147483648) {Q : Int32 → St → Prop} (hq : ∀ σ', (∀ q, q < 56 ∨ (64 < q ∧ q ≠ 67 ∧ q ≠ 68) → σ' q = σ q) → Q (tf A M 21 0 24 (-1)) σ') : V_X0_hoursThatPart 2 (nI M) σ Q := by
  unfold V_X0_hoursThatPart B_X0_hoursThatPart_e
  have h15 := hW.2.2.1
  have h7 := hW.2.1
  refine s_copy hst h7 hW.1.2.1 (by omega) (fun s1 hs1 f1 => t_begin (fun s2 b3 b2 f2 => ?_))
  have loop : ∀ d h b v (s : St), h + d = 21 → b < 1000 → s 67 2 = nI b → s 67 3 = v → StR s 56 (it h A) → (∀ q, q < 56 ∨ (64 < q ∧ q ≠ 67 ∧ q ≠ 68) → s q = σ q) → tf A M 21 0 24 (-1) = tf A M d h b v → R_X0_hoursThatPart 2 (nI M) Q 15 [nI h] [] s := by
    intro d
    induction d with
    | zero =>
      intro h b v s hh hb e2 e3 hs hf hw
      refine i_X0_hoursThatPart_15 _ _ _ _ _ ?_
      unfold B_X0_hoursThatPart_15
      refine ⟨fun _ => ?_, fun c => absurd (by rw [show (20 : Int32) = nI 20 from rfl, q_lt (by omega) (by omega)]; omega) c⟩
      have := hq s hf
      rw [hw] at this
      rw [e3]
      exact this
    | succ d ih =>
      intro h b v s hh hb e2 e3 hs hf hw
      refine i_X0_hoursThatPart_15 _ _ _ _ _ ?_
      unfold B_X0_hoursThatPart_15
      refine ⟨fun c => absurd (by rw [show (20 : Int32) = nI 20 from rfl, q_lt (by omega) (by omega)] at c; exact c) (by omega), fun _ => t_empty e2 e3 (fun s3 hp3 f3 => ?_)⟩
      have hB := Bd_it hW.1 h (by omega)
      have e0 : it h A 0 = A 0 := it_lo (by omega) h
      have hml := mx1_le (p := bi M) (f := fun g => it h A (6 + g)) (A 0)
      have hw2 : tf A M (d + 1) h b v = if 0 < tm A M h ∧ tm A M h < b then tf A M d (h + 1) (tm A M h) (nI h) else tf A M d (h + 1) b v := rfl
      have inner : ∀ d2 g (c : Nat → Nat) (s' : St), g + d2 = A 0 → Pt s' c (mx1 (bi M) (fun g => it h A (6 + g)) g) b v → (∀ w, w < 24 → c w = mu (bi M) (fun g => it h A (6 + g)) w g) → (∀ q, q ≠ 67 → q ≠ 68 → s' q = s q) → R_X0_hoursThatPart 2 (nI M) Q 29 [nI h, nI g] [] s' := by
        intro d2
        induction d2 with
        | zero =>
          intro g c s' hg hp hc hf'
          have hs' : StR s' 56 (it h A) := hs.congr (fun q h1 h2 => hf' q (by omega) (by omega))
          refine i_X0_hoursThatPart_29 _ _ _ _ _ _ ?_
          unfold B_X0_hoursThatPart_29
          rw [hs'.1, e0, (by omega : g = A 0)] at *
          refine ⟨fun _ => t_offer hp (by omega) hb (fun hk => ?_) (fun h1 h2 s4 hp4 f4 => ?_), fun c => absurd (by rw [q_le (by omega) (by omega)]; omega) c⟩
          · refine s_passHour hs' hB (fun s5 hs5 f5 => ?_)
            rw [nI_1]
            rw [← it_succ] at hs5
            exact ih (h + 1) b v s5 (by omega) hb (by rw [f5 67 (by omega)]; exact hp.2.2.1) (by rw [f5 67 (by omega)]; exact hp.2.2.2) hs5 (fun q hq => by rw [f5 q (by omega), hf' q (by omega) (by omega), hf q hq]) (by rw [hw, hw2, if_neg (by unfold tm; omega)])
          · refine s_passHour (hs'.congr (fun q h1 h2 => f4 q (by omega))) hB (fun s5 hs5 f5 => ?_)
            rw [nI_1]
            rw [← it_succ] at hs5
            exact ih (h + 1) (tm A M h) (nI h) s5 (by omega) (by unfold tm; omega) (by rw [f5 67 (by omega)]; exact hp4.2.2.1) (by rw [f5 67 (by omega)]; exact hp4.2.2.2) hs5 (fun q hq => by rw [f5 q (by omega), f4 q (by omega), hf' q (by omega) (by omega), hf q hq]) (by rw [hw, hw2, if_pos (by unfold tm; exact ⟨h1, h2⟩)])
        | succ d2 ih2 =>
          intro g c s' hg hp hc hf'
          have hs' : StR s' 56 (it h A) := hs.congr (fun q h1 h2 => hf' q (by omega) (by omega))
          refine i_X0_hoursThatPart_29 _ _ _ _ _ _ ?_
          unfold B_X0_hoursThatPart_29
          have b2 := (hB.2.2.2.2.2.1 g (by omega)).2
          have hmg := mx1_le (p := bi M) (f := fun g => it h A (6 + g)) g
          have hcg := mu_le (p := bi M) (f := fun g => it h A (6 + g)) (v := it h A (6 + g)) g
          have x1 : mx1 (bi M) (fun g => it h A (6 + g)) (g + 1) = if bi M g = true then max (mx1 (bi M) (fun g => it h A (6 + g)) g) (mu (bi M) (fun g => it h A (6 + g)) (it h A (6 + g)) g + 1) else mx1 (bi M) (fun g => it h A (6 + g)) g := rfl
          have x2 : ∀ w, mu (bi M) (fun g => it h A (6 + g)) w (g + 1) = mu (bi M) (fun g => it h A (6 + g)) w g + (if bi M g = true ∧ it h A (6 + g) = w then 1 else 0) := fun w => rfl
          rw [hs'.1, e0, q_bit hM (by omega), nI_clamp (by omega), show s' 60 g = nI (it h A (6 + g)) from hs'.2.2.2.2.2.2.2.1 g (by omega), nI_1]
          refine ⟨fun c => absurd (by rw [q_le (by omega) (by omega)] at c; exact c) (by omega), fun _ => ?_⟩
          by_cases z : M / 2 ^ g % 2 = 1
          · have zb : bi M g = true := decide_eq_true z
            rw [if_pos zb] at x1
            refine fr_f (by rw [z]; rfl) ⟨vp_in_nI (by omega) (by omega), t_add hp (by omega) (by rw [hc _ (by omega)]; omega) (by omega) (fun s4 hp4 f4 => ?_)⟩
            rw [hc _ (by omega), ← x1] at hp4
            rw [nI_1]
            refine ih2 (g + 1) _ s4 (by omega) hp4 (fun w hw => ?_) (fun q h1 h2 => by rw [f4 q h1 h2, hf' q h1 h2])
            rw [x2 w]
            unfold upN
            by_cases y : w = it h A (6 + g)
            · rw [if_pos y, if_pos ⟨zb, y.symm⟩, y]
            · rw [if_neg y, if_neg (fun q => y q.2.symm), hc w hw]
              rfl
          · have zb : ¬ bi M g = true := fun c => z (of_decide_eq_true c)
            rw [if_neg zb] at x1
            have hm2 := Nat.mod_lt (M / 2 ^ g) (show 0 < 2 by omega)
            refine fr_t (by rw [show (1 : Int32) = nI 1 from rfl, q_eq (by omega) (by omega)]; exact z) ?_
            rw [← x1] at hp
            rw [nI_1]
            refine ih2 (g + 1) c s' (by omega) hp (fun w hw => ?_) hf'
            rw [x2 w, if_neg (fun q => zb q.1), hc w hw]
            rfl
      exact inner (A 0) 0 (fun _ => 0) s3 (by omega) hp3 (fun w hw => rfl) f3
  exact loop 21 0 24 (-1) s2 (by omega) (by omega) b2 b3 (hs1.congr (fun q h1 h2 => f2 q (by omega))) (fun q hq => by rw [f2 q (by omega), f1 q (by omega)]) rfl
end O24

/-! the next look, in the class -/
def lm (M w h v : Nat) : Nat := mx1 (bi M) (fun k => sy w k h v) 6
def st1 (M w h v : Nat) (p : Nat × Int32) : Nat × Int32 := if 0 < lm M w h v ∧ lm M w h v < p.1 then (lm M w h v, nI (10 * h + v)) else p
def rv (M w h : Nat) : Nat → Nat → Nat × Int32 → Nat × Int32
  | 0, _, p => p
  | d + 1, v, p => rv M w h d (v + 1) (st1 M w h v p)
def rh (M w lo n : Nat) : Nat → Nat → Nat × Int32 → Nat × Int32
  | 0, _, p => p
  | d + 1, h, p => rh M w lo n d (h + 1) (rv M w h n lo p)
theorem lm_le {M w h v : Nat} : lm M w h v ≤ 6 := mx1_le _
theorem st1_le {M w h v b : Nat} {p : Nat × Int32} (hp : p.1 ≤ b) : (st1 M w h v p).1 ≤ b := by
  unfold st1
  by_cases c : 0 < lm M w h v ∧ lm M w h v < p.1
  · rw [if_pos c]; exact Nat.le_trans (Nat.le_of_lt c.2) hp
  · rw [if_neg c]; exact hp
/-- the class begins at 24, the reference at 1000000 -/
def Ep (p p' : Nat × Int32) : Prop := p = p' ∨ (p.2 = p'.2 ∧ p.1 = 24 ∧ p'.1 = 1000000)
theorem Ep_st1 {M w h v : Nat} {p p' : Nat × Int32} (e : Ep p p') : Ep (st1 M w h v p) (st1 M w h v p') := by
  rcases e with e | ⟨e1, e2, e3⟩
  · exact Or.inl (by rw [e])
  · have l := lm_le (M := M) (w := w) (h := h) (v := v)
    unfold st1
    by_cases c : 0 < lm M w h v
    · rw [if_pos ⟨c, by omega⟩, if_pos ⟨c, by omega⟩]; exact Or.inl rfl
    · rw [if_neg (fun q => c q.1), if_neg (fun q => c q.1)]; exact Or.inr ⟨e1, e2, e3⟩
theorem Ep_rv {M w h : Nat} : ∀ d v p p', Ep p p' → Ep (rv M w h d v p) (rv M w h d v p')
  | 0, _, _, _, e => e
  | d + 1, v, _, _, e => Ep_rv d (v + 1) _ _ (Ep_st1 e)
theorem Ep_rh {M w lo n : Nat} : ∀ d h p p', Ep p p' → Ep (rh M w lo n d h p) (rh M w lo n d h p')
  | 0, _, _, _, e => e
  | d + 1, h, _, _, e => Ep_rh d (h + 1) _ _ (Ep_rv n lo _ _ e)
theorem Ep_2 {p p' : Nat × Int32} (e : Ep p p') : p.2 = p'.2 := by
  rcases e with e | e
  · rw [e]
  · exact e.1
theorem lm_0 {w h v : Nat} : lm 0 w h v = 0 := mx1_0 _ (fun g _ => bi_0)
theorem st1_0 {w h v : Nat} {p : Nat × Int32} : st1 0 w h v p = p := by
  unfold st1
  rw [if_neg (fun q => by have := q.1; rw [lm_0] at this; omega)]
theorem rv_0 {w h : Nat} : ∀ d v p, rv 0 w h d v p = p
  | 0, _, _ => rfl
  | d + 1, v, p => by
    unfold rv
    rw [st1_0]
    exact rv_0 d (v + 1) p
theorem rh_0 {w lo n : Nat} : ∀ d h p, rh 0 w lo n d h p = p
  | 0, _, _ => rfl
  | d + 1, h, p => by
    unfold rh
    rw [rv_0]
    exact rh_0 d (h + 1) p
theorem km_nI {A : Nat → Nat} {base w who n : Nat} : ∀ k, k ≤ 6 → ∃ M, M < 2 ^ k ∧ km A base w who n k = nI M
  | 0, _ => ⟨0, by omega, rfl⟩
  | k + 1, hk => by
    obtain ⟨M, h1, h2⟩ := km_nI (A := A) (base := base) (w := w) (who := who) (n := n) k (by omega)
    have e : km A base w who n (k + 1) = if fl A base w who k n = true then km A base w who n k ||| ((1 : Int32) <<< (nI k &&& 31)) else km A base w who n k := rfl
    have lt : 2 ^ k < 2 ^ (k + 1) := Nat.pow_lt_pow_right (by omega) (by omega)
    by_cases c : fl A base w who k n = true
    · rw [if_pos c, h2, q_shl (by omega), q_or] at e
      exact ⟨M ||| 2 ^ k, Nat.or_lt_two_pow (by omega) (by omega), e⟩
    · rw [if_neg c, h2] at e
      exact ⟨M, by omega, e⟩
section O26
variable {σ τ : St} {a1 a2 a3 a4 : Int32}
set_option maxHeartbeats 4000000 in
set_option maxRecDepth 100000 in
theorem c_look {M w lo n H : Nat} (hM : M < 64) (hc : (w = 1 ∧ H = 10 ∧ lo = 0 ∧ n = 5) ∨ (w = 0 ∧ H = 24 ∧ lo = 1 ∧ n = 7)) {Q : Int32 → St → Prop} (hq : ∀ σ', (∀ q, q ≠ 67 → q ≠ 68 → σ' q = σ q) → Q (rh M w lo n H 0 (24, -1)).2 σ') : V_X10_nextLook (nI M) (nI w) σ Q := by
  unfold V_X10_nextLook B_X10_nextLook_e
  have core : ∀ d h (p : Nat × Int32) (s : St), h + d = H → p.1 ≤ 24 → s 67 2 = nI p.1 → s 67 3 = p.2 → (∀ q, q ≠ 67 → q ≠ 68 → s q = σ q) → rh M w lo n H 0 (24, -1) = rh M w lo n d h p → R_X10_nextLook (nI M) (nI w) Q 45 [nI H, nI lo, nI (lo + n - 1), nI h] [] s := by
    intro d
    induction d with
    | zero =>
      intro h p s hh hb e2 e3 hf hw
      refine i_X10_nextLook_45 _ _ _ _ _ _ _ _ ?_
      unfold B_X10_nextLook_45
      refine ⟨fun _ => ?_, fun c => absurd (by rw [q_le (by omega) (by omega)]; omega) c⟩
      have := hq s hf
      rw [hw] at this
      rw [e3]
      exact this
    | succ d ih =>
      intro h p s hh hb e2 e3 hf hw
      refine i_X10_nextLook_45 _ _ _ _ _ _ _ _ ?_
      unfold B_X10_nextLook_45
      refine ⟨fun c => absurd (by rw [q_le (by omega) (by omega)] at c; exact c) (by omega), fun _ => ?_⟩
      have inV : ∀ e v (p' : Nat × Int32) (s' : St), v + e = lo + n → p'.1 ≤ 24 → s' 67 2 = nI p'.1 → s' 67 3 = p'.2 → (∀ q, q ≠ 67 → q ≠ 68 → s' q = σ q) → rv M w h n lo p = rv M w h e v p' → R_X10_nextLook (nI M) (nI w) Q 55 [nI H, nI lo, nI (lo + n - 1), nI h, nI v] [] s' := by
        intro e
        induction e with
        | zero =>
          intro v p' s' hv hb' e2' e3' hf' hw'
          refine i_X10_nextLook_55 _ _ _ _ _ _ _ _ _ ?_
          unfold B_X10_nextLook_55
          refine ⟨fun _ => ?_, fun c => absurd (by rw [q_lt (by omega) (by omega)]; omega) c⟩
          rw [nI_1]
          refine ih (h + 1) p' s' (by omega) hb' e2' e3' hf' ?_
          rw [hw]
          show rh M w lo n d (h + 1) (rv M w h n lo p) = _
          rw [hw']
          rfl
        | succ e ihv =>
          intro v p' s' hv hb' e2' e3' hf' hw'
          refine i_X10_nextLook_55 _ _ _ _ _ _ _ _ _ ?_
          unfold B_X10_nextLook_55
          refine ⟨fun c => absurd (by rw [q_lt (by omega) (by omega)] at c; exact c) (by omega), fun _ => t_empty e2' e3' (fun s3 hp3 f3 => ?_)⟩
          have xw : rv M w h (e + 1) v p' = rv M w h e (v + 1) (st1 M w h v p') := rfl
          have hml : lm M w h v ≤ 6 := lm_le
          have inK : ∀ f k (c : Nat → Nat) (s4 : St), k + f = 6 → Pt s4 c (mx1 (bi M) (fun k => sy w k h v) k) p'.1 p'.2 → (∀ u, u < 24 → c u = mu (bi M) (fun k => sy w k h v) u k) → (∀ q, q ≠ 67 → q ≠ 68 → s4 q = σ q) → R_X10_nextLook (nI M) (nI w) Q 72 [nI H, nI lo, nI (lo + n - 1), nI h, nI v, nI k] [] s4 := by
            intro f
            induction f with
            | zero =>
              intro k c s4 hk hp hcc hf4
              refine i_X10_nextLook_72 _ _ _ _ _ _ _ _ _ _ ?_
              unfold B_X10_nextLook_72
              rw [(by omega : k = 6)] at *
              have ex : (10 : Int32) * nI h + nI v = nI (10 * h + v) := by rw [show (10 : Int32) = nI 10 from rfl, show nI 10 * nI h = nI (10 * h) from pk_mul 10 h, nI_add]
              rw [ex, nI_1]
              refine ⟨fun _ => t_offer hp (by unfold lm at hml; omega) (by omega) (fun hk => ?_) (fun h1 h2 s5 hp5 f5 => ?_), fun c => absurd (by decide) c⟩
              · refine ihv (v + 1) p' s4 (by omega) hb' hp.2.2.1 hp.2.2.2 hf4 ?_
                rw [hw', xw]
                unfold st1
                rw [if_neg (by unfold lm; omega)]
              · refine ihv (v + 1) (lm M w h v, nI (10 * h + v)) s5 (by omega) (show lm M w h v ≤ 24 by omega) hp5.2.2.1 hp5.2.2.2 (fun q q1 q2 => by rw [f5 q q1, hf4 q q1 q2]) ?_
                rw [hw', xw]
                unfold st1
                rw [if_pos (by unfold lm; exact ⟨h1, h2⟩)]
            | succ f ihk =>
              intro k c s4 hk hp hcc hf4
              refine i_X10_nextLook_72 _ _ _ _ _ _ _ _ _ _ ?_
              unfold B_X10_nextLook_72
              have hmg := mx1_le (p := bi M) (f := fun k => sy w k h v) k
              have hcg := mu_le (p := bi M) (f := fun k => sy w k h v) (v := sy w k h v) k
              have hsy : sy w k h v ≤ 8 := sy_le (by omega)
              have x1 : mx1 (bi M) (fun k => sy w k h v) (k + 1) = if bi M k = true then max (mx1 (bi M) (fun k => sy w k h v) k) (mu (bi M) (fun k => sy w k h v) (sy w k h v) k + 1) else mx1 (bi M) (fun k => sy w k h v) k := rfl
              have x2 : ∀ u, mu (bi M) (fun k => sy w k h v) u (k + 1) = mu (bi M) (fun k => sy w k h v) u k + (if bi M k = true ∧ sy w k h v = u then 1 else 0) := fun u => rfl
              rw [q_bit (by omega) (by omega)]
              refine ⟨fun c => absurd (by rw [show (6 : Int32) = nI 6 from rfl, q_le (by omega) (by omega)] at c; exact c) (by omega), fun _ => ?_⟩
              by_cases z : M / 2 ^ k % 2 = 1
              · have zb : bi M k = true := decide_eq_true z
                rw [if_pos zb] at x1
                refine fr_f (by rw [z]; rfl) (v_says (by omega) (by omega) (by omega) (by omega) (by omega) (t_add hp (by omega) (by rw [hcc _ (by omega)]; omega) (by omega) (fun s5 hp5 f5 => ?_)))
                rw [hcc _ (by omega), ← x1] at hp5
                rw [nI_1]
                refine ihk (k + 1) _ s5 (by omega) hp5 (fun u hu => ?_) (fun q h1 h2 => by rw [f5 q h1 h2, hf4 q h1 h2])
                rw [x2 u]
                unfold upN
                by_cases y : u = sy w k h v
                · rw [if_pos y, if_pos ⟨zb, y.symm⟩, y]
                · rw [if_neg y, if_neg (fun q => y q.2.symm), hcc u hu]
                  rfl
              · have zb : ¬ bi M k = true := fun c => z (of_decide_eq_true c)
                rw [if_neg zb] at x1
                have hm2 := Nat.mod_lt (M / 2 ^ k) (show 0 < 2 by omega)
                refine fr_t (by rw [show (1 : Int32) = nI 1 from rfl, q_eq (by omega) (by omega)]; exact z) ?_
                rw [← x1] at hp
                rw [nI_1]
                refine ihk (k + 1) c s4 (by omega) hp (fun u hu => ?_) hf4
                rw [x2 u, if_neg (fun q => zb q.1), hcc u hu]
                rfl
          exact inK 6 0 (fun _ => 0) s3 (by omega) hp3 (fun u hu => rfl) (fun q q1 q2 => by rw [f3 q q1 q2, hf' q q1 q2])
      exact inV n lo p s (by omega) hb e2 e3 hf rfl
  have k33 : R_X10_nextLook (nI M) (nI w) Q 33 [nI H, nI lo, nI (lo + n - 1)] [] σ := by
    refine i_X10_nextLook_33 _ _ _ _ _ _ _ ?_
    unfold B_X10_nextLook_33
    exact t_begin (fun s2 b3 b2 f2 => core H 0 (24, -1) s2 (by omega) (by decide) b2 b3 (fun q q1 q2 => f2 q q1) rfl)
  rcases hc with ⟨rfl, rfl, rfl, rfl⟩ | ⟨rfl, rfl, rfl, rfl⟩
  · refine br_f (by decide) (i_X10_nextLook_11 _ _ _ _ _ ?_)
    unfold B_X10_nextLook_11
    refine br_f (by decide) (i_X10_nextLook_21 _ _ _ _ _ _ ?_)
    unfold B_X10_nextLook_21
    exact br_f (by decide) k33
  · refine br_t rfl (i_X10_nextLook_11 _ _ _ _ _ ?_)
    unfold B_X10_nextLook_11
    refine br_t rfl (i_X10_nextLook_21 _ _ _ _ _ _ ?_)
    unfold B_X10_nextLook_21
    exact br_t rfl k33
end O26

