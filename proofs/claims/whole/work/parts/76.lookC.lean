/-! the next look, in the class -/
def lm (M w h v : Nat) : Nat := mx1 (bi M) (fun k => sy w k h v) 6
def st1 (M w h v : Nat) (p : Nat × Int32) : Nat × Int32 := if 0 < lm M w h v ∧ lm M w h v < p.1 then (lm M w h v, nI (10 * h + v)) else p
def rv (M w h : Nat) : Nat → Nat → Nat × Int32 → Nat × Int32
  | 0, _, p => p
  | d + 1, v, p => rv M w h d (v + 1) (st1 M w h v p)
def rh (M w lo n : Nat) : Nat → Nat → Nat × Int32 → Nat × Int32
  | 0, _, p => p
  | d + 1, h, p => rh M w lo n d (h + 1) (rv M w h n lo p)
theorem lm_le {M w h v : Nat} : lm M w h v ≤ 6 := mx1_le _
theorem st1_le {M w h v b : Nat} {p : Nat × Int32} (hp : p.1 ≤ b) : (st1 M w h v p).1 ≤ b := by
  unfold st1
  by_cases c : 0 < lm M w h v ∧ lm M w h v < p.1
  · rw [if_pos c]; exact Nat.le_trans (Nat.le_of_lt c.2) hp
  · rw [if_neg c]; exact hp
/-- the class begins at 24, the reference at 1000000 -/
def Ep (p p' : Nat × Int32) : Prop := p = p' ∨ (p.2 = p'.2 ∧ p.1 = 24 ∧ p'.1 = 1000000)
theorem Ep_st1 {M w h v : Nat} {p p' : Nat × Int32} (e : Ep p p') : Ep (st1 M w h v p) (st1 M w h v p') := by
  rcases e with e | ⟨e1, e2, e3⟩
  · exact Or.inl (by rw [e])
  · have l := lm_le (M := M) (w := w) (h := h) (v := v)
    unfold st1
    by_cases c : 0 < lm M w h v
    · rw [if_pos ⟨c, by omega⟩, if_pos ⟨c, by omega⟩]; exact Or.inl rfl
    · rw [if_neg (fun q => c q.1), if_neg (fun q => c q.1)]; exact Or.inr ⟨e1, e2, e3⟩
theorem Ep_rv {M w h : Nat} : ∀ d v p p', Ep p p' → Ep (rv M w h d v p) (rv M w h d v p')
  | 0, _, _, _, e => e
  | d + 1, v, _, _, e => Ep_rv d (v + 1) _ _ (Ep_st1 e)
theorem Ep_rh {M w lo n : Nat} : ∀ d h p p', Ep p p' → Ep (rh M w lo n d h p) (rh M w lo n d h p')
  | 0, _, _, _, e => e
  | d + 1, h, _, _, e => Ep_rh d (h + 1) _ _ (Ep_rv n lo _ _ e)
theorem Ep_2 {p p' : Nat × Int32} (e : Ep p p') : p.2 = p'.2 := by
  rcases e with e | e
  · rw [e]
  · exact e.1
theorem lm_0 {w h v : Nat} : lm 0 w h v = 0 := mx1_0 _ (fun g _ => bi_0)
theorem st1_0 {w h v : Nat} {p : Nat × Int32} : st1 0 w h v p = p := by
  unfold st1
  rw [if_neg (fun q => by have := q.1; rw [lm_0] at this; omega)]
theorem rv_0 {w h : Nat} : ∀ d v p, rv 0 w h d v p = p
  | 0, _, _ => rfl
  | d + 1, v, p => by
    unfold rv
    rw [st1_0]
    exact rv_0 d (v + 1) p
theorem rh_0 {w lo n : Nat} : ∀ d h p, rh 0 w lo n d h p = p
  | 0, _, _ => rfl
  | d + 1, h, p => by
    unfold rh
    rw [rv_0]
    exact rh_0 d (h + 1) p
theorem km_nI {A : Nat → Nat} {base w who n : Nat} : ∀ k, k ≤ 6 → ∃ M, M < 2 ^ k ∧ km A base w who n k = nI M
  | 0, _ => ⟨0, by omega, rfl⟩
  | k + 1, hk => by
    obtain ⟨M, h1, h2⟩ := km_nI (A := A) (base := base) (w := w) (who := who) (n := n) k (by omega)
    have e : km A base w who n (k + 1) = if fl A base w who k n = true then km A base w who n k ||| ((1 : Int32) <<< (nI k &&& 31)) else km A base w who n k := rfl
    have lt : 2 ^ k < 2 ^ (k + 1) := Nat.pow_lt_pow_right (by omega) (by omega)
    by_cases c : fl A base w who k n = true
    · rw [if_pos c, h2, q_shl (by omega), q_or] at e
      exact ⟨M ||| 2 ^ k, Nat.or_lt_two_pow (by omega) (by omega), e⟩
    · rw [if_neg c, h2] at e
      exact ⟨M, by omega, e⟩
section O26
variable {σ τ : St} {a1 a2 a3 a4 : Int32}
set_option maxHeartbeats 4000000 in
set_option maxRecDepth 100000 in
theorem c_look {M w lo n H : Nat} (hM : M < 64) (hc : (w = 1 ∧ H = 10 ∧ lo = 0 ∧ n = 5) ∨ (w = 0 ∧ H = 24 ∧ lo = 1 ∧ n = 7)) {Q : Int32 → St → Prop} (hq : ∀ σ', (∀ q, q ≠ 67 → q ≠ 68 → σ' q = σ q) → Q (rh M w lo n H 0 (24, -1)).2 σ') : V_X10_nextLook (nI M) (nI w) σ Q := by
  unfold V_X10_nextLook B_X10_nextLook_e
  have core : ∀ d h (p : Nat × Int32) (s : St), h + d = H → p.1 ≤ 24 → s 67 2 = nI p.1 → s 67 3 = p.2 → (∀ q, q ≠ 67 → q ≠ 68 → s q = σ q) → rh M w lo n H 0 (24, -1) = rh M w lo n d h p → R_X10_nextLook (nI M) (nI w) Q 45 [nI H, nI lo, nI (lo + n - 1), nI h] [] s := by
    intro d
    induction d with
    | zero =>
      intro h p s hh hb e2 e3 hf hw
      refine i_X10_nextLook_45 _ _ _ _ _ _ _ _ ?_
      unfold B_X10_nextLook_45
      refine ⟨fun _ => ?_, fun c => absurd (by rw [q_le (by omega) (by omega)]; omega) c⟩
      have := hq s hf
      rw [hw] at this
      rw [e3]
      exact this
    | succ d ih =>
      intro h p s hh hb e2 e3 hf hw
      refine i_X10_nextLook_45 _ _ _ _ _ _ _ _ ?_
      unfold B_X10_nextLook_45
      refine ⟨fun c => absurd (by rw [q_le (by omega) (by omega)] at c; exact c) (by omega), fun _ => ?_⟩
      have inV : ∀ e v (p' : Nat × Int32) (s' : St), v + e = lo + n → p'.1 ≤ 24 → s' 67 2 = nI p'.1 → s' 67 3 = p'.2 → (∀ q, q ≠ 67 → q ≠ 68 → s' q = σ q) → rv M w h n lo p = rv M w h e v p' → R_X10_nextLook (nI M) (nI w) Q 55 [nI H, nI lo, nI (lo + n - 1), nI h, nI v] [] s' := by
        intro e
        induction e with
        | zero =>
          intro v p' s' hv hb' e2' e3' hf' hw'
          refine i_X10_nextLook_55 _ _ _ _ _ _ _ _ _ ?_
          unfold B_X10_nextLook_55
          refine ⟨fun _ => ?_, fun c => absurd (by rw [q_lt (by omega) (by omega)]; omega) c⟩
          rw [nI_1]
          refine ih (h + 1) p' s' (by omega) hb' e2' e3' hf' ?_
          rw [hw]
          show rh M w lo n d (h + 1) (rv M w h n lo p) = _
          rw [hw']
          rfl
        | succ e ihv =>
          intro v p' s' hv hb' e2' e3' hf' hw'
          refine i_X10_nextLook_55 _ _ _ _ _ _ _ _ _ ?_
          unfold B_X10_nextLook_55
          refine ⟨fun c => absurd (by rw [q_lt (by omega) (by omega)] at c; exact c) (by omega), fun _ => t_empty e2' e3' (fun s3 hp3 f3 => ?_)⟩
          have xw : rv M w h (e + 1) v p' = rv M w h e (v + 1) (st1 M w h v p') := rfl
          have hml : lm M w h v ≤ 6 := lm_le
          have inK : ∀ f k (c : Nat → Nat) (s4 : St), k + f = 6 → Pt s4 c (mx1 (bi M) (fun k => sy w k h v) k) p'.1 p'.2 → (∀ u, u < 24 → c u = mu (bi M) (fun k => sy w k h v) u k) → (∀ q, q ≠ 67 → q ≠ 68 → s4 q = σ q) → R_X10_nextLook (nI M) (nI w) Q 72 [nI H, nI lo, nI (lo + n - 1), nI h, nI v, nI k] [] s4 := by
            intro f
            induction f with
            | zero =>
              intro k c s4 hk hp hcc hf4
              refine i_X10_nextLook_72 _ _ _ _ _ _ _ _ _ _ ?_
              unfold B_X10_nextLook_72
              rw [(by omega : k = 6)] at *
              have ex : (10 : Int32) * nI h + nI v = nI (10 * h + v) := by rw [show (10 : Int32) = nI 10 from rfl, show nI 10 * nI h = nI (10 * h) from pk_mul 10 h, nI_add]
              rw [ex, nI_1]
              refine ⟨fun _ => t_offer hp (by unfold lm at hml; omega) (by omega) (fun hk => ?_) (fun h1 h2 s5 hp5 f5 => ?_), fun c => absurd (by decide) c⟩
              · refine ihv (v + 1) p' s4 (by omega) hb' hp.2.2.1 hp.2.2.2 hf4 ?_
                rw [hw', xw]
                unfold st1
                rw [if_neg (by unfold lm; omega)]
              · refine ihv (v + 1) (lm M w h v, nI (10 * h + v)) s5 (by omega) (show lm M w h v ≤ 24 by omega) hp5.2.2.1 hp5.2.2.2 (fun q q1 q2 => by rw [f5 q q1, hf4 q q1 q2]) ?_
                rw [hw', xw]
                unfold st1
                rw [if_pos (by unfold lm; exact ⟨h1, h2⟩)]
            | succ f ihk =>
              intro k c s4 hk hp hcc hf4
              refine i_X10_nextLook_72 _ _ _ _ _ _ _ _ _ _ ?_
              unfold B_X10_nextLook_72
              have hmg := mx1_le (p := bi M) (f := fun k => sy w k h v) k
              have hcg := mu_le (p := bi M) (f := fun k => sy w k h v) (v := sy w k h v) k
              have hsy : sy w k h v ≤ 8 := sy_le (by omega)
              have x1 : mx1 (bi M) (fun k => sy w k h v) (k + 1) = if bi M k = true then max (mx1 (bi M) (fun k => sy w k h v) k) (mu (bi M) (fun k => sy w k h v) (sy w k h v) k + 1) else mx1 (bi M) (fun k => sy w k h v) k := rfl
              have x2 : ∀ u, mu (bi M) (fun k => sy w k h v) u (k + 1) = mu (bi M) (fun k => sy w k h v) u k + (if bi M k = true ∧ sy w k h v = u then 1 else 0) := fun u => rfl
              rw [q_bit (by omega) (by omega)]
              refine ⟨fun c => absurd (by rw [show (6 : Int32) = nI 6 from rfl, q_le (by omega) (by omega)] at c; exact c) (by omega), fun _ => ?_⟩
              by_cases z : M / 2 ^ k % 2 = 1
              · have zb : bi M k = true := decide_eq_true z
                rw [if_pos zb] at x1
                refine fr_f (by rw [z]; rfl) (v_says (by omega) (by omega) (by omega) (by omega) (by omega) (t_add hp (by omega) (by rw [hcc _ (by omega)]; omega) (by omega) (fun s5 hp5 f5 => ?_)))
                rw [hcc _ (by omega), ← x1] at hp5
                rw [nI_1]
                refine ihk (k + 1) _ s5 (by omega) hp5 (fun u hu => ?_) (fun q h1 h2 => by rw [f5 q h1 h2, hf4 q h1 h2])
                rw [x2 u]
                unfold upN
                by_cases y : u = sy w k h v
                · rw [if_pos y, if_pos ⟨zb, y.symm⟩, y]
                · rw [if_neg y, if_neg (fun q => y q.2.symm), hcc u hu]
                  rfl
              · have zb : ¬ bi M k = true := fun c => z (of_decide_eq_true c)
                rw [if_neg zb] at x1
                have hm2 := Nat.mod_lt (M / 2 ^ k) (show 0 < 2 by omega)
                refine fr_t (by rw [show (1 : Int32) = nI 1 from rfl, q_eq (by omega) (by omega)]; exact z) ?_
                rw [← x1] at hp
                rw [nI_1]
                refine ihk (k + 1) c s4 (by omega) hp (fun u hu => ?_) hf4
                rw [x2 u, if_neg (fun q => zb q.1), hcc u hu]
                rfl
          exact inK 6 0 (fun _ => 0) s3 (by omega) hp3 (fun u hu => rfl) (fun q q1 q2 => by rw [f3 q q1 q2, hf' q q1 q2])
      exact inV n lo p s (by omega) hb e2 e3 hf rfl
  have k33 : R_X10_nextLook (nI M) (nI w) Q 33 [nI H, nI lo, nI (lo + n - 1)] [] σ := by
    refine i_X10_nextLook_33 _ _ _ _ _ _ _ ?_
    unfold B_X10_nextLook_33
    exact t_begin (fun s2 b3 b2 f2 => core H 0 (24, -1) s2 (by omega) (by decide) b2 b3 (fun q q1 q2 => f2 q q1) rfl)
  rcases hc with ⟨rfl, rfl, rfl, rfl⟩ | ⟨rfl, rfl, rfl, rfl⟩
  · refine br_f (by decide) (i_X10_nextLook_11 _ _ _ _ _ ?_)
    unfold B_X10_nextLook_11
    refine br_f (by decide) (i_X10_nextLook_21 _ _ _ _ _ _ ?_)
    unfold B_X10_nextLook_21
    exact br_f (by decide) k33
  · refine br_t rfl (i_X10_nextLook_11 _ _ _ _ _ ?_)
    unfold B_X10_nextLook_11
    refine br_t rfl (i_X10_nextLook_21 _ _ _ _ _ _ ?_)
    unfold B_X10_nextLook_21
    exact br_t rfl k33
end O26
