/-! the digest -/
def fs (f : Nat → Nat) (y : Int64) : Nat → Int64
  | 0 => y
  | n + 1 => (31 * fs f y n) + (nI (f n)).toInt64
def gf (A : Nat → Nat) (y : Int64) : Nat → Int64
  | 0 => y
  | g + 1 => (31 * ((31 * ((31 * gf A y g) + (nI (A (22 + g))).toInt64)) + (nI (A (30 + g))).toInt64)) + (nI (A (6 + g))).toInt64
def cf (A : Nat → Nat) (y : Int64) : Nat → Int64
  | 0 => y
  | k + 1 => (31 * ((31 * ((31 * cf A y k) + (nI (A (37 + k))).toInt64)) + (nI (A (40 + k))).toInt64)) + (nI (A 14 / 2 ^ k % 2)).toInt64
def fold1 (A : Nat → Nat) (y : Int64) : Int64 := cf A (gf A (fs (fun i => A (16 + i)) y 6) (A 0)) (A 1)
def fold2 (A : Nat → Nat) (y : Int64) : Int64 := fs (fun i => A (77 + i)) (fs (fun i => A (53 + i)) (fs (fun i => A (43 + i)) y (2 * A 2)) (4 * A 3)) (4 * A 4)
def dg (S : SS) : Int64 := (31 * ((31 * fold2 (S 0) (fold1 (S 0) (fs (cN S) 1619 11))) + (nI (S 4 0)).toInt64)) + (nI (S 4 1)).toInt64
section O15
variable {σ τ : St} {a1 a2 a3 a4 : Int32}
set_option maxHeartbeats 4000000 in
set_option maxRecDepth 100000 in
theorem m_sums {A : Nat → Nat} {b n : Nat} {y : Int64} (hR : RowN τ 1 181 A) (hb : b + n ≤ 181) {Q : Int64 → St → Prop} (hq : Q (fs (fun i => A (b + i)) y n) τ) : V_X11_sums y (nI b) (nI n) τ Q := by
  unfold V_X11_sums B_X11_sums_e
  have loop : ∀ d x, x + d = n → R_X11_sums y (nI b) (nI n) Q 6 [nI x] [fs (fun i => A (b + i)) y x] τ := by
    intro d
    induction d with
    | zero =>
      intro x hx
      refine i_X11_sums_6 _ _ _ _ _ _ _ ?_
      unfold B_X11_sums_6
      rw [(by omega : x = n)]
      exact ⟨fun _ => hq, fun c => absurd (by rw [q_le (by omega) (by omega)]; omega) c⟩
    | succ d ih =>
      intro x hx
      refine i_X11_sums_6 _ _ _ _ _ _ _ ?_
      unfold B_X11_sums_6
      rw [nI_add, nI_clamp (by omega), hR (b + x) (by omega)]
      refine ⟨fun c => absurd (by rw [q_le (by omega) (by omega)] at c; exact c) (by omega), fun _ => ⟨vp_in_nI (by omega) (by omega), fun v1 e1 => ?_⟩⟩
      subst e1
      rw [nI_1]
      exact ih (x + 1) (by omega)
  exact loop n 0 (by omega)
set_option maxHeartbeats 4000000 in
set_option maxRecDepth 100000 in
theorem c_rowfold {q n per : Nat} {f : Nat → Nat} {y : Int64} (e3 : σ q 3 = nI n) (e2 : σ q 2 = nI per) (hn : n ≤ 6) (hp : per ≤ 4) (hc : ∀ i j, i < n → j < per → σ (q + 1) (4 * i + j) = nI (f (per * i + j))) {Q : Int64 → St → Prop} (hq : Q (fs f y (per * n)) σ) : V_X6_folded q y σ Q := by
  unfold V_X6_folded B_X6_folded_e
  have loop : ∀ d i, i + d = n → R_X6_folded q y Q 5 [nI i] [fs f y (per * i)] σ := by
    intro d
    induction d with
    | zero =>
      intro i hi
      refine i_X6_folded_5 _ _ _ _ _ _ ?_
      unfold B_X6_folded_5
      rw [e3, (by omega : i = n)]
      exact ⟨fun _ => hq, fun c => absurd (by rw [q_le (by omega) (by omega)]; omega) c⟩
    | succ d ih =>
      intro i hi
      refine i_X6_folded_5 _ _ _ _ _ _ ?_
      unfold B_X6_folded_5
      rw [e3]
      refine ⟨fun c => absurd (by rw [q_le (by omega) (by omega)] at c; exact c) (by omega), fun _ => ?_⟩
      have inner : ∀ d2 j, j + d2 = per → R_X6_folded q y Q 17 [nI i, nI j] [fs f y (per * i + j)] σ := by
        intro d2
        induction d2 with
        | zero =>
          intro j hj
          refine i_X6_folded_17 _ _ _ _ _ _ _ ?_
          unfold B_X6_folded_17
          rw [e2, (by omega : j = per)]
          refine ⟨fun _ => ?_, fun c => absurd (by rw [q_le (by omega) (by omega)]; omega) c⟩
          rw [nI_1, ← Nat.mul_succ]
          exact ih (i + 1) (by omega)
        | succ d2 ih2 =>
          intro j hj
          refine i_X6_folded_17 _ _ _ _ _ _ _ ?_
          unfold B_X6_folded_17 V_X6_cell B_X6_cell_e
          have em : nI i * 4 + nI j = nI (4 * i + j) := by rw [show (4 : Int32) = nI 4 from rfl, show nI i * nI 4 = nI (i * 4) from pk_mul i 4, nI_add]; exact congrArg nI (by omega)
          rw [e2, em, nI_clamp (by omega), hc i j (by omega) (by omega)]
          refine ⟨fun c => absurd (by rw [q_le (by omega) (by omega)] at c; exact c) (by omega), fun _ => ⟨vp_in_nI (by omega) (by omega), ?_⟩⟩
          rw [nI_1]
          exact ih2 (j + 1) (by omega)
      exact inner per 0 (by omega)
  exact loop n 0 (by omega)
set_option maxHeartbeats 4000000 in
set_option maxRecDepth 100000 in
theorem c_fold {h : Nat} {A : Nat → Nat} {y : Int64} (H : StR σ h A) (hB : Bd A) (h7 : A 0 ≤ 7) {Q : Int64 → St → Prop} (hq : Q (fold1 A y) σ) : V_X8_folded h y σ Q := by
  obtain ⟨r0, r1, r14, r15, rw_, rk, rm, rs, rg, rb, rh⟩ := id H
  have hs : Sm A := hB.2.2.2.2.2.2.2.2
  have h1 := hB.2.1
  unfold V_X8_folded B_X8_folded_e
  have l3 : ∀ d k, k + d = A 1 → R_X8_folded h y Q 99 [nI k] [cf A (gf A (fs (fun i => A (16 + i)) y 6) (A 0)) k] σ := by
    intro d
    induction d with
    | zero =>
      intro k hk
      refine i_X8_folded_99 _ _ _ _ _ _ ?_
      unfold B_X8_folded_99
      rw [r1, (by omega : k = A 1)]
      exact ⟨fun _ => hq, fun c => absurd (by rw [q_le (by omega) (by omega)]; omega) c⟩
    | succ d ih =>
      intro k hk
      refine i_X8_folded_99 _ _ _ _ _ _ ?_
      unfold B_X8_folded_99
      rw [r1, nI_clamp (by omega), rg k (by omega), rb k (by omega)]
      refine ⟨fun c => absurd (by rw [q_le (by omega) (by omega)] at c; exact c) (by omega), fun _ => ⟨vp_in_nI (by omega) (by omega), fun v1 e1 => ⟨vp_in_nI (by omega) (by omega), fun v2 e2 => v_shutBit (hs 14) (by omega) r14 ?_⟩⟩⟩
      subst e2; subst e1
      rw [nI_1]
      exact ih (k + 1) (by omega)
  have l2 : ∀ d g, g + d = A 0 → R_X8_folded h y Q 36 [nI g] [gf A (fs (fun i => A (16 + i)) y 6) g] σ := by
    intro d
    induction d with
    | zero =>
      intro g hg
      refine i_X8_folded_36 _ _ _ _ _ _ ?_
      unfold B_X8_folded_36
      rw [r0, (by omega : g = A 0)]
      exact ⟨fun _ => l3 (A 1) 0 (by omega), fun c => absurd (by rw [q_le (by omega) (by omega)]; omega) c⟩
    | succ d ih =>
      intro g hg
      refine i_X8_folded_36 _ _ _ _ _ _ ?_
      unfold B_X8_folded_36
      rw [r0, nI_clamp (by omega), rk g (by omega), rm g (by omega) (by omega), rs g (by omega)]
      refine ⟨fun c => absurd (by rw [q_le (by omega) (by omega)] at c; exact c) (by omega), fun _ => ⟨vp_in_nI (by omega) (by omega), fun v1 e1 => ⟨vp_in_nI (by omega) (by omega), fun v2 e2 => ⟨vp_in_nI (by omega) (by omega), fun v3 e3 => ?_⟩⟩⟩⟩
      subst e3; subst e2; subst e1
      rw [nI_1]
      exact ih (g + 1) (by omega)
  have l1 : ∀ d x, x + d = 6 → R_X8_folded h y Q 5 [nI x] [fs (fun i => A (16 + i)) y x] σ := by
    intro d
    induction d with
    | zero =>
      intro x hx
      refine i_X8_folded_5 _ _ _ _ _ _ ?_
      unfold B_X8_folded_5
      rw [(by omega : x = 6)]
      exact ⟨fun _ => l2 (A 0) 0 (by omega), fun c => absurd (by decide) c⟩
    | succ d ih =>
      intro x hx
      refine i_X8_folded_5 _ _ _ _ _ _ ?_
      unfold B_X8_folded_5
      rw [nI_clamp (by omega), rw_ x (by omega)]
      refine ⟨fun c => absurd (by rw [show (6 : Int32) = nI 6 from rfl, q_le (by omega) (by omega)] at c; exact c) (by omega), fun _ => ⟨vp_in_nI (by omega) (by omega), fun v1 e1 => ?_⟩⟩
      subst e1
      rw [nI_1]
      exact ih (x + 1) (by omega)
  exact l1 6 0 (by omega)
set_option maxHeartbeats 4000000 in
set_option maxRecDepth 100000 in
theorem c_digest {S : SS} {B : CB} (HC : CR σ S B) (HW : WF S) {Q : Int64 → St → Prop} (hq : Q (dg S) σ) : V_X10_digest σ Q := by
  obtain ⟨c0, c1, c2, crow, c7, c8, c9, c10, c11, c12, c70, c71⟩ := id HC
  obtain ⟨hst, hpa, hse, hno, hma⟩ := id c0
  obtain ⟨wB, w0, w15, w2, w3, w4, w5, -⟩ := id HW.1
  obtain ⟨o1, o2, o3, o4, o5, o6⟩ := id crow
  unfold V_X10_digest B_X10_digest_e
  have loop : ∀ d x, x + d = 11 → R_X10_digest Q 6 [nI x] [fs (cN S) 1619 x] σ := by
    intro d
    induction d with
    | zero =>
      intro x hx
      refine i_X10_digest_6 _ _ _ _ ?_
      unfold B_X10_digest_6
      refine ⟨fun _ => ?_, fun c => absurd (by rw [show (11 : Int32) = nI 11 from rfl, q_le (by omega) (by omega)]; omega) c⟩
      rw [(by omega : x = 11)]
      refine c_fold hst wB w0 (c_rowfold (f := fun i => S 0 (43 + i)) hse.1 o2 (by omega) (by omega) (fun i j hi hj => ?_) (c_rowfold (f := fun i => S 0 (53 + i)) hno.1 o4 w3 (by omega) (fun i j hi hj => ?_) (c_rowfold (f := fun i => S 0 (77 + i)) hma.1 o6 w4 (by omega) (fun i j hi hj => ?_) (fun v5 e5 => ?_))))
      · rcases (by omega : j = 0 ∨ j = 1) with rfl | rfl
        · exact (hse.2 i hi).1
        · exact (hse.2 i hi).2
      · rw [hno.2 i hi j hj]; exact congrArg (fun x => nI (S 0 x)) (by omega)
      · rw [hma.2 i hi j hj]; exact congrArg (fun x => nI (S 0 x)) (by omega)
      · rw [c9]
        rw [c8] at e5
        subst e5
        exact hq
    | succ d ih =>
      intro x hx
      refine i_X10_digest_6 _ _ _ _ ?_
      unfold B_X10_digest_6
      refine ⟨fun c => absurd (by rw [show (11 : Int32) = nI 11 from rfl, q_le (by omega) (by omega)] at c; exact c) (by omega), fun _ => c_counted HC HW (by omega) ?_⟩
      rw [nI_1]
      exact ih (x + 1) (by omega)
  exact loop 11 0 (by omega)
set_option maxHeartbeats 4000000 in
set_option maxRecDepth 100000 in
theorem m_digest {S : SS} {B : CB} (HM : MR τ S B) (HW : WF S) {Q : Int64 → St → Prop} (hq : Q (dg S) τ) : V_X11_digest τ Q := by
  obtain ⟨m1, m2, m3, m4, m5, m6, m28, m30, m11, m9⟩ := id HM
  obtain ⟨wB, w0, w15, w2, w3, w4, w5, -⟩ := id HW.1
  have h40 := HW.2.2.2.2.2.1
  have h41 := HW.2.2.2.2.2.2.1
  have h1 := wB.2.1
  have hs := HW.1.sm
  unfold V_X11_digest B_X11_digest_e
  have l3 : ∀ d k, k + d = S 0 1 → R_X11_digest Q 106 [nI k] [cf (S 0) (gf (S 0) (fs (fun i => S 0 (16 + i)) (fs (cN S) 1619 11) 6) (S 0 0)) k] τ := by
    intro d
    induction d with
    | zero =>
      intro k hk
      refine i_X11_digest_106 _ _ _ _ ?_
      unfold B_X11_digest_106
      rw [m1 1 (by omega), (by omega : k = S 0 1), m1 2 (by omega), show (2 : Int32) * nI (S 0 2) = nI (2 * S 0 2) from pk_mul 2 _]
      refine ⟨fun _ => m_sums (b := 43) m1 (by omega) ?_, fun c => absurd (by rw [q_le (by omega) (by omega)]; omega) c⟩
      rw [m1 3 (by omega), show (4 : Int32) * nI (S 0 3) = nI (4 * S 0 3) from pk_mul 4 _]
      refine m_sums (b := 53) m1 (by omega) ?_
      rw [m1 4 (by omega), show (4 : Int32) * nI (S 0 4) = nI (4 * S 0 4) from pk_mul 4 _]
      refine m_sums (b := 77) m1 (by omega) ?_
      rw [m28, m30, ← nI_l (by omega), ← nI_l (by omega)]
      exact hq
    | succ d ih =>
      intro k hk
      refine i_X11_digest_106 _ _ _ _ ?_
      unfold B_X11_digest_106
      rw [m1 1 (by omega), show (37 : Int32) = nI 37 from rfl, show (40 : Int32) = nI 40 from rfl, nI_add, nI_add, nI_clamp (by omega), nI_clamp (by omega), m1 (37 + k) (by omega), m1 (40 + k) (by omega), m1 14 (by omega), q_bit (hs 14) (by omega)]
      refine ⟨fun c => absurd (by rw [q_le (by omega) (by omega)] at c; exact c) (by omega), fun _ => ⟨vp_in_nI (by omega) (by omega), vp_in_nI (by omega) (by omega), fun v4 e4 => ?_⟩⟩
      subst e4
      rw [nI_1]
      exact ih (k + 1) (by omega)
  have l2 : ∀ d g, g + d = S 0 0 → R_X11_digest Q 43 [nI g] [gf (S 0) (fs (fun i => S 0 (16 + i)) (fs (cN S) 1619 11) 6) g] τ := by
    intro d
    induction d with
    | zero =>
      intro g hg
      refine i_X11_digest_43 _ _ _ _ ?_
      unfold B_X11_digest_43 V_X11_many B_X11_many_e
      rw [m1 0 (by omega), (by omega : g = S 0 0)]
      exact ⟨fun _ => l3 (S 0 1) 0 (by omega), fun c => absurd (by rw [q_le (by omega) (by omega)]; omega) c⟩
    | succ d ih =>
      intro g hg
      refine i_X11_digest_43 _ _ _ _ ?_
      unfold B_X11_digest_43 V_X11_many B_X11_many_e
      rw [m1 0 (by omega), show (22 : Int32) = nI 22 from rfl, show (30 : Int32) = nI 30 from rfl, show (6 : Int32) = nI 6 from rfl, nI_add, nI_add, nI_add, nI_clamp (by omega), nI_clamp (by omega), nI_clamp (by omega)]
      refine ⟨fun c => absurd (by rw [q_le (by omega) (by omega)] at c; exact c) (by omega), fun _ => ⟨vp_in_nI (by omega) (by omega), vp_in_nI (by omega) (by omega), vp_in_nI (by omega) (by omega), fun v2 e2 => ?_⟩⟩
      rw [m1 (22 + g) (by omega), m1 (30 + g) (by omega), m1 (6 + g) (by omega)] at e2
      subst e2
      rw [nI_1]
      exact ih (g + 1) (by omega)
  have loop : ∀ d x, x + d = 11 → R_X11_digest Q 6 [nI x] [fs (cN S) 1619 x] τ := by
    intro d
    induction d with
    | zero =>
      intro x hx
      refine i_X11_digest_6 _ _ _ _ ?_
      unfold B_X11_digest_6
      refine ⟨fun _ => ?_, fun c => absurd (by rw [show (11 : Int32) = nI 11 from rfl, q_le (by omega) (by omega)]; omega) c⟩
      rw [(by omega : x = 11)]
      exact m_sums (b := 16) (n := 6) m1 (by omega) (l2 (S 0 0) 0 (by omega))
    | succ d ih =>
      intro x hx
      refine i_X11_digest_6 _ _ _ _ ?_
      unfold B_X11_digest_6
      refine ⟨fun c => absurd (by rw [show (11 : Int32) = nI 11 from rfl, q_le (by omega) (by omega)] at c; exact c) (by omega), fun _ => m_counted HM HW (by omega) ?_⟩
      rw [nI_1]
      exact ih (x + 1) (by omega)
  exact loop 11 0 (by omega)
theorem p_digest (hJ : J σ τ) : V_X10_digest σ (fun r σ' => V_X11_digest τ (fun r' τ' => r = r' ∧ J σ' τ')) := by
  obtain ⟨S, B, HC, HM, HW⟩ := hJ
  exact c_digest HC HW (m_digest HM HW ⟨rfl, S, B, HC, HM, HW⟩)
end O15
