/-! the state of the whole object, told in numbers; what either side holds of it -/
abbrev SS : Type := Nat → Nat → Nat
abbrev CB : Type := Nat → Int32
def PaR (σ : St) (q : Nat) (A : Nat → Nat) : Prop := σ q 1 = nI (A 5) ∧ ∀ r, r < A 5 → (∀ g, g < A 0 → σ (q + 1) (9 * r + g) = nI (A (101 + 10 * r + g))) ∧ σ (q + 1) (9 * r + 7) = nI (A (101 + 10 * r + 8)) ∧ σ (q + 1) (9 * r + 8) = nI (A (101 + 10 * r + 9))
def SeR (σ : St) (q : Nat) (A : Nat → Nat) : Prop := σ q 3 = nI (A 2) ∧ ∀ i, i < A 2 → σ (q + 1) (4 * i) = nI (A (43 + 2 * i)) ∧ σ (q + 1) (4 * i + 1) = nI (A (43 + 2 * i + 1))
def FoR (σ : St) (q : Nat) (A : Nat → Nat) (cn base : Nat) : Prop := σ q 3 = nI (A cn) ∧ ∀ i, i < A cn → ∀ j, j < 4 → σ (q + 1) (4 * i + j) = nI (A (base + 4 * i + j))
def SceR (σ : St) (c : Nat) (A : Nat → Nat) : Prop := StR σ (c + 1) A ∧ PaR σ (c + 10) A ∧ SeR σ (c + 12) A ∧ FoR σ (c + 14) A 3 53 ∧ FoR σ (c + 16) A 4 77
theorem StR.cA {σ : St} {h : Nat} {A A' : Nat → Nat} (H : StR σ h A) (e : ∀ i, i < 43 → i < 2 ∨ 6 ≤ i → A' i = A i) (h8 : A 0 ≤ 7) (h3 : A 1 ≤ 3) : StR σ h A' := by
  obtain ⟨r0, r1, r14, r15, rw, rk, rm, rs, rg, rb, rh⟩ := H
  have e0 := e 0 (by omega) (by omega)
  have e1 := e 1 (by omega) (by omega)
  have eb : ∀ s, bh A' s = bh A s := fun s => by
    unfold bh
    rw [e1, e 40 (by omega) (by omega), e 41 (by omega) (by omega), e 42 (by omega) (by omega)]
  unfold StR
  rw [e0, e1, e 14 (by omega) (by omega), e 15 (by omega) (by omega)]
  exact ⟨r0, r1, r14, r15, fun i hi => by rw [e _ (by omega) (by omega)]; exact rw i hi, fun j hj => by rw [e _ (by omega) (by omega)]; exact rk j hj, fun j hj h7 => by rw [e _ (by omega) (by omega)]; exact rm j hj h7, fun j hj => by rw [e _ (by omega) (by omega)]; exact rs j hj, fun k hk => by rw [e _ (by omega) (by omega)]; exact rg k hk, fun k hk => by rw [e _ (by omega) (by omega)]; exact rb k hk, fun s hs => by rw [eb]; exact rh s hs⟩
theorem PaR.c {σ σ' : St} {q : Nat} {A A' : Nat → Nat} (H : PaR σ q A) (e1 : σ' q = σ q) (e2 : σ' (q + 1) = σ (q + 1)) (f5 : A' 5 = A 5) (f0 : A' 0 = A 0) (f : ∀ i, 101 ≤ i → A' i = A i) : PaR σ' q A' := by
  obtain ⟨h1, h2⟩ := H
  unfold PaR
  rw [e1, e2, f5, f0]
  refine ⟨h1, fun r hr => ⟨fun g hg => ?_, ?_, ?_⟩⟩
  · rw [f _ (by omega)]; exact (h2 r hr).1 g hg
  · rw [f _ (by omega)]; exact (h2 r hr).2.1
  · rw [f _ (by omega)]; exact (h2 r hr).2.2
theorem PaR.z {σ' : St} {q : Nat} {A' : Nat → Nat} (e1 : σ' q 1 = nI 0) (f5 : A' 5 = 0) : PaR σ' q A' := ⟨by rw [e1, f5], fun r hr => absurd hr (by omega)⟩
theorem SeR.c {σ σ' : St} {q : Nat} {A A' : Nat → Nat} (H : SeR σ q A) (e1 : σ' q = σ q) (e2 : σ' (q + 1) = σ (q + 1)) (h5 : A 2 ≤ 5) (f2 : A' 2 = A 2) (f : ∀ i, 43 ≤ i → i < 53 → A' i = A i) : SeR σ' q A' := by
  obtain ⟨h1, h2⟩ := H
  unfold SeR
  rw [e1, e2, f2]
  refine ⟨h1, fun r hr => ⟨?_, ?_⟩⟩
  · rw [f _ (by omega) (by omega)]; exact (h2 r hr).1
  · rw [f _ (by omega) (by omega)]; exact (h2 r hr).2
theorem FoR.c {σ σ' : St} {q : Nat} {A A' : Nat → Nat} {cn base : Nat} (H : FoR σ q A cn base) (e1 : σ' q = σ q) (e2 : σ' (q + 1) = σ (q + 1)) (h5 : A cn ≤ 6) (f2 : A' cn = A cn) (f : ∀ i, base ≤ i → i < base + 24 → A' i = A i) : FoR σ' q A' cn base := by
  obtain ⟨h1, h2⟩ := H
  unfold FoR
  rw [e1, e2, f2]
  refine ⟨h1, fun r hr j hj => ?_⟩
  rw [f _ (by omega) (by omega)]; exact h2 r hr j hj
theorem SceR.congr {σ σ' : St} {c : Nat} {A : Nat → Nat} (H : SceR σ c A) (e : ∀ q, c ≤ q → q ≤ c + 17 → σ' q = σ q) : SceR σ' c A := by
  obtain ⟨h1, h2, h3, h4, h5⟩ := H
  unfold SceR PaR SeR FoR at *
  rw [e (c + 10) (by omega) (by omega), e (c + 10 + 1) (by omega) (by omega), e (c + 12) (by omega) (by omega), e (c + 12 + 1) (by omega) (by omega), e (c + 14) (by omega) (by omega), e (c + 14 + 1) (by omega) (by omega), e (c + 16) (by omega) (by omega), e (c + 16 + 1) (by omega) (by omega)]
  exact ⟨h1.congr (fun q _ _ => e q (by omega) (by omega)), h2, h3, h4, h5⟩
def WFA (A : Nat → Nat) : Prop := Bd A ∧ A 0 ≤ 7 ∧ A 15 ≤ 9999 ∧ A 2 ≤ 5 ∧ A 3 ≤ 6 ∧ A 4 ≤ 6 ∧ A 5 ≤ 8 ∧ (∀ i, i < A 2 → A (43 + 2 * i) ≤ 60 ∧ A (43 + 2 * i + 1) ≤ 23) ∧ (∀ i, i < A 3 → A (53 + 4 * i + 1) ≤ 99 ∧ A (53 + 4 * i + 2) ≤ 4) ∧ (∀ i, i < A 4 → A (77 + 4 * i + 1) ≤ 99 ∧ A (77 + 4 * i + 2) ≤ 7) ∧ (∀ r, r < A 5 → (∀ g, g < A 0 → A (101 + 10 * r + g) ≤ 23) ∧ A (101 + 10 * r + 8) < 8 ∧ A (101 + 10 * r + 9) ≤ 9999) ∧ (∀ g, g < A 0 → A (30 + g) ≤ 9)
def WF (S : SS) : Prop := WFA (S 0) ∧ (S 3 0 = 1 → WFA (S 1)) ∧ (S 3 1 = 1 → WFA (S 2)) ∧ S 3 0 ≤ 1 ∧ S 3 1 ≤ 1 ∧ S 4 0 ≤ 1000 ∧ S 4 1 ≤ 1000 ∧ S 6 0 ≤ 150 ∧ (∀ i, i < S 6 0 → S 5 i ≤ 127)
def RowC (σ : St) : Prop := σ 13 1 = nI 5 ∧ σ 13 2 = nI 2 ∧ σ 15 1 = nI 6 ∧ σ 15 2 = nI 4 ∧ σ 17 1 = nI 6 ∧ σ 17 2 = nI 4
def CR (σ : St) (S : SS) (B : CB) : Prop := SceR σ 1 (S 0) ∧ (S 3 0 = 1 → SceR σ 19 (S 1)) ∧ (S 3 1 = 1 → SceR σ 37 (S 2)) ∧ RowC σ ∧ σ 0 7 = nI (S 3 0 + 2 * S 3 1) ∧ σ 0 8 = nI (S 4 0) ∧ σ 0 9 = nI (S 4 1) ∧ σ 0 10 = B 0 ∧ σ 0 11 = B 1 ∧ σ 0 12 = B 2 ∧ σ 70 1 = nI (S 6 0) ∧ (∀ i, i < S 6 0 → σ 71 i = nI (S 5 i))
def MR (τ : St) (S : SS) (B : CB) : Prop := RowN τ 1 181 (S 0) ∧ (S 3 0 = 1 → ∀ i, i < 181 → τ 2 i = nI (S 1 i)) ∧ (S 3 1 = 1 → ∀ i, i < 181 → τ 2 (181 + i) = nI (S 2 i)) ∧ τ 3 0 = nI (S 3 0) ∧ τ 3 1 = nI (S 3 1) ∧ (∀ j, j < 3 → τ 4 j = B j) ∧ lg2 (τ 0 28) (τ 0 29) = lN (S 4 0) ∧ lg2 (τ 0 30) (τ 0 31) = lN (S 4 1) ∧ τ 0 11 = nI (S 6 0) ∧ (∀ i, i < S 6 0 → τ 9 i = nI (S 5 i))
def sA (S : SS) (A : Nat → Nat) : SS := fun i => if i = 0 then A else S i
theorem sA_0 {S : SS} {A : Nat → Nat} : sA S A 0 = A := if_pos rfl
theorem sA_n {S : SS} {A : Nat → Nat} {i : Nat} (h : i ≠ 0) : sA S A i = S i := if_neg h
theorem sA_sA {S : SS} {A A' : Nat → Nat} : sA (sA S A) A' = sA S A' := by
  funext i
  unfold sA
  split <;> rfl
def bb (B : CB) (k : Nat) : CB := fun j => if j = k then B k + 1 else B j
theorem CR.congr {σ σ' : St} {S : SS} {B : CB} (H : CR σ S B) (e : ∀ q, q < 55 ∨ q = 70 ∨ q = 71 → σ' q = σ q) : CR σ' S B := by
  obtain ⟨h1, h2, h3, h4, h5⟩ := H
  unfold CR RowC at *
  rw [e 0 (by omega), e 13 (by omega), e 15 (by omega), e 17 (by omega), e 70 (by omega), e 71 (by omega)]
  exact ⟨h1.congr (fun q _ _ => e q (by omega)), fun c => (h2 c).congr (fun q _ _ => e q (by omega)), fun c => (h3 c).congr (fun q _ _ => e q (by omega)), h4, h5⟩
theorem CR.sc {σ σ' : St} {S : SS} {B : CB} {A' : Nat → Nat} (H : CR σ S B) (e : ∀ q, ¬ (1 ≤ q ∧ q ≤ 18) → σ' q = σ q) (hs : SceR σ' 1 A') (hc : RowC σ') : CR σ' (sA S A') B := by
  obtain ⟨h1, h2, h3, h4, h5⟩ := H
  unfold CR
  rw [sA_0, sA_n (i := 1) (by omega), sA_n (i := 2) (by omega), sA_n (i := 3) (by omega), sA_n (i := 4) (by omega), sA_n (i := 5) (by omega), sA_n (i := 6) (by omega), e 0 (by omega), e 70 (by omega), e 71 (by omega)]
  exact ⟨hs, fun c => (h2 c).congr (fun q _ _ => e q (by omega)), fun c => (h3 c).congr (fun q _ _ => e q (by omega)), hc, h5⟩
theorem MR.congr {τ τ' : St} {S : SS} {B : CB} (H : MR τ S B) (e : ∀ q, q < 5 ∨ q = 9 → τ' q = τ q) : MR τ' S B := by
  unfold MR at *
  have er : RowN τ' 1 181 (S 0) ↔ RowN τ 1 181 (S 0) := by unfold RowN; rw [e 1 (by omega)]
  rw [er, e 0 (by omega), e 2 (by omega), e 3 (by omega), e 4 (by omega), e 9 (by omega)]
  exact H
theorem MR.row {τ : St} {S : SS} {B : CB} {A' : Nat → Nat} {row : Nat → Int32} (H : MR τ S B) (hr : ∀ i, i < 181 → row i = nI (A' i)) : MR (us τ 1 row) (sA S A') B := by
  obtain ⟨h1, h2⟩ := H
  unfold MR
  rw [sA_0, sA_n (i := 1) (by omega), sA_n (i := 2) (by omega), sA_n (i := 3) (by omega), sA_n (i := 4) (by omega), sA_n (i := 5) (by omega), sA_n (i := 6) (by omega), us_ne (j := 0) (by omega), us_ne (j := 2) (by omega), us_ne (j := 3) (by omega), us_ne (j := 4) (by omega), us_ne (j := 9) (by omega)]
  exact ⟨fun i hi => by rw [us_same]; exact hr i hi, h2⟩
theorem MR.up {τ : St} {S : SS} {B : CB} {i v : Nat} (H : MR τ S B) : MR (us τ 1 (upd (τ 1) i (nI v))) (sA S (upN (S 0) i v)) B := H.row (fun j hj => by
  unfold upd upN
  split
  · rfl
  · exact H.1 j hj)
theorem fr_t {c A B : Prop} (h : ¬ c) (a : A) : (¬ c → A) ∧ (c → B) := ⟨fun _ => a, fun q => absurd q h⟩
theorem fr_f {c A B : Prop} (h : c) (b : B) : (¬ c → A) ∧ (c → B) := ⟨fun q => absurd h q, fun _ => b⟩
section WW
variable {σ : St} {S : SS} {B : CB} {x : Int32} {Q : Int32 → St → Prop}
theorem cw1 {lo hi : Int32} {l u : Int} (k : okI x l u) (el : lo.toInt = l) (eh : hi.toInt = u) (q : Q 1 σ) : V_X10_within x lo hi σ Q := v_within1 (by rw [el, eh]; exact k) q
theorem cw0 {lo hi : Int32} {l u : Int} (k : ¬ okI x l u) (el : lo.toInt = l) (eh : hi.toInt = u) (q : Q 0 σ) : V_X10_within x lo hi σ Q := v_within0 (by rw [el, eh]; exact k) q
theorem mw1 {lo hi : Int64} {l u : Int} (k : okI x l u) (el : lo.toInt = l) (eh : hi.toInt = u) (q : Q 1 σ) : V_X11_in x.toInt64 lo hi σ Q := v_in1 (by rw [el, eh]; exact k) q
theorem mw0 {lo hi : Int64} {l u : Int} (k : ¬ okI x l u) (el : lo.toInt = l) (eh : hi.toInt = u) (q : Q 0 σ) : V_X11_in x.toInt64 lo hi σ Q := v_in0 (by rw [el, eh]; exact k) q
theorem lessI {n : Nat} (h : n < 1000) : (nI n - 1).toInt = (n : Int) - 1 := pk_sub_toInt (a := n) (b := 1) (by omega) (by omega)
theorem lessL {n : Nat} (h : n < 1000) : (nI n - 1).toInt64.toInt = (n : Int) - 1 := by rw [Int32.toInt_toInt64]; exact lessI h
theorem c_isG1 (H : CR σ S B) (h7 : S 0 0 ≤ 7) (k : okI x 0 ((S 0 0 : Int) - 1)) (q : Q 1 σ) : V_X10_isGlove x σ Q := by
  unfold V_X10_isGlove B_X10_isGlove_e
  rw [show σ 2 8 = nI (S 0 0) from H.1.1.1]
  exact cw1 k rfl (lessI (by omega)) q
theorem c_isG0 (H : CR σ S B) (h7 : S 0 0 ≤ 7) (k : ¬ okI x 0 ((S 0 0 : Int) - 1)) (q : Q 0 σ) : V_X10_isGlove x σ Q := by
  unfold V_X10_isGlove B_X10_isGlove_e
  rw [show σ 2 8 = nI (S 0 0) from H.1.1.1]
  exact cw0 k rfl (lessI (by omega)) q
theorem c_isC1 (H : CR σ S B) (h7 : S 0 1 ≤ 3) (k : okI x 0 ((S 0 1 : Int) - 1)) (q : Q 1 σ) : V_X10_isCrossing x σ Q := by
  unfold V_X10_isCrossing B_X10_isCrossing_e
  rw [show σ 2 9 = nI (S 0 1) from H.1.1.2.1]
  exact cw1 k rfl (lessI (by omega)) q
theorem c_isC0 (H : CR σ S B) (h7 : S 0 1 ≤ 3) (k : ¬ okI x 0 ((S 0 1 : Int) - 1)) (q : Q 0 σ) : V_X10_isCrossing x σ Q := by
  unfold V_X10_isCrossing B_X10_isCrossing_e
  rw [show σ 2 9 = nI (S 0 1) from H.1.1.2.1]
  exact cw0 k rfl (lessI (by omega)) q
theorem m_isG1 (H : MR σ S B) (h7 : S 0 0 ≤ 7) (k : okI x 0 ((S 0 0 : Int) - 1)) (q : Q 1 σ) : V_X11_isGlove x σ Q := by
  unfold V_X11_isGlove B_X11_isGlove_e V_X11_many B_X11_many_e
  rw [show σ 1 0 = nI (S 0 0) from H.1 0 (by omega)]
  exact mw1 k rfl (lessL (by omega)) q
theorem m_isG0 (H : MR σ S B) (h7 : S 0 0 ≤ 7) (k : ¬ okI x 0 ((S 0 0 : Int) - 1)) (q : Q 0 σ) : V_X11_isGlove x σ Q := by
  unfold V_X11_isGlove B_X11_isGlove_e V_X11_many B_X11_many_e
  rw [show σ 1 0 = nI (S 0 0) from H.1 0 (by omega)]
  exact mw0 k rfl (lessL (by omega)) q
theorem m_isC1 (H : MR σ S B) (h7 : S 0 1 ≤ 3) (k : okI x 0 ((S 0 1 : Int) - 1)) (q : Q 1 σ) : V_X11_isCrossing x σ Q := by
  unfold V_X11_isCrossing B_X11_isCrossing_e
  rw [show σ 1 1 = nI (S 0 1) from H.1 1 (by omega)]
  exact mw1 k rfl (lessL (by omega)) q
theorem m_isC0 (H : MR σ S B) (h7 : S 0 1 ≤ 3) (k : ¬ okI x 0 ((S 0 1 : Int) - 1)) (q : Q 0 σ) : V_X11_isCrossing x σ Q := by
  unfold V_X11_isCrossing B_X11_isCrossing_e
  rw [show σ 1 1 = nI (S 0 1) from H.1 1 (by omega)]
  exact mw0 k rfl (lessL (by omega)) q
theorem CR.bump (H : CR σ S B) {k : Nat} (hk : k < 3) : CR (us σ 0 (upd (σ 0) (10 + k) (σ 0 (10 + k) + 1))) S (bb B k) := by
  obtain ⟨h1, h2, h3, h4, h5, h6, h7, h8, h9, h10, h11, h12⟩ := H
  unfold CR RowC at *
  simp (disch := omega) only [us_same, us_ne]
  refine ⟨h1.congr (fun q _ _ => us_ne (by omega)), fun c => (h2 c).congr (fun q _ _ => us_ne (by omega)), fun c => (h3 c).congr (fun q _ _ => us_ne (by omega)), h4, by rw [pk_un (by omega)]; exact h5, by rw [pk_un (by omega)]; exact h6, by rw [pk_un (by omega)]; exact h7, ?_, ?_, ?_, h11, h12⟩
  all_goals (rcases (by omega : k = 0 ∨ k = 1 ∨ k = 2) with rfl | rfl | rfl <;> simp_all [upd, bb])
theorem MR.bump (H : MR σ S B) {k : Nat} (hk : k < 3) : MR (us σ 4 (upd (σ 4) k (σ 4 k + 1))) S (bb B k) := by
  obtain ⟨h1, h2, h3, h4, h5, h6, h7⟩ := H
  unfold MR at *
  simp (disch := omega) only [us_same, us_ne]
  refine ⟨fun i hi => by rw [us_ne (by omega)]; exact h1 i hi, h2, h3, h4, h5, fun j hj => ?_, h7⟩
  unfold upd bb
  split
  · rename_i e; rw [h6 k hk]
  · exact h6 j hj
theorem c_bad (H : CR σ S B) (hq : ∀ σ', CR σ' S (bb B 0) → Q (-2) σ') : V_X10_bad σ Q := by
  unfold V_X10_bad B_X10_bad_e
  intro s1 e1
  subst e1
  exact hq _ (H.bump (k := 0) (by omega))
theorem c_badT (H : CR σ S B) (hq : ∀ σ', CR σ' S (bb B 0) → Q (-10) σ') : V_X10_badAsTen σ Q := by
  unfold V_X10_badAsTen B_X10_badAsTen_e
  intro s1 e1
  subst e1
  exact hq _ (H.bump (k := 0) (by omega))
theorem c_no (H : CR σ S B) (hq : ∀ σ', CR σ' S (bb B 1) → Q (-3) σ') : V_X10_no σ Q := by
  unfold V_X10_no B_X10_no_e
  intro s1 e1
  subst e1
  exact hq _ (H.bump (k := 1) (by omega))
theorem c_full (H : CR σ S B) (hq : ∀ σ', CR σ' S (bb B 2) → Q (-4) σ') : V_X10_full σ Q := by
  unfold V_X10_full B_X10_full_e
  intro s1 e1
  subst e1
  exact hq _ (H.bump (k := 2) (by omega))
theorem m_bad {y : Int32} (H : MR σ S B) (hq : ∀ σ', MR σ' S (bb B 0) → Q y σ') : V_X11_bad y σ Q := by
  unfold V_X11_bad B_X11_bad_e
  intro s1 e1
  subst e1
  exact hq _ (H.bump (k := 0) (by omega))
theorem m_no (H : MR σ S B) (hq : ∀ σ', MR σ' S (bb B 1) → Q (-3) σ') : V_X11_no σ Q := by
  unfold V_X11_no B_X11_no_e
  intro s1 e1
  subst e1
  exact hq _ (H.bump (k := 1) (by omega))
theorem m_full (H : MR σ S B) (hq : ∀ σ', MR σ' S (bb B 2) → Q (-4) σ') : V_X11_full σ Q := by
  unfold V_X11_full B_X11_full_e
  intro s1 e1
  subst e1
  exact hq _ (H.bump (k := 2) (by omega))
end WW
