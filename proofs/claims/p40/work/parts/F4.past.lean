/-! what may be undone -/
def sv (A : Nat → Nat) : Nat → Nat := fun i =>
  if A 5 = 8 then (if 101 ≤ i ∧ i < 171 then A (i + 10) else if 171 ≤ i ∧ i < 181 then A (6 + (i - 171)) else A i)
  else (if i = 5 then A 5 + 1 else if 101 + 10 * A 5 ≤ i ∧ i < 111 + 10 * A 5 then A (6 + (i - (101 + 10 * A 5))) else A i)
def svn (A : Nat → Nat) : Nat := if A 5 = 8 then 8 else A 5 + 1
theorem sv_8 {A : Nat → Nat} (h : A 5 = 8) (i : Nat) : sv A i = if 101 ≤ i ∧ i < 171 then A (i + 10) else if 171 ≤ i ∧ i < 181 then A (6 + (i - 171)) else A i := by unfold sv; rw [if_pos h]
theorem sv_n8 {A : Nat → Nat} (h : ¬ A 5 = 8) (i : Nat) : sv A i = if i = 5 then A 5 + 1 else if 101 + 10 * A 5 ≤ i ∧ i < 111 + 10 * A 5 then A (6 + (i - (101 + 10 * A 5))) else A i := by unfold sv; rw [if_neg h]
theorem sv_lo {A : Nat → Nat} {i : Nat} (h : i < 101) (h5 : i ≠ 5) : sv A i = A i := by
  by_cases e : A 5 = 8
  · rw [sv_8 e, if_neg (by omega), if_neg (by omega)]
  · rw [sv_n8 e, if_neg h5, if_neg (by omega)]
theorem sv_5 {A : Nat → Nat} : sv A 5 = svn A := by
  unfold svn
  by_cases e : A 5 = 8
  · rw [sv_8 e, if_pos e, if_neg (by omega), if_neg (by omega)]; exact e
  · rw [sv_n8 e, if_neg e, if_pos rfl]
theorem sv_new {A : Nat → Nat} {k : Nat} (hk : k < 10) : sv A (101 + 10 * (svn A - 1) + k) = A (6 + k) := by
  unfold svn
  by_cases e : A 5 = 8
  · rw [sv_8 e, if_pos e, if_neg (by omega), if_pos (by omega)]
    exact congrArg A (by omega)
  · rw [sv_n8 e, if_neg e, if_neg (by omega), if_pos (by omega)]
    exact congrArg A (by omega)
theorem sv_old {A : Nat → Nat} {r k : Nat} (h8 : A 5 ≤ 8) (hr : r < svn A - 1) (hk : k < 10) : sv A (101 + 10 * r + k) = A (101 + 10 * (r + (if A 5 = 8 then 1 else 0)) + k) := by
  unfold svn at hr
  by_cases e : A 5 = 8
  · rw [if_pos e] at hr ⊢
    rw [sv_8 e, if_pos (by omega)]
    exact congrArg A (by omega)
  · rw [if_neg e] at hr ⊢
    rw [sv_n8 e, if_neg (by omega), if_neg (by omega)]
    rfl
theorem WFA_sv {A : Nat → Nat} (h : WFA A) : WFA (sv A) := by
  obtain ⟨⟨b0, b1, b14, b15, bw, bg, bc, bd, bs⟩, w0, w15, w2, w3, w4, w5, wse, wno, wma, wpa, wmk⟩ := h
  have o := fun i (h : i < 101) (h5 : i ≠ 5) => sv_lo (A := A) h h5
  have o0 := o 0 (by omega) (by omega)
  have o1 := o 1 (by omega) (by omega)
  have o2 := o 2 (by omega) (by omega)
  have o3 := o 3 (by omega) (by omega)
  have o4 := o 4 (by omega) (by omega)
  have o14 := o 14 (by omega) (by omega)
  have o15 := o 15 (by omega) (by omega)
  have o5 := sv_5 (A := A)
  have hn : svn A ≤ 8 := by unfold svn; split <;> omega
  refine ⟨⟨by omega, by omega, by omega, by omega, fun i hi => ?_, fun g hg => ?_, fun k hk => ?_, fun j k hj hk => ?_, fun i => ?_⟩, by omega, by omega, by omega, by omega, by omega, by omega, fun i hi => ?_, fun i hi => ?_, fun i hi => ?_, fun r hr => ?_, fun g hg => ?_⟩
  · rw [o _ (by omega) (by omega)]; exact bw i hi
  · rw [o (22 + g) (by omega) (by omega), o (6 + g) (by omega) (by omega)]; exact bg g (by omega)
  · rw [o (37 + k) (by omega) (by omega), o (40 + k) (by omega) (by omega)]; exact bc k (by omega)
  · rw [o (40 + j) (by omega) (by omega), o (40 + k) (by omega) (by omega)]; exact bd j k (by omega) (by omega)
  · unfold sv
    split
    · split
      · exact bs _
      · split
        · exact bs _
        · exact bs _
    · split
      · omega
      · split
        · exact bs _
        · exact bs _
  · rw [o (43 + 2 * i) (by omega) (by omega), o (43 + 2 * i + 1) (by omega) (by omega)]; exact wse i (by omega)
  · rw [o (53 + 4 * i + 1) (by omega) (by omega), o (53 + 4 * i + 2) (by omega) (by omega)]; exact wno i (by omega)
  · rw [o (77 + 4 * i + 1) (by omega) (by omega), o (77 + 4 * i + 2) (by omega) (by omega)]; exact wma i (by omega)
  · by_cases z : r = svn A - 1
    · subst z
      rw [sv_new (k := 8) (by omega), sv_new (k := 9) (by omega)]
      refine ⟨fun g hg => ?_, b14, w15⟩
      rw [sv_new (by omega)]
      exact (bg g (by omega)).2
    · have hr2 : r < svn A - 1 := by omega
      rw [sv_old (k := 8) w5 hr2 (by omega), sv_old (k := 9) w5 hr2 (by omega)]
      have hq : r + (if A 5 = 8 then 1 else 0) < A 5 := by
        unfold svn at hr2
        split
        · rename_i e; rw [if_pos e] at hr2; omega
        · rename_i e; rw [if_neg e] at hr2; omega
      refine ⟨fun g hg => ?_, (wpa _ hq).2⟩
      rw [sv_old (k := g) w5 hr2 (by omega)]
      exact (wpa _ hq).1 g (by omega)
  · rw [o _ (by omega) (by omega)]; exact wmk g (by omega)
section PA
variable {σ τ : St}
set_option maxHeartbeats 4000000 in
set_option maxRecDepth 100000 in
theorem c_keep {A : Nat → Nat} (hst : StR σ 2 A) (hpa : PaR σ 11 A) (hW : WFA A) {Q : St → Prop} (hq : ∀ σ', PaR σ' 11 (sv A) → (∀ q, q ≠ 11 → q ≠ 12 → σ' q = σ q) → Q σ') : V_X4_keep 11 2 σ Q := by
  obtain ⟨⟨b0, b1, b14, b15, bw, bg, bc, bd, bs⟩, w0, w15, w2, w3, w4, w5, wse, wno, wma, wpa, wmk⟩ := hW
  obtain ⟨r0, r1, r14, r15, rw_, rk, rm, rs, rg, rb, rh⟩ := hst
  unfold V_X4_keep B_X4_keep_e
  rw [hpa.1]
  have fin : ∀ (n : Nat) (σ1 : St), n = svn A - 1 → σ1 11 1 = nI n → (∀ q, q ≠ 11 → q ≠ 12 → σ1 q = σ q) → (∀ r, r < n → (∀ g, g < A 0 → σ1 12 (9 * r + g) = nI (sv A (101 + 10 * r + g))) ∧ σ1 12 (9 * r + 7) = nI (sv A (101 + 10 * r + 8)) ∧ σ1 12 (9 * r + 8) = nI (sv A (101 + 10 * r + 9))) → R_X4_keep 11 2 Q 31 [] [] σ1 := fun n σ1 en e11 hf hrows => by
    have hn7 : n ≤ 7 := by rw [en]; unfold svn; split <;> omega
    refine i_X4_keep_31 _ _ _ _ ?_
    unfold B_X4_keep_31
    rw [e11]
    simp (disch := omega) only [q_m1, q_m1n, q_m1a, q_eq, q_le, q_lt, nI_add, pk_sub, pk_mul, pk_div, pk_rem, nI_clamp, q_in, zl0, zl1, zl2, zl3, zl4, zl5, zl6, zl7, zl8, zl9, zl10, zl11, zl12, zl13, zl14, zl15, zl16, zl17, zl18, zl19, zl20, zl21, zl22, zl23, zl24, zl25, zl26, zl27, zl28, zl29, zl30, zl31, zl32, zl36, zl37, zl38, zl40, zl42, zl43, zl44, zl48, zl53, zl54, zl57, zl59, zl60, zl61, zl63, zl64, zl70, zl71, zl72, zl77, zl78, zl90, zl97, zl98, zl99, zl100, zl101, zl102, zl106, zl111, zl122, zl127, zl128, zl150, zl181, zl256, zl362, zl9999, zl999999, zl1000000]
    refine ⟨by omega, by omega, fun s1 f1 => ⟨by omega, fun s2 f2 => ⟨by omega, fun s3 f3 => fun s4 f4 => ?_⟩⟩⟩
    rw [hf 6 (by omega) (by omega)] at f1
    subst f1
    rw [us_ne (j := 2) (by omega), hf 2 (by omega) (by omega), us_same, us_us] at f2
    subst f2
    rw [us_ne (j := 2) (by omega), hf 2 (by omega) (by omega), us_same, us_us] at f3
    subst f3
    rw [us_ne (j := 11) (by omega), e11] at f4
    subst f4
    have z5 : svn A = n + 1 := by
      have : 1 ≤ svn A := by unfold svn; split <;> omega
      omega
    refine hq _ ⟨by rw [us_same, pk_us, sv_5, z5]; exact nI_add _ 1, fun r hr => ?_⟩ (fun q h1 h2 => by rw [us_ne h1, us_ne h2]; exact hf q h1 h2)
    rw [sv_5, z5] at hr
    rw [sv_lo (i := 0) (by omega) (by omega), us_ne (j := 11 + 1) (by omega), us_same]
    by_cases z : r = n
    · subst z
      have hnew : ∀ k, k < 10 → sv A (101 + 10 * r + k) = A (6 + k) := fun k hk => by
        have := sv_new (A := A) hk
        rw [z5] at this
        exact this
      refine ⟨fun g hg => ?_, ?_, ?_⟩
      · rw [pk_un (by omega), pk_un (by omega), pk_cpy_in (by omega) (by omega), hnew g (by omega), ← rs g hg]
        exact congrArg _ (by omega)
      · rw [pk_un (by omega), (by omega : 9 * r + 7 = r * 9 + 7), pk_us, hnew 8 (by omega)]; exact r14
      · rw [(by omega : 9 * r + 8 = r * 9 + 8), pk_us, hnew 9 (by omega)]; exact r15
    · obtain ⟨q1, q2, q3⟩ := hrows r (by omega)
      refine ⟨fun g hg => ?_, ?_, ?_⟩
      · rw [pk_un (by omega), pk_un (by omega), pk_cpy_out (by omega)]; exact q1 g hg
      · rw [pk_un (by omega), pk_un (by omega), pk_cpy_out (by omega)]; exact q2
      · rw [pk_un (by omega), pk_un (by omega), pk_cpy_out (by omega)]; exact q3
  by_cases e8 : A 5 = 8
  · have es : svn A = 8 := by unfold svn; rw [if_pos e8]
    rw [e8]
    refine br_f (by decide) (fun s1 f1 s2 f2 => ?_)
    subst f1; subst f2
    refine fin 7 _ (by omega) (by rw [us_same, pk_us]; rfl) (fun q h1 h2 => by rw [us_ne h1, us_ne h2]) (fun r hr => ?_)
    rw [us_ne (j := 12) (by omega), us_same]
    obtain ⟨q1, q2, q3⟩ := hpa.2 (r + 1) (by omega)
    have ho : ∀ k, k < 10 → sv A (101 + 10 * r + k) = A (101 + 10 * (r + 1) + k) := fun k hk => by
      have := sv_old (A := A) (r := r) (k := k) w5 (by omega) hk
      rw [if_pos e8] at this
      exact this
    refine ⟨fun g hg => ?_, ?_, ?_⟩
    · rw [pk_cpy_in (by omega) (by omega), ho g (by omega), ← q1 g hg]
      exact congrArg _ (by omega)
    · rw [pk_cpy_in (by omega) (by omega), ho 8 (by omega), ← q2]
      exact congrArg _ (by omega)
    · rw [pk_cpy_in (by omega) (by omega), ho 9 (by omega), ← q3]
      exact congrArg _ (by omega)
  · have es : svn A = A 5 + 1 := by unfold svn; rw [if_neg e8]
    refine br_t (by rw [show (8 : Int32) = nI 8 from rfl, q_lt (by omega) (by omega)]; omega) ?_
    refine fin (A 5) σ (by omega) hpa.1 (fun _ _ _ => rfl) (fun r hr => ?_)
    have ho : ∀ k, k < 10 → sv A (101 + 10 * r + k) = A (101 + 10 * r + k) := fun k hk => by
      have := sv_old (A := A) (r := r) (k := k) w5 (by omega) hk
      rw [if_neg e8] at this
      exact this
    rw [ho 8 (by omega), ho 9 (by omega)]
    refine ⟨fun g hg => ?_, (hpa.2 r hr).2⟩
    rw [ho g (by omega)]
    exact (hpa.2 r hr).1 g hg
end PA

/-! the street and its past change, nothing else -/
theorem CR.step {σ σ' : St} {S : SS} {B : CB} {A' : Nat → Nat} (H : CR σ S B) (hW : WFA (S 0)) (e : ∀ q, ¬ (2 ≤ q ∧ q ≤ 12) → σ' q = σ q) (hs : StR σ' 2 A') (hp : PaR σ' 11 A') (f : ∀ i, (2 ≤ i ∧ i < 5) ∨ (43 ≤ i ∧ i < 101) → A' i = S 0 i) : CR σ' (sA S A') B := by
  obtain ⟨-, -, -, w2, w3, w4, -⟩ := hW
  refine H.sc (fun q hq => e q (by omega)) ⟨hs, hp, H.1.2.2.1.c (e _ (by omega)) (e _ (by omega)) w2 (f _ (by omega)) (fun i h1 h2 => f i (by omega)), H.1.2.2.2.1.c (e _ (by omega)) (e _ (by omega)) w3 (f _ (by omega)) (fun i h1 h2 => f i (by omega)), H.1.2.2.2.2.c (e _ (by omega)) (e _ (by omega)) w4 (f _ (by omega)) (fun i h1 h2 => f i (by omega))⟩ ?_
  obtain ⟨-, -, -, h4, -⟩ := H
  unfold RowC at *
  rw [e 13 (by omega), e 15 (by omega), e 17 (by omega)]
  exact h4
theorem it_tl {a : Nat → Nat} {i : Nat} (h0 : a 0 ≤ 8) (h : i < 6 ∨ 16 ≤ i) (n : Nat) : it n a i = a i := by
  rcases h with h | h
  · exact it_lo h n
  · exact it_hi h0 h n
theorem WFA_it {A : Nat → Nat} (h : WFA A) {m : Nat} (hm : A 15 + m ≤ 9999) : WFA (it m A) := by
  have h0 := h.1.1
  have o := fun i hi => it_tl (a := A) (i := i) h0 hi m
  have o0 := o 0 (by omega)
  have hk := h.2.2.2.2.2.2.2.2.2.2.2
  have h7 := h.2.1
  refine h.upd (Bd_it h.1 m (by omega)) (by omega) (by rw [it_15 h0]; exact hm) ⟨o _ (by omega), fun i h1 h2 => o i (by omega)⟩ ⟨o _ (by omega), fun i h1 h2 => o i (by omega)⟩ ⟨o _ (by omega), fun i h1 h2 => o i (by omega)⟩ (Or.inr ⟨o _ (by omega), o0, fun i h1 => o i (by omega)⟩) (fun g hg => ?_)
  rw [o _ (by omega)]
  exact hk g (by omega)
theorem q_xor : ∀ m, m < 8 → ∀ k, k < 3 → nI m ^^^ nI (2 ^ k) = nI (m ^^^ 2 ^ k) ∧ m ^^^ 2 ^ k < 8 := by decide +kernel
def ub (A : Nat → Nat) : Nat → Nat := fun i => if i = 5 then A 5 - 1 else if 6 ≤ i ∧ i < 16 then A (101 + 10 * (A 5 - 1) + (i - 6)) else A i
theorem ub_o {A : Nat → Nat} {i : Nat} (h5 : i ≠ 5) (h : ¬ (6 ≤ i ∧ i < 16)) : ub A i = A i := by unfold ub; rw [if_neg h5, if_neg h]
theorem ub_k {A : Nat → Nat} {k : Nat} (h : k < 10) : ub A (6 + k) = A (101 + 10 * (A 5 - 1) + k) := by
  unfold ub
  rw [if_neg (by omega), if_pos (by omega)]
  exact congrArg A (by omega)
theorem ub_5 {A : Nat → Nat} : ub A 5 = A 5 - 1 := if_pos rfl
theorem WFA_ub {A : Nat → Nat} (h : WFA A) (hn : 0 < A 5) : WFA (ub A) := by
  obtain ⟨⟨b0, b1, b14, b15, bw, bg, bc, bd, bs⟩, w0, w15, w2, w3, w4, w5, wse, wno, wma, wpa, wmk⟩ := h
  have o := fun i (h : i < 6 ∨ 16 ≤ i) (h5 : i ≠ 5) => ub_o (A := A) (i := i) h5 (by omega)
  have o0 := o 0 (by omega) (by omega)
  have o1 := o 1 (by omega) (by omega)
  have o2 := o 2 (by omega) (by omega)
  have o3 := o 3 (by omega) (by omega)
  have o4 := o 4 (by omega) (by omega)
  have o5 := ub_5 (A := A)
  obtain ⟨p1, p2, p3⟩ := wpa (A 5 - 1) (by omega)
  have o14 : ub A 14 = A (101 + 10 * (A 5 - 1) + 8) := ub_k (k := 8) (by omega)
  have o15 : ub A 15 = A (101 + 10 * (A 5 - 1) + 9) := ub_k (k := 9) (by omega)
  refine ⟨⟨by omega, by omega, by omega, by omega, fun i hi => ?_, fun g hg => ?_, fun k hk => ?_, fun j k hj hk => ?_, fun i => ?_⟩, by omega, by omega, by omega, by omega, by omega, by omega, fun i hi => ?_, fun i hi => ?_, fun i hi => ?_, fun r hr => ?_, fun g hg => ?_⟩
  · rw [o _ (by omega) (by omega)]; exact bw i hi
  · rw [o (22 + g) (by omega) (by omega), ub_k (by omega)]; exact ⟨(bg g (by omega)).1, p1 g (by omega)⟩
  · rw [o (37 + k) (by omega) (by omega), o (40 + k) (by omega) (by omega)]; exact bc k (by omega)
  · rw [o (40 + j) (by omega) (by omega), o (40 + k) (by omega) (by omega)]; exact bd j k (by omega) (by omega)
  · unfold ub
    split
    · omega
    · split
      · exact bs _
      · exact bs _
  · rw [o (43 + 2 * i) (by omega) (by omega), o (43 + 2 * i + 1) (by omega) (by omega)]; exact wse i (by omega)
  · rw [o (53 + 4 * i + 1) (by omega) (by omega), o (53 + 4 * i + 2) (by omega) (by omega)]; exact wno i (by omega)
  · rw [o (77 + 4 * i + 1) (by omega) (by omega), o (77 + 4 * i + 2) (by omega) (by omega)]; exact wma i (by omega)
  · rw [o (101 + 10 * r + 8) (by omega) (by omega), o (101 + 10 * r + 9) (by omega) (by omega)]
    refine ⟨fun g hg => ?_, (wpa r (by omega)).2⟩
    rw [o _ (by omega) (by omega)]
    exact (wpa r (by omega)).1 g (by omega)
  · rw [o _ (by omega) (by omega)]; exact wmk g (by omega)
section O9
variable {σ τ : St} {a1 a2 a3 a4 : Int32}
theorem StR.shut {h : Nat} {a : Nat → Nat} (H : StR σ h a) (h7 : a 0 ≤ 7) {x : Nat} : StR (us σ h (upd (σ h) 10 (nI x))) h (upN a 14 x) := by
  obtain ⟨r0, r1, r14, r15, rw_, rk, rm, rs, rg, rb, rh⟩ := H
  have eb : ∀ s, bh (upN a 14 x) s = bh a s := fun s => by
    unfold bh
    rw [upN_n (j := 1) (by omega), upN_n (j := 40) (by omega), upN_n (j := 41) (by omega), upN_n (j := 42) (by omega)]
  unfold StR
  rw [us_same, pk_us, pk_un (by omega), pk_un (by omega), pk_un (by omega), us_ne (j := h + 1) (by omega), us_ne (j := h + 2) (by omega), us_ne (j := h + 3) (by omega), us_ne (j := h + 4) (by omega), us_ne (j := h + 5) (by omega), us_ne (j := h + 6) (by omega), us_ne (j := h + 7) (by omega), upN_s, upN_n (j := 0) (by omega), upN_n (j := 1) (by omega), upN_n (j := 15) (by omega)]
  exact ⟨r0, r1, rfl, r15, fun i hi => by rw [upN_n (by omega)]; exact rw_ i hi, fun g hg => by rw [upN_n (by omega)]; exact rk g hg, fun g hg h7 => by rw [upN_n (by omega)]; exact rm g hg h7, fun g hg => if z : 6 + g = 14 then by omega else by rw [upN_n z]; exact rs g hg, fun k hk => by rw [upN_n (by omega)]; exact rg k hk, fun k hk => by rw [upN_n (by omega)]; exact rb k hk, fun s hs => by rw [eb]; exact rh s hs⟩
end O9

/-! the images -/
section O10
variable {σ τ : St} {a1 a2 a3 a4 : Int32}
theorem pa_copy {h0 h1 : Nat} {A : Nat → Nat} (H : PaR σ h1 A) (h8 : A 5 ≤ 8) (h7 : A 0 ≤ 7) (hd : h0 + 1 < h1 ∨ h1 + 1 < h0) {Q : St → Prop} (hq : ∀ σ', PaR σ' h0 A → (∀ q, q ≠ h0 → q ≠ h0 + 1 → σ' q = σ q) → Q σ') : V_X4_copy h0 h1 σ Q := by
  unfold V_X4_copy B_X4_copy_e
  intro s1 e1 s2 e2
  have e21 : s2 (h0 + 1) = va_cpy (σ (h1 + 1)) (σ (h0 + 1)) 0 0 72 := by rw [e2, us_ne (by omega), e1, us_same]
  refine hq _ ⟨?_, fun r hr => ?_⟩ (fun q hq1 hq2 => by rw [e2, us_ne hq1, e1, us_ne hq2])
  · rw [e2, us_same, pk_us, e1, us_ne (by omega)]; exact H.1
  · obtain ⟨q1, q2, q3⟩ := H.2 r hr
    rw [e21]
    exact ⟨fun g hg => by rw [va_cpy0 (by omega)]; exact q1 g hg, by rw [va_cpy0 (by omega)]; exact q2, by rw [va_cpy0 (by omega)]; exact q3⟩
theorem ro_copy {h0 h1 : Nat} (hd : h0 + 1 < h1 ∨ h1 + 1 < h0) {Q : St → Prop} (hq : ∀ σ', σ' h0 3 = σ h1 3 → (∀ j, j < 24 → σ' (h0 + 1) j = σ (h1 + 1) j) → (∀ j, j ≠ 3 → σ' h0 j = σ h0 j) → (∀ q, q ≠ h0 → q ≠ h0 + 1 → σ' q = σ q) → Q σ') : V_X6_copy h0 h1 σ Q := by
  unfold V_X6_copy B_X6_copy_e
  intro s1 e1 s2 e2
  refine hq _ ?_ (fun j hj => ?_) (fun j hj => ?_) (fun q hq1 hq2 => by rw [e2, us_ne hq1, e1, us_ne hq2])
  · rw [e2, us_same, pk_us, e1, us_ne (by omega)]
  · rw [e2, us_ne (by omega), e1, us_same, va_cpy0 hj]
  · rw [e2, us_same, pk_un hj, e1, us_ne (by omega)]
set_option maxHeartbeats 4000000 in
set_option maxRecDepth 100000 in
theorem sc_copy {h0 h1 : Nat} {A : Nat → Nat} (H : SceR σ h1 A) (hW : WFA A) (hd : h0 + 18 ≤ h1 ∨ h1 + 18 ≤ h0) {Q : St → Prop} (hq : ∀ σ', SceR σ' h0 A → (∀ q, q < h0 ∨ h0 + 17 < q → σ' q = σ q) → (∀ q j, j ≠ 3 → q = h0 + 12 ∨ q = h0 + 14 ∨ q = h0 + 16 → σ' q j = σ q j) → Q σ') : V_X7_copy h0 h1 σ Q := by
  unfold V_X7_copy B_X7_copy_e
  obtain ⟨⟨b0, b1, b14, b15, bw, bg, bc, bd, bs⟩, w0, w15, w2, w3, w4, w5, -⟩ := hW
  obtain ⟨hst, hpa, hse, hno, hma⟩ := H
  refine s_copy hst w0 b1 (by omega) (fun s1 hs1 f1 => ?_)
  refine pa_copy (A := A) (hpa.c (f1 _ (by omega)) (f1 _ (by omega)) rfl rfl (fun _ _ => rfl)) w5 w0 (by omega) (fun s2 hp2 f2 => ?_)
  refine ro_copy (by omega) (fun s3 a3 b3 c3 f3 => ?_)
  refine ro_copy (by omega) (fun s4 a4 b4 c4 f4 => ?_)
  refine ro_copy (by omega) (fun s5 a5 b5 c5 f5 => ?_)
  have g2 : ∀ q, (q < h0 + 1 ∨ h0 + 11 < q) → s2 q = σ q := fun q hq => by rw [f2 q (by omega) (by omega), f1 q (by omega)]
  refine hq _ ⟨?_, ?_, ?_, ?_, ?_⟩ (fun q hq => ?_) (fun q j hj hq => ?_)
  · exact hs1.congr (fun q h1 h2 => by rw [f5 q (by omega) (by omega), f4 q (by omega) (by omega), f3 q (by omega) (by omega), f2 q (by omega) (by omega)])
  · refine hp2.c ?_ ?_ rfl rfl (fun _ _ => rfl)
    · rw [f5 _ (by omega) (by omega), f4 _ (by omega) (by omega), f3 _ (by omega) (by omega)]
    · rw [f5 _ (by omega) (by omega), f4 _ (by omega) (by omega), f3 _ (by omega) (by omega)]
  · have k1 : s5 (h0 + 12) = s3 (h0 + 12) := by rw [f5 _ (by omega) (by omega), f4 _ (by omega) (by omega)]
    have k2 : s5 (h0 + 12 + 1) = s3 (h0 + 12 + 1) := by rw [f5 _ (by omega) (by omega), f4 _ (by omega) (by omega)]
    unfold SeR
    rw [k1, k2, a3, g2 _ (by omega)]
    refine ⟨hse.1, fun i hi => ?_⟩
    rw [b3 _ (by omega), b3 _ (by omega), g2 _ (by omega)]
    exact hse.2 i hi
  · have k1 : s5 (h0 + 14) = s4 (h0 + 14) := by rw [f5 _ (by omega) (by omega)]
    have k2 : s5 (h0 + 14 + 1) = s4 (h0 + 14 + 1) := by rw [f5 _ (by omega) (by omega)]
    have l1 : s3 (h1 + 14) = σ (h1 + 14) := by rw [f3 _ (by omega) (by omega), g2 _ (by omega)]
    have l2 : s3 (h1 + 14 + 1) = σ (h1 + 14 + 1) := by rw [f3 _ (by omega) (by omega), g2 _ (by omega)]
    unfold FoR
    rw [k1, k2, a4, l1]
    refine ⟨hno.1, fun i hi j hj => ?_⟩
    rw [b4 _ (by omega), l2]
    exact hno.2 i hi j hj
  · have l1 : s4 (h1 + 16) = σ (h1 + 16) := by rw [f4 _ (by omega) (by omega), f3 _ (by omega) (by omega), g2 _ (by omega)]
    have l2 : s4 (h1 + 16 + 1) = σ (h1 + 16 + 1) := by rw [f4 _ (by omega) (by omega), f3 _ (by omega) (by omega), g2 _ (by omega)]
    unfold FoR
    rw [a5, l1]
    refine ⟨hma.1, fun i hi j hj => ?_⟩
    rw [b5 _ (by omega), l2]
    exact hma.2 i hi j hj
  · rw [f5 _ (by omega) (by omega), f4 _ (by omega) (by omega), f3 _ (by omega) (by omega), g2 _ (by omega)]
  · rcases hq with rfl | rfl | rfl
    · rw [f5 _ (by omega) (by omega), f4 _ (by omega) (by omega), c3 j hj, g2 _ (by omega)]
    · rw [f5 _ (by omega) (by omega), c4 j hj, f3 _ (by omega) (by omega), g2 _ (by omega)]
    · rw [c5 j hj, f4 _ (by omega) (by omega), f3 _ (by omega) (by omega), g2 _ (by omega)]
def im (S : SS) (w : Nat) : SS := fun i => if i = 1 + w then S 0 else if i = 3 then upN (S 3) w 1 else S i
theorem im_o {S : SS} {w i : Nat} (h1 : i ≠ 1 + w) (h3 : i ≠ 3) : im S w i = S i := by unfold im; rw [if_neg h1, if_neg h3]
theorem im_w {S : SS} {w : Nat} : im S w (1 + w) = S 0 := by unfold im; rw [if_pos rfl]
theorem im_3 {S : SS} {w : Nat} (hw : w < 2) : im S w 3 = upN (S 3) w 1 := by unfold im; rw [if_neg (by omega), if_pos rfl]
theorem q_kept : ∀ a, a < 2 → ∀ b, b < 2 → ∀ w, w < 2 → nI (a + 2 * b) ||| nI (2 ^ w) = nI ((if w = 0 then 1 else a) + 2 * (if w = 1 then 1 else b)) ∧ (a + 2 * b) / 2 ^ w % 2 = (if w = 0 then a else b) := by decide +kernel
theorem q_64 {n : Nat} (h : n < 2147483648) : (nI n).toInt64 = lN n := by
  apply Int64.toInt_inj.mp
  rw [Int32.toInt_toInt64, nI_toInt h, lN_toInt (by omega)]
end O10

