/-! what may be undone -/
def sv (A : Nat → Nat) : Nat → Nat := fun i =>
  if A 5 = 8 then (if 101 ≤ i ∧ i < 171 then A (i + 10) else if 171 ≤ i ∧ i < 181 then A (6 + (i - 171)) else A i)
  else (if i = 5 then A 5 + 1 else if 101 + 10 * A 5 ≤ i ∧ i < 111 + 10 * A 5 then A (6 + (i - (101 + 10 * A 5))) else A i)
def svn (A : Nat → Nat) : Nat := if A 5 = 8 then 8 else A 5 + 1
theorem sv_8 {A : Nat → Nat} (h : A 5 = 8) (i : Nat) : sv A i = if 101 ≤ i ∧ i < 171 then A (i + 10) else if 171 ≤ i ∧ i < 181 then A (6 + (i - 171)) else A i := by unfold sv; rw [if_pos h]
theorem sv_n8 {A : Nat → Nat} (h : ¬ A 5 = 8) (i : Nat) : sv A i = if i = 5 then A 5 + 1 else if 101 + 10 * A 5 ≤ i ∧ i < 111 + 10 * A 5 then A (6 + (i - (101 + 10 * A 5))) else A i := by unfold sv; rw [if_neg h]
theorem sv_lo {A : Nat → Nat} {i : Nat} (h : i < 101) (h5 : i ≠ 5) : sv A i = A i := by
  by_cases e : A 5 = 8
  · rw [sv_8 e, if_neg (by omega), if_neg (by omega)]
  · rw [sv_n8 e, if_neg h5, if_neg (by omega)]
theorem sv_5 {A : Nat → Nat} : sv A 5 = svn A := by
  unfold svn
  by_cases e : A 5 = 8
  · rw [sv_8 e, if_pos e, if_neg (by omega), if_neg (by omega)]; exact e
  · rw [sv_n8 e, if_neg e, if_pos rfl]
theorem sv_new {A : Nat → Nat} {k : Nat} (hk : k < 10) : sv A (101 + 10 * (svn A - 1) + k) = A (6 + k) := by
  unfold svn
  by_cases e : A 5 = 8
  · rw [sv_8 e, if_pos e, if_neg (by omega), if_pos (by omega)]
    exact congrArg A (by omega)
  · rw [sv_n8 e, if_neg e, if_neg (by omega), if_pos (by omega)]
    exact congrArg A (by omega)
theorem sv_old {A : Nat → Nat} {r k : Nat} (h8 : A 5 ≤ 8) (hr : r < svn A - 1) (hk : k < 10) : sv A (101 + 10 * r + k) = A (101 + 10 * (r + (if A 5 = 8 then 1 else 0)) + k) := by
  unfold svn at hr
  by_cases e : A 5 = 8
  · rw [if_pos e] at hr ⊢
    rw [sv_8 e, if_pos (by omega)]
    exact congrArg A (by omega)
  · rw [if_neg e] at hr ⊢
    rw [sv_n8 e, if_neg (by omega), if_neg (by omega)]
    rfl
theorem WFA_sv {A : Nat → Nat} (h : WFA A) : WFA (sv A) := by
  obtain ⟨⟨b0, b1, b14, b15, bw, bg, bc, bd, bs⟩, w0, w15, w2, w3, w4, w5, wse, wno, wma, wpa, wmk⟩ := h
  have o := fun i (h : i < 101) (h5 : i ≠ 5) => sv_lo (A := A) h h5
  have o0 := o 0 (by omega) (by omega)
  have o1 := o 1 (by omega) (by omega)
  have o2 := o 2 (by omega) (by omega)
  have o3 := o 3 (by omega) (by omega)
  have o4 := o 4 (by omega) (by omega)
  have o14 := o 14 (by omega) (by omega)
  have o15 := o 15 (by omega) (by omega)
  have o5 := sv_5 (A := A)
  have hn : svn A ≤ 8 := by unfold svn; split <;> omega
  refine ⟨⟨by omega, by omega, by omega, by omega, fun i hi => ?_, fun g hg => ?_, fun k hk => ?_, fun j k hj hk => ?_, fun i => ?_⟩, by omega, by omega, by omega, by omega, by omega, by omega, fun i hi => ?_, fun i hi => ?_, fun i hi => ?_, fun r hr => ?_, fun g hg => ?_⟩
  · rw [o _ (by omega) (by omega)]; exact bw i hi
  · rw [o (22 + g) (by omega) (by omega), o (6 + g) (by omega) (by omega)]; exact bg g (by omega)
  · rw [o (37 + k) (by omega) (by omega), o (40 + k) (by omega) (by omega)]; exact bc k (by omega)
  · rw [o (40 + j) (by omega) (by omega), o (40 + k) (by omega) (by omega)]; exact bd j k (by omega) (by omega)
  · unfold sv
    split
    · split
      · exact bs _
      · split
        · exact bs _
        · exact bs _
    · split
      · omega
      · split
        · exact bs _
        · exact bs _
  · rw [o (43 + 2 * i) (by omega) (by omega), o (43 + 2 * i + 1) (by omega) (by omega)]; exact wse i (by omega)
  · rw [o (53 + 4 * i + 1) (by omega) (by omega), o (53 + 4 * i + 2) (by omega) (by omega)]; exact wno i (by omega)
  · rw [o (77 + 4 * i + 1) (by omega) (by omega), o (77 + 4 * i + 2) (by omega) (by omega)]; exact wma i (by omega)
  · by_cases z : r = svn A - 1
    · subst z
      rw [sv_new (k := 8) (by omega), sv_new (k := 9) (by omega)]
      refine ⟨fun g hg => ?_, b14, w15⟩
      rw [sv_new (by omega)]
      exact (bg g (by omega)).2
    · have hr2 : r < svn A - 1 := by omega
      rw [sv_old (k := 8) w5 hr2 (by omega), sv_old (k := 9) w5 hr2 (by omega)]
      have hq : r + (if A 5 = 8 then 1 else 0) < A 5 := by
        unfold svn at hr2
        split
        · rename_i e; rw [if_pos e] at hr2; omega
        · rename_i e; rw [if_neg e] at hr2; omega
      refine ⟨fun g hg => ?_, (wpa _ hq).2⟩
      rw [sv_old (k := g) w5 hr2 (by omega)]
      exact (wpa _ hq).1 g (by omega)
  · rw [o _ (by omega) (by omega)]; exact wmk g (by omega)
section PA
variable {σ τ : St}
set_option maxHeartbeats 4000000 in
set_option maxRecDepth 100000 in
theorem c_keep {A : Nat → Nat} (hst : StR σ 2 A) (hpa : PaR σ 11 A) (hW : WFA A) {Q : St → Prop} (hq : ∀ σ', PaR σ' 11 (sv A) → (∀ q, q ≠ 11 → q ≠ 12 → σ' q = σ q) → Q σ') : V_X4_keep 11 2 σ Q := by
  obtain ⟨⟨b0, b1, b14, b15, bw, bg, bc, bd, bs⟩, w0, w15, w2, w3, w4, w5, wse, wno, wma, wpa, wmk⟩ := hW
  obtain ⟨r0, r1, r14, r15, rw_, rk, rm, rs, rg, rb, rh⟩ := hst
  unfold V_X4_keep B_X4_keep_e
  rw [hpa.1]
  have fin : ∀ (n : Nat) (σ1 : St), n = svn A - 1 → σ1 11 1 = nI n → (∀ q, q ≠ 11 → q ≠ 12 → σ1 q = σ q) → (∀ r, r < n → (∀ g, g < A 0 → σ1 12 (9 * r + g) = nI (sv A (101 + 10 * r + g))) ∧ σ1 12 (9 * r + 7) = nI (sv A (101 + 10 * r + 8)) ∧ σ1 12 (9 * r + 8) = nI (sv A (101 + 10 * r + 9))) → R_X4_keep 11 2 Q 31 [] [] σ1 := fun n σ1 en e11 hf hrows => by
    have hn7 : n ≤ 7 := by rw [en]; unfold svn; split <;> omega
    refine i_X4_keep_31 _ _ _ _ ?_
    unfold B_X4_keep_31
    rw [e11]
    simp (disch := omega) only [q_m1, q_m1n, q_m1a, q_eq, q_le, q_lt, nI_add, pk_sub, pk_mul, pk_div, pk_rem, nI_clamp, q_in, zl0, zl1, zl2, zl3, zl4, zl5, zl6, zl7, zl8, zl9, zl10, zl11, zl12, zl13, zl14, zl15, zl16, zl17, zl18, zl19, zl20, zl21, zl22, zl23, zl24, zl25, zl26, zl27, zl28, zl29, zl30, zl31, zl32, zl36, zl37, zl38, zl40, zl42, zl43, zl44, zl48, zl53, zl54, zl57, zl59, zl60, zl61, zl63, zl64, zl70, zl71, zl72, zl77, zl78, zl90, zl97, zl98, zl99, zl100, zl101, zl102, zl106, zl111, zl122, zl127, zl128, zl150, zl181, zl256, zl362, zl9999, zl999999, zl1000000]
    refine ⟨by omega, by omega, fun s1 f1 => ⟨by omega, fun s2 f2 => ⟨by omega, fun s3 f3 => fun s4 f4 => ?_⟩⟩⟩
    rw [hf 6 (by omega) (by omega)] at f1
    subst f1
    rw [us_ne (j := 2) (by omega), hf 2 (by omega) (by omega), us_same, us_us] at f2
    subst f2
    rw [us_ne (j := 2) (by omega), hf 2 (by omega) (by omega), us_same, us_us] at f3
    subst f3
    rw [us_ne (j := 11) (by omega), e11] at f4
    subst f4
    have z5 : svn A = n + 1 := by
      have : 1 ≤ svn A := by unfold svn; split <;> omega
      omega
    refine hq _ ⟨by rw [us_same, pk_us, sv_5, z5]; exact nI_add _ 1, fun r hr => ?_⟩ (fun q h1 h2 => by rw [us_ne h1, us_ne h2]; exact hf q h1 h2)
    rw [sv_5, z5] at hr
    rw [sv_lo (i := 0) (by omega) (by omega), us_ne (j := 11 + 1) (by omega), us_same]
    by_cases z : r = n
    · subst z
      have hnew : ∀ k, k < 10 → sv A (101 + 10 * r + k) = A (6 + k) := fun k hk => by
        have := sv_new (A := A) hk
        rw [z5] at this
        exact this
      refine ⟨fun g hg => ?_, ?_, ?_⟩
      · rw [pk_un (by omega), pk_un (by omega), pk_cpy_in (by omega) (by omega), hnew g (by omega), ← rs g hg]
        exact congrArg _ (by omega)
      · rw [pk_un (by omega), (by omega : 9 * r + 7 = r * 9 + 7), pk_us, hnew 8 (by omega)]; exact r14
      · rw [(by omega : 9 * r + 8 = r * 9 + 8), pk_us, hnew 9 (by omega)]; exact r15
    · obtain ⟨q1, q2, q3⟩ := hrows r (by omega)
      refine ⟨fun g hg => ?_, ?_, ?_⟩
      · rw [pk_un (by omega), pk_un (by omega), pk_cpy_out (by omega)]; exact q1 g hg
      · rw [pk_un (by omega), pk_un (by omega), pk_cpy_out (by omega)]; exact q2
      · rw [pk_un (by omega), pk_un (by omega), pk_cpy_out (by omega)]; exact q3
  by_cases e8 : A 5 = 8
  · have es : svn A = 8 := by unfold svn; rw [if_pos e8]
    rw [e8]
    refine br_f (by decide) (fun s1 f1 s2 f2 => ?_)
    subst f1; subst f2
    refine fin 7 _ (by omega) (by rw [us_same, pk_us]; rfl) (fun q h1 h2 => by rw [us_ne h1, us_ne h2]) (fun r hr => ?_)
    rw [us_ne (j := 12) (by omega), us_same]
    obtain ⟨q1, q2, q3⟩ := hpa.2 (r + 1) (by omega)
    have ho : ∀ k, k < 10 → sv A (101 + 10 * r + k) = A (101 + 10 * (r + 1) + k) := fun k hk => by
      have := sv_old (A := A) (r := r) (k := k) w5 (by omega) hk
      rw [if_pos e8] at this
      exact this
    refine ⟨fun g hg => ?_, ?_, ?_⟩
    · rw [pk_cpy_in (by omega) (by omega), ho g (by omega), ← q1 g hg]
      exact congrArg _ (by omega)
    · rw [pk_cpy_in (by omega) (by omega), ho 8 (by omega), ← q2]
      exact congrArg _ (by omega)
    · rw [pk_cpy_in (by omega) (by omega), ho 9 (by omega), ← q3]
      exact congrArg _ (by omega)
  · have es : svn A = A 5 + 1 := by unfold svn; rw [if_neg e8]
    refine br_t (by rw [show (8 : Int32) = nI 8 from rfl, q_lt (by omega) (by omega)]; omega) ?_
    refine fin (A 5) σ (by omega) hpa.1 (fun _ _ _ => rfl) (fun r hr => ?_)
    have ho : ∀ k, k < 10 → sv A (101 + 10 * r + k) = A (101 + 10 * r + k) := fun k hk => by
      have := sv_old (A := A) (r := r) (k := k) w5 (by omega) hk
      rw [if_neg e8] at this
      exact this
    rw [ho 8 (by omega), ho 9 (by omega)]
    refine ⟨fun g hg => ?_, (hpa.2 r hr).2⟩
    rw [ho g (by omega)]
    exact (hpa.2 r hr).1 g hg
set_option maxHeartbeats 4000000 in
set_option maxRecDepth 100000 in
theorem m_save {S : SS} {B : CB} (HM : MR τ S B) (hW : WFA (S 0)) {Q : St → Prop} (hq : ∀ τ', MR τ' (sA S (sv (S 0))) B → Q τ') : V_X11_save τ Q := by
  have w5 := hW.2.2.2.2.2.2.1
  have hsm := hW.sm
  unfold V_X11_save B_X11_save_e
  rw [HM.1 5 (by omega)]
  have loop2 : ∀ n : Nat, n ≤ 7 → ∀ row0 : Nat → Int32, (∀ rowF : Nat → Int32, (∀ j, rowF j = if j = 5 then nI (n + 1) else if 101 + 10 * n ≤ j ∧ j < 111 + 10 * n then row0 (6 + (j - (101 + 10 * n))) else row0 j) → Q (us τ 1 rowF)) → row0 5 = nI n → ∀ d i (row : Nat → Int32), i + d = 10 → (∀ j, row j = if 101 + 10 * n ≤ j ∧ j < 101 + 10 * n + i then row0 (6 + (j - (101 + 10 * n))) else row0 j) → R_X11_save Q 53 [nI i] [] (us τ 1 row) := by
    intro n hn row0 hfin h5 d
    induction d with
    | zero =>
      intro i row hi hrow
      refine i_X11_save_53 _ _ _ ?_
      unfold B_X11_save_53
      have r5 : row 5 = nI n := by rw [hrow 5, if_neg (by omega)]; exact h5
      refine ⟨fun _ s1 f1 => ?_, fun c => absurd (by rw [show (10 : Int32) = nI 10 from rfl, q_le (by omega) (by omega)]; omega) c⟩
      rw [us_same, us_us, r5, show nI n + 1 = nI (n + 1) from nI_1 n] at f1
      subst f1
      refine hfin _ (fun j => ?_)
      unfold upd
      by_cases z : j = 5
      · rw [if_pos z, if_pos z]
      · rw [if_neg z, if_neg z, hrow j, (by omega : 101 + 10 * n + i = 111 + 10 * n)]
    | succ d ih =>
      intro i row hi hrow
      refine i_X11_save_53 _ _ _ ?_
      unfold B_X11_save_53
      have r5 : row 5 = nI n := by rw [hrow 5, if_neg (by omega)]; exact h5
      have r6 : row (6 + i) = row0 (6 + i) := by rw [hrow, if_neg (by omega)]
      rw [us_same, r5]
      simp (disch := omega) only [q_m1, q_m1n, q_m1a, q_eq, q_le, q_lt, nI_add, pk_sub, pk_mul, pk_div, pk_rem, nI_clamp, q_in, zl0, zl1, zl2, zl3, zl4, zl5, zl6, zl7, zl8, zl9, zl10, zl11, zl12, zl13, zl14, zl15, zl16, zl17, zl18, zl19, zl20, zl21, zl22, zl23, zl24, zl25, zl26, zl27, zl28, zl29, zl30, zl31, zl32, zl36, zl37, zl38, zl40, zl42, zl43, zl44, zl48, zl53, zl54, zl57, zl59, zl60, zl61, zl63, zl64, zl70, zl71, zl72, zl77, zl78, zl90, zl97, zl98, zl99, zl100, zl101, zl102, zl106, zl111, zl122, zl127, zl128, zl150, zl181, zl256, zl362, zl9999, zl999999, zl1000000]
      refine ⟨fun c => absurd c (by omega), fun _ => ⟨by omega, by omega, fun s2 f2 => ?_⟩⟩
      rw [us_us, r6] at f2
      subst f2
      refine ih (i + 1) _ (by omega) (fun j => ?_)
      unfold upd
      by_cases z : j = 101 + 10 * n + i
      · subst z
        rw [if_pos rfl, if_pos (by omega)]
        exact congrArg row0 (by omega)
      · rw [if_neg z, hrow j]
        by_cases z2 : 101 + 10 * n ≤ j ∧ j < 101 + 10 * n + i
        · rw [if_pos z2, if_pos (by omega)]
        · rw [if_neg z2, if_neg (by omega)]
  by_cases e8 : S 0 5 = 8
  · rw [e8]
    refine fr_f rfl ?_
    have loop1 : ∀ d i (row : Nat → Int32), i + d = 70 → (∀ j, j < 181 → row j = if 101 ≤ j ∧ j < 101 + i then nI (S 0 (j + 10)) else nI (S 0 j)) → R_X11_save Q 13 [nI i] [] (us τ 1 row) := by
      intro d
      induction d with
      | zero =>
        intro i row hi hrow
        refine i_X11_save_13 _ _ _ ?_
        unfold B_X11_save_13
        refine ⟨fun _ s1 f1 => ?_, fun c => absurd (by rw [show (70 : Int32) = nI 70 from rfl, q_le (by omega) (by omega)]; omega) c⟩
        rw [us_same, us_us] at f1
        subst f1
        refine loop2 7 (by omega) (upd row 5 7) (fun rowF hF => hq _ (HM.row (fun j hj => ?_))) (by rw [pk_us]; rfl) 10 0 _ (by omega) (fun j => by rw [if_neg (by omega)])
        rw [hF j, sv_8 e8]
        by_cases z : j = 5
        · subst z; rw [if_pos rfl, if_neg (by omega), if_neg (by omega), e8]
        · rw [if_neg z]
          by_cases z2 : 101 + 10 * 7 ≤ j ∧ j < 111 + 10 * 7
          · rw [if_pos z2, if_neg (by omega), if_pos (by omega), pk_un (by omega), hrow _ (by omega), if_neg (by omega)]
          · rw [if_neg z2, pk_un z, hrow j hj]
            by_cases z3 : 101 ≤ j ∧ j < 101 + i
            · rw [if_pos z3, if_pos (by omega)]
            · rw [if_neg z3, if_neg (by omega), if_neg (by omega)]
      | succ d ih =>
        intro i row hi hrow
        refine i_X11_save_13 _ _ _ ?_
        unfold B_X11_save_13
        simp (disch := omega) only [q_m1, q_m1n, q_m1a, q_eq, q_le, q_lt, nI_add, pk_sub, pk_mul, pk_div, pk_rem, nI_clamp, q_in, zl0, zl1, zl2, zl3, zl4, zl5, zl6, zl7, zl8, zl9, zl10, zl11, zl12, zl13, zl14, zl15, zl16, zl17, zl18, zl19, zl20, zl21, zl22, zl23, zl24, zl25, zl26, zl27, zl28, zl29, zl30, zl31, zl32, zl36, zl37, zl38, zl40, zl42, zl43, zl44, zl48, zl53, zl54, zl57, zl59, zl60, zl61, zl63, zl64, zl70, zl71, zl72, zl77, zl78, zl90, zl97, zl98, zl99, zl100, zl101, zl102, zl106, zl111, zl122, zl127, zl128, zl150, zl181, zl256, zl362, zl9999, zl999999, zl1000000]
        refine ⟨fun c => absurd c (by omega), fun _ => ⟨by omega, by omega, fun s2 f2 => ?_⟩⟩
        rw [us_us, us_same, hrow _ (by omega), if_neg (by omega)] at f2
        subst f2
        refine ih (i + 1) _ (by omega) (fun j hj => ?_)
        unfold upd
        by_cases z : j = 101 + i
        · subst z
          rw [if_pos rfl, if_pos (by omega)]
          exact congrArg (fun x => nI (S 0 x)) (by omega)
        · rw [if_neg z, hrow j hj]
          by_cases z2 : 101 ≤ j ∧ j < 101 + i
          · rw [if_pos z2, if_pos (by omega)]
          · rw [if_neg z2, if_neg (by omega)]
    have := loop1 70 0 (τ 1) (by omega) (fun j hj => by rw [if_neg (by omega)]; exact HM.1 j hj)
    rw [us_self] at this
    exact this
  · refine fr_t (by rw [show (8 : Int32) = nI 8 from rfl, q_eq (by omega) (by omega)]; exact e8) ?_
    have := loop2 (S 0 5) (by omega) (τ 1) (fun rowF hF => hq _ (HM.row (fun j hj => ?_))) (HM.1 5 (by omega)) 10 0 (τ 1) (by omega) (fun j => by rw [if_neg (by omega)])
    · rw [us_self] at this
      exact this
    · rw [hF j, sv_n8 e8]
      by_cases z : j = 5
      · rw [if_pos z, if_pos z]
      · rw [if_neg z, if_neg z]
        by_cases z2 : 101 + 10 * S 0 5 ≤ j ∧ j < 111 + 10 * S 0 5
        · rw [if_pos z2, if_pos z2]; exact HM.1 _ (by omega)
        · rw [if_neg z2, if_neg z2]; exact HM.1 j hj
end PA
