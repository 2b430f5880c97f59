
theorem q_ss (x y z : Int32) : x - y - z = x - (y + z) := by
  apply Int32.toBitVec_inj.mp
  simp only [Int32.toBitVec_sub, Int32.toBitVec_add]
  rw [BitVec.sub_sub]
theorem q_s0 (x : Int32) : x - nI 0 = x := by
  apply Int32.toBitVec_inj.mp
  simp only [Int32.toBitVec_sub]
  exact BitVec.sub_zero _
theorem q_dle {a b : Nat} (ha : a < 1000000) (hb : b < 1000000) : (nI a - nI b ≤ nI 0) = (a ≤ b) := propext (by
  rw [Int32.le_iff_toInt_le, pk_sub_toInt (by omega) (by omega), nI_toInt (by omega)]
  omega)
/-- the gloves that wait at a crossing, of the first g -/
def cc (a : Nat → Nat) (k g : Nat) : Nat := if k < a 1 then cnt a (a (40 + k)) g else 0
/-- the row with the first g gloves gone -/
def st (a : Nat → Nat) (g : Nat) : Nat → Nat := fun i => if 6 ≤ i ∧ i < 6 + g then nsp a (i - 6) else a i
theorem st_0 {a : Nat → Nat} : st a 0 = a := by
  funext i
  unfold st
  rw [if_neg (by omega)]
theorem st_lo {a : Nat → Nat} {g i : Nat} (h : i < 6) : st a g i = a i := by unfold st; rw [if_neg (by omega)]
theorem st_hi {a : Nat → Nat} {g i : Nat} (h : 6 + g ≤ i) : st a g i = a i := by unfold st; rw [if_neg (by omega)]
theorem st_sp {a : Nat → Nat} {g j : Nat} (h : j < g) : st a g (6 + j) = nsp a j := by
  unfold st
  rw [if_pos (by omega)]
  congr 1
  omega
theorem st_bh {a : Nat → Nat} {g s : Nat} (hg : g ≤ 8) : bh (st a g) s = bh a s := by
  unfold bh
  rw [st_lo (i := 1) (by omega), st_hi (i := 40) (by omega), st_hi (i := 41) (by omega), st_hi (i := 42) (by omega)]
theorem st_wk {a : Nat → Nat} {g : Nat} (hg : g ≤ 8) : ∀ m s, wk (st a g) m s = wk a m s
  | 0, s => rfl
  | m + 1, s => by
    unfold wk
    rw [st_bh hg, st_wk hg m (s + 1)]
theorem st_gon {a : Nat → Nat} {g j : Nat} (hg : g ≤ 8) : gon (st a g) j = gon a j := by
  unfold gon
  rw [st_hi (i := 22 + j) (by omega), st_hi (i := 15) (by omega), st_hi (i := 16 + a 15 % 6) (by omega)]
theorem st_Sm {a : Nat → Nat} {g : Nat} (h : Bd a) (hg : g ≤ a 0) : Sm (st a g) := fun i => by
  unfold st
  split
  · have := nsp_le h (g := i - 6) (by omega)
    omega
  · exact h.2.2.2.2.2.2.2.2 i
theorem st_step {a : Nat → Nat} {g i : Nat} : st a (g + 1) i = if i = 6 + g then nsp a g else st a g i := by
  unfold st
  by_cases e : i = 6 + g
  · rw [if_pos e, if_pos (by omega), e]
    congr 1
    omega
  · rw [if_neg e]
    by_cases c : 6 ≤ i ∧ i < 6 + g
    · rw [if_pos c, if_pos (by omega)]
    · rw [if_neg c, if_neg (by omega)]
theorem st_hr {a : Nat → Nat} {i : Nat} (h0 : a 0 ≤ 8) : hr a i = if i = 15 then st a (a 0) 15 + 1 else st a (a 0) i := by
  unfold hr st
  by_cases e : i = 15
  · subst e
    rw [if_neg (by omega), if_pos rfl, if_pos rfl, if_neg (by omega)]
  · rw [if_neg e, if_neg e]
theorem cc_no {a : Nat → Nat} {k g : Nat} (h : bh a (a (6 + g)) ≠ k + 1) (hB : Bd a) : cc a k (g + 1) = cc a k g := by
  unfold cc
  split
  · rename_i hk
    have e : cnt a (a (40 + k)) (g + 1) = cnt a (a (40 + k)) g + (if a (6 + g) = a (40 + k) then 1 else 0) := rfl
    rw [e, if_neg (fun q => h (by rw [q]; exact bh_of hB hk))]
    rfl
  · rfl
theorem cc_yes {a : Nat → Nat} {k g : Nat} (h : bh a (a (6 + g)) = k + 1) (hB : Bd a) : cc a k (g + 1) = cc a k g + 1 := by
  have hb := bh_le (s := a (6 + g)) hB
  have e2 := bh_at (a := a) (s := a (6 + g)) (by omega)
  unfold cc
  rw [if_pos (by omega), if_pos (by omega)]
  have e : cnt a (a (40 + k)) (g + 1) = cnt a (a (40 + k)) g + (if a (6 + g) = a (40 + k) then 1 else 0) := rfl
  rw [e, if_pos (by rw [h] at e2; exact e2.symm)]
theorem cc_rank {a : Nat → Nat} {k g : Nat} (h : bh a (a (6 + g)) = k + 1) (hB : Bd a) : cc a k g = cnt a (a (6 + g)) g := by
  have hb := bh_le (s := a (6 + g)) hB
  have e2 := bh_at (a := a) (s := a (6 + g)) (by omega)
  unfold cc
  rw [if_pos (by omega)]
  rw [h] at e2
  rw [show 40 + (k + 1 - 1) = 40 + k from rfl] at e2
  rw [e2]
theorem cc_le {a : Nat → Nat} {k g : Nat} : cc a k g ≤ g := by
  unfold cc
  split
  · exact cnt_le _
  · omega
section HM
variable {σ : St} {h n : Nat} {a : Nat → Nat}
set_option maxHeartbeats 4000000 in
set_option maxRecDepth 100000 in
theorem m_goHour (hR : RowN σ h n a) (hn : 43 ≤ n) (hn2 : n < 2147483648) (hB : Bd a) {Q : St → Prop} (hq : ∀ row : Nat → Int32, (∀ i, i < n → row i = nI (hr a i)) → Q (us σ h row)) : V_X11_goHour h n σ Q := by
  have hs : Sm a := hB.2.2.2.2.2.2.2.2
  have h0 := hB.1
  have h1 := hB.2.1
  have l0 := lets_le (k := 0) hB
  have l1 := lets_le (k := 1) hB
  have l2 := lets_le (k := 2) hB
  have loop : ∀ d g, g + d = a 0 → ∀ (x1 x2 x3 : Int32) (row : Nat → Int32), x1 = nI (lets a 0) - nI (cc a 0 g) → x2 = nI (lets a 1) - nI (cc a 1 g) → x3 = nI (lets a 2) - nI (cc a 2 g) → (∀ i, i < n → row i = nI (st a g i)) → R_X11_goHour h n Q 21 [x1, x2, x3, nI g] [] (us σ h row) := by
    intro d
    induction d with
    | zero =>
      intro g hg x1 x2 x3 row e1 e2 e3 hrow
      refine i_X11_goHour_21 _ _ _ _ _ _ _ _ ?_
      unfold B_X11_goHour_21
      have ht : Sm (st a g) := st_Sm hB (by omega)
      have e0 : st a g 0 = a 0 := st_lo (by omega)
      simp (disch := first | omega | exact ht _) only [q_m1, q_m1n, q_m1a, q_eq, q_le, q_lt, nI_add, pk_sub, pk_mul, pk_div, pk_rem, nI_clamp, q_in, zl0, zl1, zl2, zl3, zl4, zl5, zl6, zl7, zl8, zl9, zl10, zl11, zl12, zl13, zl14, zl15, zl16, zl17, zl18, zl19, zl20, zl21, zl22, zl23, zl24, zl25, zl26, zl27, zl28, zl29, zl30, zl31, zl32, zl36, zl37, zl38, zl40, zl42, zl43, zl44, zl48, zl53, zl54, zl57, zl59, zl60, zl61, zl63, zl64, zl70, zl71, zl72, zl77, zl78, zl90, zl97, zl98, zl99, zl100, zl101, zl102, zl106, zl111, zl122, zl127, zl128, zl150, zl181, zl256, zl362, zl9999, zl999999, zl1000000, us_same, hrow]
      refine ⟨by omega, fun _ => ⟨by omega, by omega, fun s1 es1 => ?_⟩, fun c => absurd c (by omega)⟩
      subst es1
      rw [us_us]
      refine hq _ (fun i hi => ?_)
      rw [st_hr h0, ← (by omega : g = a 0)]
      unfold upd
      split
      · rfl
      · exact hrow i hi
    | succ d ih =>
      intro g hg x1 x2 x3 row e1 e2 e3 hrow
      refine i_X11_goHour_21 _ _ _ _ _ _ _ _ ?_
      unfold B_X11_goHour_21
      have ht : Sm (st a g) := st_Sm hB (by omega)
      have e0 : st a g 0 = a 0 := st_lo (by omega)
      have e01 : st a g 1 = a 1 := st_lo (by omega)
      have eg : st a g (6 + g) = a (6 + g) := st_hi (by omega)
      have hRg : RowN (us σ h row) h n (st a g) := fun i hi => by rw [us_same]; exact hrow i hi
      have hg8 : g < 8 := by omega
      have hgl := (hB.2.2.2.2.2.1 g (by omega))
      simp (disch := first | omega | exact ht _) only [q_m1, q_m1n, q_m1a, q_eq, q_le, q_lt, nI_add, pk_sub, pk_mul, pk_div, pk_rem, nI_clamp, q_in, zl0, zl1, zl2, zl3, zl4, zl5, zl6, zl7, zl8, zl9, zl10, zl11, zl12, zl13, zl14, zl15, zl16, zl17, zl18, zl19, zl20, zl21, zl22, zl23, zl24, zl25, zl26, zl27, zl28, zl29, zl30, zl31, zl32, zl36, zl37, zl38, zl40, zl42, zl43, zl44, zl48, zl53, zl54, zl57, zl59, zl60, zl61, zl63, zl64, zl70, zl71, zl72, zl77, zl78, zl90, zl97, zl98, zl99, zl100, zl101, zl102, zl106, zl111, zl122, zl127, zl128, zl150, zl181, zl256, zl362, zl9999, zl999999, zl1000000, us_same, hrow]
      refine ⟨by omega, fun c => absurd c (by omega), fun _ => ⟨by omega, m_behind hRg hn hn2 (by omega) ht (ht _) ?_⟩⟩
      rw [eg, st_bh (by omega)]
      have hb3 := bh_sm (a := a) (s := a (6 + g))
      have stepw : ∀ v, v = nsp a g → ∀ i, i < n → upd row (6 + g) (nI v) i = nI (st a (g + 1) i) := fun v ev i hi => by
        rw [st_step]
        unfold upd
        split
        · rw [ev]
        · exact hrow i hi
      have tail : ∀ k, bh a (a (6 + g)) = k + 1 → ∀ xk : Int32, xk = nI (lets a k) - nI (cc a k g) → R_X11_goHour h n Q 84 [x1, x2, x3, nI g, nI k, xk] [] (us σ h row) := by
        intro k hk xk exk
        have hk3 : k < 3 := by omega
        refine i_X11_goHour_84 _ _ _ _ _ _ _ _ _ _ ?_
        unfold B_X11_goHour_84
        have hck := cc_le (a := a) (k := k) (g := g)
        have hlk := lets_le (k := k) hB
        have eRow : row (6 + g) = nI (a (6 + g)) := by rw [hrow _ (by omega), eg]
        have key : ∀ t : Nat, t = (if cnt a (a (6 + g)) g < lets a k then 1 else 0) → R_X11_goHour h n Q 104 [x1, x2, x3, nI g, nI k, nI t, nI (a (6 + g)), nI (6 + g)] [] (us σ h row) := by
          intro t et
          refine i_X11_goHour_104 _ _ _ _ _ _ _ _ _ _ _ _ ?_
          unfold B_X11_goHour_104
          have ens : a (6 + g) + t = nsp a g := by
            unfold nsp
            rw [if_neg (by omega), hk, show k + 1 - 1 = k from rfl, ← et]
          simp (disch := first | omega | exact hs _) only [q_m1, q_m1n, q_m1a, q_eq, q_le, q_lt, nI_add, pk_sub, pk_mul, pk_div, pk_rem, nI_clamp, q_in, zl0, zl1, zl2, zl3, zl4, zl5, zl6, zl7, zl8, zl9, zl10, zl11, zl12, zl13, zl14, zl15, zl16, zl17, zl18, zl19, zl20, zl21, zl22, zl23, zl24, zl25, zl26, zl27, zl28, zl29, zl30, zl31, zl32, zl36, zl37, zl38, zl40, zl42, zl43, zl44, zl48, zl53, zl54, zl57, zl59, zl60, zl61, zl63, zl64, zl70, zl71, zl72, zl77, zl78, zl90, zl97, zl98, zl99, zl100, zl101, zl102, zl106, zl111, zl122, zl127, zl128, zl150, zl181, zl256, zl362, zl9999, zl999999, zl1000000, us_same]
          refine ⟨by omega, fun s1 es1 => ?_⟩
          subst es1
          rw [us_us]
          have ihn := fun y1 y2 y3 q1 q2 q3 => ih (g + 1) (by omega) y1 y2 y3 _ q1 q2 q3 (stepw _ ens)
          have hno : ∀ j, j ≠ k → cc a j (g + 1) = cc a j g := fun j hj => cc_no (by omega) hB
          have hyes : cc a k (g + 1) = cc a k g + 1 := cc_yes hk hB
          have nxt : ∀ y1 y2 y3 : Int32, y1 = nI (lets a 0) - nI (cc a 0 (g + 1)) → y2 = nI (lets a 1) - nI (cc a 1 (g + 1)) → y3 = nI (lets a 2) - nI (cc a 2 (g + 1)) → R_X11_goHour h n Q 21 [y1, y2, y3, nI g + 1] [] (us σ h (upd row (6 + g) (nI (a (6 + g) + t)))) := fun y1 y2 y3 q1 q2 q3 => by
            rw [nI_1]
            exact ihn y1 y2 y3 q1 q2 q3
          rcases (by omega : k = 0 ∨ k = 1 ∨ k = 2) with rfl | rfl | rfl
          · refine ⟨fun c => absurd rfl c, fun _ => i_X11_goHour_117 _ _ _ _ _ _ _ _ _ _ ⟨fun _ => i_X11_goHour_131 _ _ _ _ _ _ _ _ _ _ ⟨fun _ => nxt _ _ _ ?_ ?_ ?_, fun c => absurd c (by decide)⟩, fun c => absurd c (by decide)⟩⟩
            · rw [hyes, e1, ← nI_1 (cc a 0 g)]; exact q_ss _ _ _
            · rw [hno 1 (by omega), e2]; exact q_s0 _
            · rw [hno 2 (by omega), e3]; exact q_s0 _
          · refine ⟨fun _ => i_X11_goHour_117 _ _ _ _ _ _ _ _ _ _ ⟨fun c => absurd rfl c, fun _ => i_X11_goHour_131 _ _ _ _ _ _ _ _ _ _ ⟨fun _ => nxt _ _ _ ?_ ?_ ?_, fun c => absurd c (by decide)⟩⟩, fun c => absurd c (by decide)⟩
            · rw [hno 0 (by omega), e1]; exact q_s0 _
            · rw [hyes, e2, ← nI_1 (cc a 1 g)]; exact q_ss _ _ _
            · rw [hno 2 (by omega), e3]; exact q_s0 _
          · refine ⟨fun _ => i_X11_goHour_117 _ _ _ _ _ _ _ _ _ _ ⟨fun _ => i_X11_goHour_131 _ _ _ _ _ _ _ _ _ _ ⟨fun c => absurd rfl c, fun _ => nxt _ _ _ ?_ ?_ ?_⟩, fun c => absurd c (by decide)⟩, fun c => absurd c (by decide)⟩
            · rw [hno 0 (by omega), e1]; exact q_s0 _
            · rw [hno 1 (by omega), e2]; exact q_s0 _
            · rw [hyes, e3, ← nI_1 (cc a 2 g)]; exact q_ss _ _ _
        have hrk := cc_rank hk hB
        rw [exk] at *
        simp (disch := first | omega | exact hs _) only [q_m1, q_m1n, q_m1a, q_eq, q_le, q_lt, nI_add, pk_sub, pk_mul, pk_div, pk_rem, nI_clamp, q_in, zl0, zl1, zl2, zl3, zl4, zl5, zl6, zl7, zl8, zl9, zl10, zl11, zl12, zl13, zl14, zl15, zl16, zl17, zl18, zl19, zl20, zl21, zl22, zl23, zl24, zl25, zl26, zl27, zl28, zl29, zl30, zl31, zl32, zl36, zl37, zl38, zl40, zl42, zl43, zl44, zl48, zl53, zl54, zl57, zl59, zl60, zl61, zl63, zl64, zl70, zl71, zl72, zl77, zl78, zl90, zl97, zl98, zl99, zl100, zl101, zl102, zl106, zl111, zl122, zl127, zl128, zl150, zl181, zl256, zl362, zl9999, zl999999, zl1000000, us_same, eRow, q_dle]
        refine ⟨by omega, fun c => key 0 (by rw [if_neg (by omega)]), fun c => key 1 (by rw [if_pos (by omega)])⟩
      by_cases hb : bh a (a (6 + g)) = 0
      · rw [hb]
        refine ⟨fun c => absurd (by decide) c, fun _ => ?_⟩
        refine m_goesTo hRg hn hn2 (by omega) ht hg8 (by rw [st_hi (by omega)]; exact hgl.1) (fun i hi => by rw [st_hi (by omega)]; exact hB.2.2.2.2.1 i hi) ?_
        rw [eg, st_wk (by omega), st_gon (by omega)]
        have ens : wk a (gon a g) (a (6 + g)) = nsp a g := by unfold nsp; rw [if_pos hb]
        have hl := nsp_le hB (g := g) (by omega)
        simp (disch := first | omega | exact hs _) only [q_m1, q_m1n, q_m1a, q_eq, q_le, q_lt, nI_add, pk_sub, pk_mul, pk_div, pk_rem, nI_clamp, q_in, zl0, zl1, zl2, zl3, zl4, zl5, zl6, zl7, zl8, zl9, zl10, zl11, zl12, zl13, zl14, zl15, zl16, zl17, zl18, zl19, zl20, zl21, zl22, zl23, zl24, zl25, zl26, zl27, zl28, zl29, zl30, zl31, zl32, zl36, zl37, zl38, zl40, zl42, zl43, zl44, zl48, zl53, zl54, zl57, zl59, zl60, zl61, zl63, zl64, zl70, zl71, zl72, zl77, zl78, zl90, zl97, zl98, zl99, zl100, zl101, zl102, zl106, zl111, zl122, zl127, zl128, zl150, zl181, zl256, zl362, zl9999, zl999999, zl1000000, us_same]
        refine ⟨by omega, fun s1 es1 => ?_⟩
        subst es1
        rw [us_us]
        refine ih (g + 1) (by omega) _ _ _ _ ?_ ?_ ?_ (stepw _ ens)
        · rw [e1, cc_no (by omega) hB]
        · rw [e2, cc_no (by omega) hB]
        · rw [e3, cc_no (by omega) hB]
      · obtain ⟨k, hk⟩ : ∃ k, bh a (a (6 + g)) = k + 1 := ⟨bh a (a (6 + g)) - 1, by omega⟩
        rw [hk, nI_pred]
        rcases (by omega : k = 0 ∨ k = 1 ∨ k = 2) with rfl | rfl | rfl
        · exact ⟨fun _ => ⟨fun c => absurd rfl c, fun _ => tail 0 hk _ e1⟩, fun c => absurd c (by decide)⟩
        · exact ⟨fun _ => ⟨fun _ => ⟨fun c => absurd rfl c, fun _ => tail 1 hk _ e2⟩, fun c => absurd c (by decide)⟩, fun c => absurd c (by decide)⟩
        · exact ⟨fun _ => ⟨fun _ => ⟨fun _ => tail 2 hk _ e3, fun c => absurd c (by decide)⟩, fun c => absurd c (by decide)⟩, fun c => absurd c (by decide)⟩
  unfold V_X11_goHour B_X11_goHour_e
  refine m_letsOf hR hn hn2 hB (k := 0) (by omega) (m_letsOf hR hn hn2 hB (k := 1) (by omega) (m_letsOf hR hn hn2 hB (k := 2) (by omega) ?_))
  have cc0 : ∀ k, cc a k 0 = 0 := fun k => by unfold cc; split <;> rfl
  have := loop (a 0) 0 (by omega) (nI (lets a 0)) (nI (lets a 1)) (nI (lets a 2)) (σ h) (by rw [cc0]; exact (q_s0 _).symm) (by rw [cc0]; exact (q_s0 _).symm) (by rw [cc0]; exact (q_s0 _).symm) (by rw [st_0]; exact hR)
  rw [us_self] at this
  exact this
end HM
