section K3
variable {σ : St} {S : SS} {B : CB} {Q : Int32 → St → Prop}
abbrev Ob (σ σ' : St) : Prop := ∀ q, q < 55 ∨ q = 70 ∨ q = 71 → σ' q = σ q
set_option maxHeartbeats 4000000 in
set_option maxRecDepth 100000 in
theorem k_pairsAll (HC : CR σ S B) (HW : WF S) (hq : ∀ σ', Ob σ σ' → Q (nI (tt (S 0) (2 ^ S 0 0 - 1))) σ') : V_X10_pairs (-1) σ Q := by
  unfold V_X10_pairs B_X10_pairs_e
  obtain ⟨wB, w0, w15, -⟩ := id HW.1
  have hp7 := p2_7 w0
  have hp0 : 0 < 2 ^ S 0 0 := Nat.pow_pos (by omega)
  refine br_t rfl (i_X10_pairs_18 _ _ _ ?_)
  unfold B_X10_pairs_18
  refine c_count HC.1.1 (by omega) HW.1 (fun σ1 h65 hT f1 => fr_f rfl ?_)
  unfold V_X2_most B_X2_most_e
  rw [h65, nI_clamp (by omega), hT _ (by omega)]
  exact ⟨vp_in_nI (by omega) (by omega), hq _ (fun q hq => f1 q (by omega) (by omega))⟩
set_option maxHeartbeats 4000000 in
set_option maxRecDepth 100000 in
theorem k_pairs (HC : CR σ S B) (HW : WF S) {w : Nat} (hw : w < S 0 0) (hq : ∀ σ', Ob σ σ' → Q (pt (S 0) w (S 0 0) 0 (2 ^ S 0 0 - 1)) σ') : V_X10_pairs (nI w) σ Q := by
  unfold V_X10_pairs B_X10_pairs_e
  obtain ⟨wB, w0, w15, -⟩ := id HW.1
  have hp7 := p2_7 w0
  have hp0 : 0 < 2 ^ S 0 0 := Nat.pow_pos (by omega)
  have z : ¬ nI w = -1 := fun e => by
    have : (nI w).toInt = (-1 : Int32).toInt := by rw [e]
    rw [nI_toInt (by omega), show (-1 : Int32).toInt = -1 from by decide] at this
    omega
  refine br_f z (c_isG1 HC w0 (okN hw (by omega)) (fr_t (by decide) (i_X10_pairs_18 _ _ _ ?_)))
  unfold B_X10_pairs_18
  refine c_count HC.1.1 (by omega) HW.1 (fun σ1 h65 hT f1 => fr_t z (c_partner (HC.1.1.congr (fun q h1 h2 => f1 q (by omega) (by omega))) HW.1 hT h65 hw ?_))
  exact hq _ (fun q hq => f1 q (by omega) (by omega))
set_option maxHeartbeats 4000000 in
set_option maxRecDepth 100000 in
theorem k_heap (HC : CR σ S B) (HW : WF S) (hq : ∀ p σ', hpr (S 0) 31 p → Ob σ σ' → Q (nI p.1) σ') : V_X10_heap 0 σ Q := by
  unfold V_X10_heap B_X10_heap_e
  refine cw1 (l := 0) (u := 2) (by unfold okI; decide) rfl rfl (fr_t (by decide) (c_heap HC.1.1 HW.1 (fun p σ1 hpp hH f1 => ?_)))
  obtain ⟨h1, h2, h3⟩ := hH
  rw [h1, h2, h3]
  exact br_t rfl (hq p _ hpp (fun q hq => f1 q (by omega)))
set_option maxHeartbeats 4000000 in
set_option maxRecDepth 100000 in
theorem k_heap1 (HC : CR σ S B) (HW : WF S) (hq : ∀ p σ', hpr (S 0) 31 p → Ob σ σ' → Q (nI p.2.1) σ') : V_X10_heap 1 σ Q := by
  unfold V_X10_heap B_X10_heap_e
  refine cw1 (l := 0) (u := 2) (by unfold okI; decide) rfl rfl (fr_t (by decide) (c_heap HC.1.1 HW.1 (fun p σ1 hpp hH f1 => ?_)))
  obtain ⟨h1, h2, h3⟩ := hH
  rw [h1, h2, h3]
  exact br_f (by decide) (br_t rfl (hq p _ hpp (fun q hq => f1 q (by omega))))
set_option maxHeartbeats 4000000 in
set_option maxRecDepth 100000 in
theorem k_heap2 (HC : CR σ S B) (HW : WF S) (hq : ∀ p σ', hpr (S 0) 31 p → Ob σ σ' → Q p.2.2 σ') : V_X10_heap 2 σ Q := by
  unfold V_X10_heap B_X10_heap_e
  refine cw1 (l := 0) (u := 2) (by unfold okI; decide) rfl rfl (fr_t (by decide) (c_heap HC.1.1 HW.1 (fun p σ1 hpp hH f1 => ?_)))
  obtain ⟨h1, h2, h3⟩ := hH
  rw [h1, h2, h3]
  exact br_f (by decide) (br_f (by decide) (hq p _ hpp (fun q hq => f1 q (by omega))))
set_option maxHeartbeats 4000000 in
set_option maxRecDepth 100000 in
theorem k_hold (HC : CR σ S B) (HW : WF S) {m : Nat} (hm1 : 1 ≤ m) (hm : m ≤ 60) (hq : ∀ σ', Ob σ σ' → Q (ov (hb (hp (S 0) m) (2 ^ S 0 1) 0 9)) σ') : V_X10_hold (nI m) σ Q := by
  unfold V_X10_hold B_X10_hold_e
  exact cw1 (okL (a := 1) (b := 60) hm1 hm (by omega)) rfl rfl (br_f (by decide) (c_fewest HC.1.1 HW.1 hm (fun σ' f => hq _ (fun q hq => f q (by omega)))))
set_option maxHeartbeats 4000000 in
set_option maxRecDepth 100000 in
theorem k_drop (HC : CR σ S B) (HW : WF S) {k g m : Nat} (hk : k ≤ 5) (hg : g < S 0 0) (hm1 : 1 ≤ m) (hm : m ≤ 30) (hq : ∀ σ', Ob σ σ' → Q (mt (S 0) k g m 23) σ') : V_X10_drop (nI k) (nI g) (nI m) σ Q := by
  unfold V_X10_drop B_X10_drop_e V_X10_isKind B_X10_isKind_e
  have w0 := HW.1.2.1
  refine cw1 (okL (a := 0) (b := 5) (by omega) hk (by omega)) rfl rfl (br_f (by decide) ?_)
  refine c_isG1 HC w0 (okN hg (by omega)) (br_f (by decide) ?_)
  refine cw1 (okL (a := 1) (b := 30) hm1 hm (by omega)) rfl rfl (fr_t (by decide) ?_)
  exact c_drop HC.1.1 HW.1 hk hg hm (fun σ' f => hq _ (fun q hq => f q (by omega)))
/-- one more SEEN -/
def sn (A : Nat → Nat) (m s : Nat) : Nat → Nat := upN (upN (upN A (43 + 2 * A 2) m) (43 + 2 * A 2 + 1) s) 2 (A 2 + 1)
set_option maxHeartbeats 4000000 in
set_option maxRecDepth 100000 in
theorem k_seen (HC : CR σ S B) (HW : WF S) {m s : Nat} (hm : m ≤ 60) (hs : s ≤ 23) (hlt : S 0 2 < 5) (hq : ∀ σ', CR σ' (sA S (sn (S 0) m s)) B → WF (sA S (sn (S 0) m s)) → Q (nI (S 0 2 + 1)) σ') : V_X10_seen (nI m) (nI s) σ Q := by
  unfold V_X10_seen B_X10_seen_e
  obtain ⟨wB, w0, w15, w2, w3, w4, w5, wse, wno, wma, wpa, wmk⟩ := HW.1
  have hsm : Sm (S 0) := wB.2.2.2.2.2.2.2.2
  have hrc := HC.2.2.2.1
  refine cw1 (okL (a := 0) (b := 60) (by omega) hm (by omega)) rfl rfl (br_f (by decide) ?_)
  refine cw1 (okL (a := 0) (b := 23) (by omega) hs (by omega)) rfl rfl (fr_t (by decide) ?_)
  obtain ⟨hst, hpa, hse, hno, hma⟩ := HC.1
  refine s_add hse.1 hrc.1 w2 (by omega) (fun e => absurd e (by omega)) (fun hlt σ1 g1 g2 g3 g4 g5 g6 g7 g8 => ?_)
  unfold V_X10_told B_X10_told_e
  refine br_f (by decide) ?_
  have o : ∀ i, i ≠ 2 → i ≠ 43 + 2 * S 0 2 → i ≠ 43 + 2 * S 0 2 + 1 → sn (S 0) m s i = S 0 i := fun i h1 h2 h3 => by unfold sn; rw [upN_n h1, upN_n h3, upN_n h2]
  have o2 : sn (S 0) m s 2 = S 0 2 + 1 := upN_s
  have oa : sn (S 0) m s (43 + 2 * S 0 2) = m := by unfold sn; rw [upN_n (by omega), upN_n (by omega), upN_s]
  have ob : sn (S 0) m s (43 + 2 * S 0 2 + 1) = s := by unfold sn; rw [upN_n (by omega), upN_s]
  have key := hq σ1 (HC.sc (A' := sn (S 0) m s) (fun q hq => g1 q (by omega) (by omega)) ?_ (hrc.c (fun q hq => ?_))) (HW.sA (HW.1.tail (fun i h1 h2 => o i (by omega) (by omega) (by omega)) (by rw [o2]; omega) (by rw [o 3 (by omega) (by omega) (by omega)]; exact w3) (by rw [o 4 (by omega) (by omega) (by omega)]; exact w4) (fun i hi => ?_) (fun i hi => ?_) (fun i hi => ?_) (fun i => ?_)))
  · rw [g3]; exact key
  · refine SceR.tail HC.1 w0 wB.2.1 (fun q h1 h2 => g1 q (by omega) (by omega)) (fun i h1 h2 => o i (by omega) (by omega) (by omega)) ⟨by rw [o2]; exact g3, fun i hi => ?_⟩ (hno.c (g1 _ (by omega) (by omega)) (g1 _ (by omega) (by omega)) w3 (o 3 (by omega) (by omega) (by omega)) (fun i h1 h2 => o i (by omega) (by omega) (by omega))) (hma.c (g1 _ (by omega) (by omega)) (g1 _ (by omega) (by omega)) w4 (o 4 (by omega) (by omega) (by omega)) (fun i h1 h2 => o i (by omega) (by omega) (by omega)))
    rw [o2] at hi
    by_cases z : i = S 0 2
    · subst z
      rw [oa, ob]
      exact ⟨g5, g6⟩
    · rw [o _ (by omega) (by omega) (by omega), o _ (by omega) (by omega) (by omega), show (1 + 12 + 1 : Nat) = 13 + 1 from rfl, g4 (4 * i) (by omega) (by omega) (by omega) (by omega), g4 (4 * i + 1) (by omega) (by omega) (by omega) (by omega)]
      exact hse.2 i (by omega)
  · by_cases z : q = 13
    · subst z; exact ⟨g2 1 (by omega), g2 2 (by omega)⟩
    · rw [g1 q z (by omega)]; exact ⟨rfl, rfl⟩
  · rw [o2] at hi
    by_cases z : i = S 0 2
    · subst z; rw [oa, ob]; exact ⟨hm, hs⟩
    · rw [o _ (by omega) (by omega) (by omega), o _ (by omega) (by omega) (by omega)]; exact wse i (by omega)
  · rw [o 3 (by omega) (by omega) (by omega)] at hi
    rw [o _ (by omega) (by omega) (by omega), o _ (by omega) (by omega) (by omega)]; exact wno i hi
  · rw [o 4 (by omega) (by omega) (by omega)] at hi
    rw [o _ (by omega) (by omega) (by omega), o _ (by omega) (by omega) (by omega)]; exact wma i hi
  · unfold sn upN
    split
    · omega
    · split
      · omega
      · split
        · omega
        · exact hsm i
set_option maxHeartbeats 4000000 in
set_option maxRecDepth 100000 in
theorem k_which (HC : CR σ S B) (HW : WF S) (hq : ∀ M σ', Mok (S 0) M → Ob σ σ' → Q (nI M) σ') : V_X10_which σ Q := by
  unfold V_X10_which B_X10_which_e
  exact c_seen HC.1.1 HC.1.2.2.1 HW.1 (fun M σ' hM f => hq M _ hM (fun q hq => f q (by omega)))
theorem Mok_lt {A : Nat → Nat} {M : Nat} (h7 : A 0 ≤ 7) (hM : Mok A M) : M < 128 :=
  Nat.lt_pow_two_of_testBit (n := 7) M (fun i hi => by
      cases hb : M.testBit i with
      | false => rfl
      | true => have := ((hM i).mp hb).1; omega)
set_option maxHeartbeats 4000000 in
set_option maxRecDepth 100000 in
theorem k_tell (HC : CR σ S B) (HW : WF S) (hq : ∀ M σ', Mok (S 0) M → Ob σ σ' → Q (tf (S 0) M 21 0 24 (-1)) σ') : V_X10_tell σ Q := by
  unfold V_X10_tell B_X10_tell_e V_X10_which B_X10_which_e
  have h7 := HW.1.2.1
  refine c_seen HC.1.1 HC.1.2.2.1 HW.1 (fun M σ1 hM f1 => ?_)
  have hlt := Mok_lt h7 hM
  exact c_tell (HC.1.1.congr (fun q h1 h2 => f1 q (by omega))) HW.1 (by omega) (fun σ2 f2 => hq M _ hM (fun q hq => by rw [f2 q (by omega), f1 q (by omega)]))
set_option maxHeartbeats 4000000 in
set_option maxRecDepth 100000 in
theorem k_forget (HC : CR σ S B) (HW : WF S) {w : Nat} (hw : w ≤ 2) (hq : ∀ σ', CR σ' (sA S (upN (S 0) (2 + w) 0)) B → WF (sA S (upN (S 0) (2 + w) 0)) → Q (nI (S 0 (2 + w))) σ') : V_X10_forget (nI w) σ Q := by
  unfold V_X10_forget B_X10_forget_e V_X6_empty B_X6_empty_e
  obtain ⟨wB, w0, w15, w2, w3, w4, w5, wse, wno, wma, wpa, wmk⟩ := HW.1
  have hsm : Sm (S 0) := wB.2.2.2.2.2.2.2.2
  obtain ⟨hst, hpa, hse, hno, hma⟩ := HC.1
  have hv : σ (13 + 2 * w) 3 = nI (S 0 (2 + w)) := by
    rcases (by omega : w = 0 ∨ w = 1 ∨ w = 2) with rfl | rfl | rfl
    · exact hse.1
    · exact hno.1
    · exact hma.1
  have fin : ∀ s1, s1 = us σ (13 + 2 * w) (upd (σ (13 + 2 * w)) 3 0) → Q (σ (13 + 2 * w) 3) s1 := fun s1 es1 => by
    subst es1
    rw [hv]
    refine hq _ (HC.sc (A' := upN (S 0) (2 + w) 0) (fun q hq => us_ne (by omega)) ?_ (HC.2.2.2.1.c (fun q hq => ?_))) (HW.sA (HW.1.tail (fun i h1 h2 => upN_n (by omega)) ?_ ?_ ?_ (fun i hi => ?_) (fun i hi => ?_) (fun i hi => ?_) (fun i => ?_)))
    · refine SceR.tail HC.1 w0 wB.2.1 (fun q h1 h2 => us_ne (by omega)) (fun i h1 h2 => upN_n (by omega)) ?_ ?_ ?_
      · by_cases z : w = 0
        · subst z
          exact ⟨by rw [us_same, pk_us]; exact (congrArg nI upN_s).symm, fun i hi => absurd hi (by rw [show upN (S 0) (2 + 0) 0 2 = 0 from upN_s]; omega)⟩
        · exact hse.c (us_ne (by omega)) (us_ne (by omega)) w2 (upN_n (by omega)) (fun i h1 h2 => upN_n (by omega))
      · by_cases z : w = 1
        · subst z
          exact ⟨by rw [us_same, pk_us]; exact (congrArg nI upN_s).symm, fun i hi => absurd hi (by rw [show upN (S 0) (2 + 1) 0 3 = 0 from upN_s]; omega)⟩
        · exact hno.c (us_ne (by omega)) (us_ne (by omega)) w3 (upN_n (by omega)) (fun i h1 h2 => upN_n (by omega))
      · by_cases z : w = 2
        · subst z
          exact ⟨by rw [us_same, pk_us]; exact (congrArg nI upN_s).symm, fun i hi => absurd hi (by rw [show upN (S 0) (2 + 2) 0 4 = 0 from upN_s]; omega)⟩
        · exact hma.c (us_ne (by omega)) (us_ne (by omega)) w4 (upN_n (by omega)) (fun i h1 h2 => upN_n (by omega))
    · by_cases z : q = 13 + 2 * w
      · subst z; rw [us_same, pk_un (by omega), pk_un (by omega)]; exact ⟨rfl, rfl⟩
      · rw [us_ne z]; exact ⟨rfl, rfl⟩
    · unfold upN; split <;> omega
    · unfold upN; split <;> omega
    · unfold upN; split <;> omega
    · rw [upN_n (by omega), upN_n (by omega)]
      refine wse i ?_
      unfold upN at hi
      split at hi
      · omega
      · exact hi
    · rw [upN_n (by omega), upN_n (by omega)]
      refine wno i ?_
      unfold upN at hi
      split at hi
      · omega
      · exact hi
    · rw [upN_n (by omega), upN_n (by omega)]
      refine wma i ?_
      unfold upN at hi
      split at hi
      · omega
      · exact hi
    · unfold upN
      split
      · omega
      · exact hsm i
  rcases (by omega : w = 0 ∨ w = 1 ∨ w = 2) with rfl | rfl | rfl
  · exact br_t rfl fin
  · exact br_f (by decide) (br_t rfl fin)
  · exact br_f (by decide) (br_f (by decide) (br_t rfl fin))
set_option maxHeartbeats 4000000 in
set_option maxRecDepth 100000 in
theorem k_note (HC : CR σ S B) (HW : WF S) {x1 x2 x3 x4 : Nat} (h1 : x1 < S 0 0) (h2 : x2 ≤ 99) (h3 : x3 ≤ 4) (h4 : x4 ≤ 20) (hlt : S 0 3 < 6) (hq : ∀ σ', CR σ' (sA S (f4 (S 0) 3 53 x1 x2 x3 x4)) B → WF (sA S (f4 (S 0) 3 53 x1 x2 x3 x4)) → Q (nI (S 0 3 + 1)) σ') : V_X10_note (nI x1) (nI x2) (nI x3) (nI x4) σ Q := by
  unfold V_X10_note B_X10_note_e V_X10_isTold B_X10_isTold_e
  obtain ⟨wB, w0, w15, w2, w3, w4, w5, wse, wno, wma, wpa, wmk⟩ := HW.1
  have hrc := HC.2.2.2.1
  refine c_isG1 HC w0 (okN h1 (by omega)) (br_f (by decide) ?_)
  refine cw1 (okL (a := 0) (b := 4) (by omega) h3 (by omega)) rfl rfl (br_f (by decide) ?_)
  refine cw1 (okL (a := 0) (b := 99) (by omega) h2 (by omega)) rfl rfl (br_f (by decide) ?_)
  refine cw1 (okL (a := 0) (b := 20) (by omega) h4 (by omega)) rfl rfl (br_f (by decide) (fr_t (by decide) ?_))
  obtain ⟨hst, hpa, hse, hno, hma⟩ := HC.1
  refine s_add hno.1 hrc.2.2.1 w3 (by omega) (fun e => absurd e (by omega)) (fun hlt σ1 g1 g2 g3 g4 g5 g6 g7 g8 => ?_)
  unfold V_X10_told B_X10_told_e
  have hcw := c_four (cn := 3) (b := 53) (q := 15) (Or.inl ⟨rfl, rfl, rfl⟩) HC HW hlt h2 (by omega) (fun _ => h3) (by omega) (by omega) g1 g2 g3 g4 g5 g6 g7 g8
  refine br_f (by decide) ?_
  rw [g3]
  exact hq _ hcw.1 hcw.2
set_option maxHeartbeats 4000000 in
set_option maxRecDepth 100000 in
theorem k_mark (HC : CR σ S B) (HW : WF S) {x1 x2 x3 x4 : Nat} (h1 : x1 < S 0 1) (h2 : x2 ≤ 99) (h31 : 1 ≤ x3) (h3 : x3 ≤ 7) (h4 : x4 ≤ 20) (hlt : S 0 4 < 6) (hq : ∀ σ', CR σ' (sA S (f4 (S 0) 4 77 x1 x2 x3 x4)) B → WF (sA S (f4 (S 0) 4 77 x1 x2 x3 x4)) → Q (nI (S 0 4 + 1)) σ') : V_X10_mark (nI x1) (nI x2) (nI x3) (nI x4) σ Q := by
  unfold V_X10_mark B_X10_mark_e V_X10_isTold B_X10_isTold_e
  obtain ⟨wB, w0, w15, w2, w3, w4, w5, wse, wno, wma, wpa, wmk⟩ := HW.1
  have hc3 := wB.2.1
  have hrc := HC.2.2.2.1
  refine c_isC1 HC hc3 (okN h1 (by omega)) (br_f (by decide) ?_)
  refine cw1 (okL (a := 1) (b := 7) h31 h3 (by omega)) rfl rfl (br_f (by decide) ?_)
  refine cw1 (okL (a := 0) (b := 99) (by omega) h2 (by omega)) rfl rfl (br_f (by decide) ?_)
  refine cw1 (okL (a := 0) (b := 20) (by omega) h4 (by omega)) rfl rfl (br_f (by decide) (fr_t (by decide) ?_))
  obtain ⟨hst, hpa, hse, hno, hma⟩ := HC.1
  refine s_add hma.1 hrc.2.2.2.2.1 w4 (by omega) (fun e => absurd e (by omega)) (fun hlt σ1 g1 g2 g3 g4 g5 g6 g7 g8 => ?_)
  unfold V_X10_told B_X10_told_e
  have hcw := c_four (cn := 4) (b := 77) (q := 17) (Or.inr ⟨rfl, rfl, rfl⟩) HC HW hlt h2 h3 (fun q => absurd q (by omega)) (by omega) (by omega) g1 g2 g3 g4 g5 g6 g7 g8
  refine br_f (by decide) ?_
  rw [g3]
  exact hq _ hcw.1 hcw.2
set_option maxHeartbeats 4000000 in
set_option maxRecDepth 100000 in
theorem k_is (HC : CR σ S B) (HW : WF S) {g : Nat} (hg : g < S 0 0) (hq : Q (km (S 0) 53 1 g (S 0 3) 6) σ) : V_X10_is (nI g) σ Q := by
  unfold V_X10_is B_X10_is_e
  obtain ⟨wB, w0, w15, w2, w3, w4, w5, wse, wno, wma, wpa, wmk⟩ := id HW.1
  refine c_isG1 HC w0 (okN hg (by omega)) (br_f (by decide) ?_)
  have hb : ∀ r, r < S 0 3 → S 0 (53 + 4 * r + 1) ≤ 99 ∧ ((1 : Nat) = 0 → S 0 (53 + 4 * r + 2) ≤ 8) ∧ ((1 : Nat) = 1 → S 0 (53 + 4 * r + 2) ≤ 4) := fun r hr => ⟨(wno r hr).1, fun c => absurd c (by omega), fun _ => (wno r hr).2⟩
  exact c_kinds (w := 1) HC.1.2.2.2.1 w3 HW.1.sm (by omega) (by omega) hb hq
set_option maxHeartbeats 4000000 in
set_option maxRecDepth 100000 in
theorem k_kinds (HC : CR σ S B) (HW : WF S) {g : Nat} (hg : g < S 0 1) (hq : Q (km (S 0) 77 0 g (S 0 4) 6) σ) : V_X10_kinds (nI g) σ Q := by
  unfold V_X10_kinds B_X10_kinds_e
  obtain ⟨wB, w0, w15, w2, w3, w4, w5, wse, wno, wma, wpa, wmk⟩ := id HW.1
  have h3 := wB.2.1
  refine c_isC1 HC h3 (okN hg (by omega)) (br_f (by decide) ?_)
  have hb : ∀ r, r < S 0 4 → S 0 (77 + 4 * r + 1) ≤ 99 ∧ ((0 : Nat) = 0 → S 0 (77 + 4 * r + 2) ≤ 8) ∧ ((0 : Nat) = 1 → S 0 (77 + 4 * r + 2) ≤ 4) := fun r hr => ⟨(wma r hr).1, fun _ => by have := (wma r hr).2; omega, fun c => absurd c (by omega)⟩
  exact c_kinds (w := 0) HC.1.2.2.2.2 w4 HW.1.sm (by omega) (by omega) hb hq
set_option maxHeartbeats 4000000 in
set_option maxRecDepth 100000 in
theorem k_look (HC : CR σ S B) (HW : WF S) {g M : Nat} (hg : g < S 0 0) (hM : M < 64) (eM : km (S 0) 53 1 g (S 0 3) 6 = nI M) (hq : ∀ σ', Ob σ σ' → Q (rh M 1 0 5 10 0 (24, -1)).2 σ') : V_X10_look (nI g) σ Q := by
  unfold V_X10_look B_X10_look_e
  obtain ⟨wB, w0, w15, w2, w3, w4, w5, wse, wno, wma, wpa, wmk⟩ := id HW.1
  refine c_isG1 HC w0 (okN hg (by omega)) (fr_t (by decide) ?_)
  have hb : ∀ r, r < S 0 3 → S 0 (53 + 4 * r + 1) ≤ 99 ∧ ((1 : Nat) = 0 → S 0 (53 + 4 * r + 2) ≤ 8) ∧ ((1 : Nat) = 1 → S 0 (53 + 4 * r + 2) ≤ 4) := fun r hr => ⟨(wno r hr).1, fun c => absurd c (by omega), fun _ => (wno r hr).2⟩
  refine c_kinds (w := 1) HC.1.2.2.2.1 w3 HW.1.sm (by omega) (by omega) hb ?_
  rw [eM]
  exact c_look (w := 1) hM (Or.inl ⟨rfl, rfl, rfl, rfl⟩) (fun σ1 f1 => hq _ (fun q hq => f1 q (by omega) (by omega)))
set_option maxHeartbeats 4000000 in
set_option maxRecDepth 100000 in
theorem k_ask (HC : CR σ S B) (HW : WF S) {g M : Nat} (hg : g < S 0 1) (hM : M < 64) (eM : km (S 0) 77 0 g (S 0 4) 6 = nI M) (hq : ∀ σ', Ob σ σ' → Q (rh M 0 1 7 24 0 (24, -1)).2 σ') : V_X10_ask (nI g) σ Q := by
  unfold V_X10_ask B_X10_ask_e
  obtain ⟨wB, w0, w15, w2, w3, w4, w5, wse, wno, wma, wpa, wmk⟩ := id HW.1
  have h3 := wB.2.1
  refine c_isC1 HC h3 (okN hg (by omega)) (fr_t (by decide) ?_)
  have hb : ∀ r, r < S 0 4 → S 0 (77 + 4 * r + 1) ≤ 99 ∧ ((0 : Nat) = 0 → S 0 (77 + 4 * r + 2) ≤ 8) ∧ ((0 : Nat) = 1 → S 0 (77 + 4 * r + 2) ≤ 4) := fun r hr => ⟨(wma r hr).1, fun _ => by have := (wma r hr).2; omega, fun c => absurd c (by omega)⟩
  refine c_kinds (w := 0) HC.1.2.2.2.2 w4 HW.1.sm (by omega) (by omega) hb ?_
  rw [eM]
  exact c_look (w := 0) hM (Or.inr ⟨rfl, rfl, rfl, rfl⟩) (fun σ1 f1 => hq _ (fun q hq => f1 q (by omega) (by omega)))
set_option maxHeartbeats 4000000 in
set_option maxRecDepth 100000 in
theorem k_lady (HC : CR σ S B) (HW : WF S) {g : Nat} {a2 : Int32} (hg : g < S 0 0) (k2 : (-1 : Int32) ≤ a2) (hq : ∀ σ', Ob σ σ' → Q (ld (vs (S 0) g 31) a2 100 0 0) σ') : V_X10_lady (nI g) a2 σ Q := by
  unfold V_X10_lady B_X10_lady_e
  have w0 := HW.1.2.1
  refine c_isG1 HC w0 (okN hg (by omega)) (br_f (by decide) ?_)
  refine br_t k2 (c_visited HC.1.1 HW.1 hg (fun σ' f => ?_))
  have fin : ∀ v, v = ld (vs (S 0) g 31) a2 100 0 0 → Q v σ' := fun v ev => by rw [ev]; exact hq _ (fun q hq => f q (by omega))
  have loop : ∀ d x (c : Int32), x + d = 100 → ld (vs (S 0) g 31) a2 100 0 0 = ld (vs (S 0) g 31) a2 d x c → R_X10_lady (nI g) a2 Q 40 [vs (S 0) g 31, c, nI x] [] σ' := by
    intro d
    induction d with
    | zero =>
      intro x c hx hw
      refine i_X10_lady_40 _ _ _ _ _ _ _ ?_
      unfold B_X10_lady_40
      refine ⟨fun _ => ?_, fun c => absurd (by rw [show (100 : Int32) = nI 100 from rfl, q_le (by omega) (by omega)]; omega) c⟩
      unfold ld at hw
      by_cases e : a2 = -1
      · refine fr_f e (fin _ ?_)
        unfold ld
        rw [hw, if_pos e]
      · refine fr_t e (fin _ ?_)
        unfold ld
        rw [hw, if_neg e]
    | succ d ih =>
      intro x c hx hw
      refine i_X10_lady_40 _ _ _ _ _ _ _ ?_
      unfold B_X10_lady_40
      have hw2 : ld (vs (S 0) g 31) a2 (d + 1) x c = if rs (vs (S 0) g 31) (nI x / 10) (nI x - nI x / 10 * 10) 10 0 = true then (if c = a2 then nI x else ld (vs (S 0) g 31) a2 d (x + 1) (c + 1)) else ld (vs (S 0) g 31) a2 d (x + 1) c := rfl
      refine ⟨fun c => absurd (by rw [show (100 : Int32) = nI 100 from rfl, q_le (by omega) (by omega)] at c; exact c) (by omega), fun _ => c_rests (fun e => br_f (by decide) ?_) (fun e => br_t rfl ?_)⟩
      · by_cases z : c = a2
        · refine fr_f z (fin _ ?_)
          rw [hw, hw2, if_pos e, if_pos z]
        · refine fr_t z ?_
          rw [nI_1]
          exact ih (x + 1) (c + 1) (by omega) (by rw [hw, hw2, if_pos e, if_neg z])
      · rw [nI_1]
        exact ih (x + 1) c (by omega) (by rw [hw, hw2, if_neg e])
  exact loop 100 0 0 rfl rfl
set_option maxHeartbeats 4000000 in
set_option maxRecDepth 100000 in
theorem k_rain (HC : CR σ S B) (HW : WF S) {a : Nat} (ha : a ≤ 10) (hq : ∀ N, N = a * gi (S 0) 4 (S 0 0) + (10 - a) * gi (S 0) 0 (S 0 0) → N ≤ 560 → ∀ σ', CR σ' (fr4 S (N / Nat.gcd 10 N) (10 / Nat.gcd 10 N)) B → WF (fr4 S (N / Nat.gcd 10 N) (10 / Nat.gcd 10 N)) → Q 1 σ') : V_X10_rain (nI a) σ Q := by
  unfold V_X10_rain B_X10_rain_e
  refine cw1 (okL (a := 0) (b := 10) (by omega) ha (by omega)) rfl rfl (fr_t (by decide) ?_)
  obtain ⟨wB, w0, w15, -⟩ := id HW.1
  obtain ⟨hW0, hW1, hW2, h30, h31, h40, h41, h6, h5⟩ := id HW
  obtain ⟨c0, c1, c2, crow, c7, c8, c9, c10, c11, c12, c70, c71⟩ := id HC
  have hs := HW.1.sm
  have bnd : ∀ w n, n ≤ 7 → ∀ b, b ≤ 10 → b * gi (S 0) w n ≤ 280 := fun w n hn b hb => by
    have := gi_le (A := S 0) (w := w) n
    exact Nat.le_trans (Nat.mul_le_mul hb (show gi (S 0) w n ≤ 28 by omega)) (by omega)
  have hN : a * gi (S 0) 4 (S 0 0) + (10 - a) * gi (S 0) 0 (S 0 0) ≤ 560 := by
    have := bnd 4 _ w0 a ha
    have := bnd 0 _ w0 (10 - a) (by omega)
    omega
  refine s_goneAll (w := 0) c0.1 wB (by omega) (s_goneAll (w := 4) c0.1 wB (by omega) ?_)
  have en : (nI a * nI (gi (S 0) 4 (S 0 0))) + ((10 - nI a) * nI (gi (S 0) 0 (S 0 0))) = nI (a * gi (S 0) 4 (S 0 0) + (10 - a) * gi (S 0) 0 (S 0 0)) := by
    rw [show (10 : Int32) = nI 10 from rfl, pk_sub (by omega), pk_mul, pk_mul, nI_add]
  rw [en]
  refine c_kf (den := 10) (by omega) (by omega) (by omega) ?_
  have hq := hq _ rfl hN
  generalize a * gi (S 0) 4 (S 0 0) + (10 - a) * gi (S 0) 0 (S 0 0) = N at *
  have hg : 0 < Nat.gcd 10 N := Nat.gcd_pos_of_pos_left _ (by omega)
  have hd1 : N / Nat.gcd 10 N ≤ N := Nat.div_le_self _ _
  have hd2 : 10 / Nat.gcd 10 N ≤ 10 := Nat.div_le_self _ _
  generalize N / Nat.gcd 10 N = P at *
  generalize 10 / Nat.gcd 10 N = D at *
  refine hq _ ?_ ?_
  · unfold CR RowC
    rw [fr4_o (i := 0) (by omega), fr4_o (i := 1) (by omega), fr4_o (i := 2) (by omega), fr4_o (i := 3) (by omega), fr4_o (i := 5) (by omega), fr4_o (i := 6) (by omega)]
    rw [show fr4 S P D 4 0 = P from rfl, show fr4 S P D 4 1 = D from rfl]
    rw [us_same, us_ne (j := 13) (by omega), us_ne (j := 15) (by omega), us_ne (j := 17) (by omega), us_ne (j := 70) (by omega), us_ne (j := 71) (by omega)]
    exact ⟨c0.congr (fun q h1 h2 => us_ne (by omega)), fun c => (c1 c).congr (fun q h1 h2 => us_ne (by omega)), fun c => (c2 c).congr (fun q h1 h2 => us_ne (by omega)), crow, by rw [pk_un (by omega), pk_un (by omega)]; exact c7, by rw [pk_un (by omega), pk_us], by rw [pk_us], by rw [pk_un (by omega), pk_un (by omega)]; exact c10, by rw [pk_un (by omega), pk_un (by omega)]; exact c11, by rw [pk_un (by omega), pk_un (by omega)]; exact c12, c70, c71⟩
  · unfold WF
    rw [fr4_o (i := 0) (by omega), fr4_o (i := 1) (by omega), fr4_o (i := 2) (by omega), fr4_o (i := 3) (by omega), fr4_o (i := 5) (by omega), fr4_o (i := 6) (by omega)]
    rw [show fr4 S P D 4 0 = P from rfl, show fr4 S P D 4 1 = D from rfl]
    exact ⟨hW0, hW1, hW2, h30, h31, by omega, by omega, h6, h5⟩
set_option maxHeartbeats 4000000 in
set_option maxRecDepth 100000 in
theorem k_part {w : Nat} {Q : Int64 → St → Prop} (HC : CR σ S B) (HW : WF S) (hw : w ≤ 1) (hq : Q (nI (S 4 w)).toInt64 σ) : V_X10_part (nI w) σ Q := by
  unfold V_X10_part B_X10_part_e
  obtain ⟨c0, c1, c2, crow, c7, c8, c9, -⟩ := id HC
  rcases (by omega : w = 0 ∨ w = 1) with rfl | rfl
  · rw [c8]
    exact br_t rfl hq
  · rw [c9]
    exact br_f (by decide) (br_t rfl hq)
set_option maxHeartbeats 4000000 in
set_option maxRecDepth 100000 in
theorem k_winters (HC : CR σ S B) (HW : WF S) {n m : Nat} (hn : n ≤ 999999) (hm : m ≤ 60) (hq : ∀ σ', Ob σ σ' → Q (nI (cnt (wst m n (S 0)) 23 (S 0 0))) σ') : V_X10_winters (nI n) (nI m) σ Q := by
  unfold V_X10_winters B_X10_winters_e
  refine cw1 (okL (a := 0) (b := 999999) (by omega) hn (by omega)) rfl rfl (br_f (by decide) ?_)
  refine cw1 (okL (a := 0) (b := 60) (by omega) hm (by omega)) rfl rfl (fr_t (by decide) ?_)
  exact c_winter HC.1.1 HW.1 (by omega) hm (fun σ' f => hq _ (fun q hq => f q (by omega)))
end K3
