/-! the parting: how many alike at most -/
def Pt (σ : St) (c : Nat → Nat) (mx b : Nat) (v : Int32) : Prop := (∀ j, j < 24 → σ 68 j = nI (c j)) ∧ σ 67 1 = nI mx ∧ σ 67 2 = nI b ∧ σ 67 3 = v
section O22
variable {σ τ : St} {a1 a2 a3 a4 : Int32}
set_option maxHeartbeats 4000000 in
set_option maxRecDepth 100000 in
theorem t_begin {Q : St → Prop} (hq : ∀ σ', σ' 67 3 = -1 → σ' 67 2 = nI 24 → (∀ q, q ≠ 67 → σ' q = σ q) → Q σ') : V_X3_begin σ Q := by
  unfold V_X3_begin B_X3_begin_e
  intro s1 e1 s2 e2
  subst e1; subst e2
  refine hq _ ?_ ?_ (fun q h => by rw [us_ne h, us_ne h])
  · rw [us_same, pk_un (by omega), us_same, pk_us]
  · rw [us_same, pk_us]; rfl
set_option maxHeartbeats 4000000 in
set_option maxRecDepth 100000 in
theorem t_empty {b : Nat} {v : Int32} (h2 : σ 67 2 = nI b) (h3 : σ 67 3 = v) {Q : St → Prop} (hq : ∀ σ', Pt σ' (fun _ => 0) 0 b v → (∀ q, q ≠ 67 → q ≠ 68 → σ' q = σ q) → Q σ') : V_X3_empty σ Q := by
  unfold V_X3_empty B_X3_empty_e
  have loop : ∀ d x (s : St), x + d = 24 → (∀ j, j < x → s 68 j = nI 0) → (∀ q, q ≠ 68 → s q = σ q) → R_X3_empty Q 2 [nI x] [] s := by
    intro d
    induction d with
    | zero =>
      intro x s hx hj hf
      refine i_X3_empty_2 _ _ _ ?_
      unfold B_X3_empty_2
      refine ⟨fun _ s1 e1 => ?_, fun c => absurd (by rw [show (24 : Int32) = nI 24 from rfl, q_le (by omega) (by omega)]; omega) c⟩
      subst e1
      refine hq _ ⟨fun j h => ?_, ?_, ?_, ?_⟩ (fun q h1 h2 => by rw [us_ne h1, hf q h2])
      · rw [us_ne (by omega)]; exact hj j (by omega)
      · rw [us_same, pk_us]; rfl
      · rw [us_same, pk_un (by omega), hf 67 (by omega)]; exact h2
      · rw [us_same, pk_un (by omega), hf 67 (by omega)]; exact h3
    | succ d ih =>
      intro x s hx hj hf
      refine i_X3_empty_2 _ _ _ ?_
      unfold B_X3_empty_2
      rw [nI_clamp (by omega)]
      refine ⟨fun c => absurd (by rw [show (24 : Int32) = nI 24 from rfl, q_le (by omega) (by omega)] at c; exact c) (by omega), fun _ => ⟨vp_in_nI (by omega) (by omega), fun s2 e2 => ?_⟩⟩
      subst e2
      rw [nI_1]
      refine ih (x + 1) _ (by omega) (fun j h => ?_) (fun q h => by rw [us_ne h, hf q h])
      rw [us_same]
      unfold upd
      by_cases z : j = x
      · rw [if_pos z]; rfl
      · rw [if_neg z]; exact hj j (by omega)
  exact loop 24 0 σ (by omega) (fun j h => absurd h (by omega)) (fun _ _ => rfl)
set_option maxHeartbeats 4000000 in
set_option maxRecDepth 100000 in
theorem t_add {c : Nat → Nat} {mx b w : Nat} {v : Int32} (h : Pt σ c mx b v) (hw : w < 24) (hc : c w < 1000) (hm : mx < 1000) {Q : St → Prop} (hq : ∀ σ', Pt σ' (upN c w (c w + 1)) (max mx (c w + 1)) b v → (∀ q, q ≠ 67 → q ≠ 68 → σ' q = σ q) → Q σ') : V_X3_add (nI w) σ Q := by
  obtain ⟨p1, p2, p3, p4⟩ := h
  unfold V_X3_add B_X3_add_e
  rw [nI_clamp (by omega), p1 w hw, nI_1]
  refine br_f (by rw [show (0 : Int32) = nI 0 from rfl, q_lt (by omega) (by omega)]; omega) (br_f (by rw [show (24 : Int32) = nI 24 from rfl, q_le (by omega) (by omega)]; omega) ⟨vp_in_nI (by omega) (by omega), vp_in_nI (by omega) (by omega), fun s1 e1 => ⟨vp_in_nI (by omega) (by omega), fun s2 e2 => ?_⟩⟩)
  have e67 : s1 67 = σ 67 := by rw [e1, us_ne (by omega)]
  have e68 : s1 68 w = nI (c w + 1) := by rw [e1, us_same, pk_us]
  have em : (if (s1 67 1) < (s1 68 w) then (s1 68 w) else (s1 67 1)) = nI (max mx (c w + 1)) := by
    rw [e67, e68, p2]
    by_cases z : mx < c w + 1
    · rw [if_pos (by rw [q_lt (by omega) (by omega)]; exact z)]; exact congrArg nI (by omega)
    · rw [if_neg (by rw [q_lt (by omega) (by omega)]; exact z)]; exact congrArg nI (by omega)
  rw [em] at e2
  refine hq s2 ⟨fun j hj => ?_, ?_, ?_, ?_⟩ (fun q h1 h2 => by rw [e2, us_ne h1, e1, us_ne h2])
  · rw [e2, us_ne (by omega), e1, us_same]
    unfold upd upN
    by_cases z : j = w
    · rw [if_pos z, if_pos z]
    · rw [if_neg z, if_neg z]; exact p1 j hj
  · rw [e2, us_same, pk_us]
  · rw [e2, us_same, pk_un (by omega), e67]; exact p3
  · rw [e2, us_same, pk_un (by omega), e67]; exact p4
set_option maxHeartbeats 4000000 in
set_option maxRecDepth 100000 in
theorem t_offer {c : Nat → Nat} {mx b : Nat} {v x : Int32} (h : Pt σ c mx b v) (hm : mx < 1000) (hb : b < 1000) {Q : St → Prop} (hk : (mx = 0 ∨ b ≤ mx) → Q σ) (hq : 0 < mx → mx < b → ∀ σ', Pt σ' c mx mx x → (∀ q, q ≠ 67 → σ' q = σ q) → Q σ') : V_X3_offer x σ Q := by
  obtain ⟨p1, p2, p3, p4⟩ := h
  unfold V_X3_offer B_X3_offer_e
  rw [p2, p3]
  by_cases z : mx = 0
  · exact br_t (by rw [show (0 : Int32) = nI 0 from rfl, q_le (by omega) (by omega)]; omega) (hk (Or.inl z))
  · refine br_f (by rw [show (0 : Int32) = nI 0 from rfl, q_le (by omega) (by omega)]; omega) ?_
    by_cases y : b ≤ mx
    · exact br_t (by rw [q_le (by omega) (by omega)]; exact y) (hk (Or.inr y))
    · refine br_f (by rw [q_le (by omega) (by omega)]; exact y) (fun s1 e1 s2 e2 => ?_)
      subst e1; subst e2
      refine hq (by omega) (by omega) _ ⟨fun j hj => ?_, ?_, ?_, ?_⟩ (fun q h => by rw [us_ne h, us_ne h])
      · rw [us_ne (by omega), us_ne (by omega)]; exact p1 j hj
      · rw [us_same, pk_un (by omega), us_same, pk_un (by omega)]; exact p2
      · rw [us_same, pk_un (by omega), us_same, pk_us]
      · rw [us_same, pk_us]
end O22
