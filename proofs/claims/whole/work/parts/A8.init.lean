/-! the start -/
def s0C : St := fun c => if c = 0 then (fun j => if j = 9 then 1 else 0) else if c = 13 ∨ c = 31 ∨ c = 49 then (fun j => if j = 1 then 5 else if j = 2 then 2 else 0) else if c = 15 ∨ c = 17 ∨ c = 33 ∨ c = 35 ∨ c = 51 ∨ c = 53 then (fun j => if j = 1 then 6 else if j = 2 then 4 else 0) else zr
theorem splitD {A : Nat → Prop} {n1 n2 : Nat} {ad bd : Nat → Nat} {c1 c2 : Nat → (Nat → Int32) → va_E} {σ τ : St} (h : va_D A (wd n1 ad c1 σ ++ wd n2 bd c2 τ)) : Inj n1 ad ∧ Inj n2 bd ∧ (∀ k, k < n1 → A (ad k)) ∧ (∀ k, k < n2 → A (bd k)) ∧ ∀ i j, i < n1 → j < n2 → ad i ≠ bd j := by
  have hl : (wd n1 ad c1 σ).length = n1 := by simp [wd]
  have e1 : ∀ k, k < n1 → (wd n1 ad c1 σ ++ wd n2 bd c2 τ)[k]? = some (ad k, c1 k (σ k)) := fun k hk => by
    rw [List.getElem?_append_left (by omega)]; exact wd_at hk
  have e2 : ∀ k, k < n2 → (wd n1 ad c1 σ ++ wd n2 bd c2 τ)[n1 + k]? = some (bd k, c2 k (τ k)) := fun k hk => by
    rw [List.getElem?_append_right (by omega), show n1 + k - (wd n1 ad c1 σ).length = k by omega]; exact wd_at hk
  refine ⟨fun i j hi hj e => h.1 i j _ _ (e1 i hi) (e1 j hj) e, fun i j hi hj e => ?_, fun k hk => h.2 k _ (e1 k hk), fun k hk => h.2 _ _ (e2 k hk), fun i j hi hj e => ?_⟩
  · have := h.1 _ _ _ _ (e2 i hi) (e2 j hj) e
    omega
  · have := h.1 _ _ _ _ (e1 i hi) (e2 j hj) e
    omega
theorem splitP {D : va_G} {cl : List vw_C} {w1 w2 : va_W} {H : Heap} (h : va_P D cl (w1 ++ w2) H) : va_P D cl w1 H ∧ va_P D cl w2 H := ⟨fun k q hk => h k q (by rw [List.getElem?_append_left (List.getElem?_eq_some_iff.mp hk).1]; exact hk), fun k q hk => h (w1.length + k) q (by rw [List.getElem?_append_right (by omega), show w1.length + k - w1.length = k by omega]; exact hk)⟩
theorem w10_wd (u : Nat → Nat) (cA : ClassId) : wX10 u cA = wd 81 u (celC u cA) s0C := rfl
theorem WFA_00 : WFA (fun _ => 0) := by
  have bd : Bd (fun _ => 0) := ⟨Nat.zero_le _, Nat.zero_le _, (by decide), (by decide), fun i hi => Nat.zero_le _, fun g hg => absurd hg (Nat.not_lt_zero _), fun g hg => absurd hg (Nat.not_lt_zero _), fun g j hg => absurd hg (Nat.not_lt_zero _), fun _ => show (0:Nat) < 2147483648 by decide⟩
  exact ⟨bd, Nat.zero_le _, Nat.zero_le _, Nat.zero_le _, Nat.zero_le _, Nat.zero_le _, Nat.zero_le _, fun g hg => absurd hg (Nat.not_lt_zero _), fun g hg => absurd hg (Nat.not_lt_zero _), fun g hg => absurd hg (Nat.not_lt_zero _), fun g hg => absurd hg (Nat.not_lt_zero _), fun g hg => absurd hg (Nat.not_lt_zero _)⟩
theorem WF_00 : WF S00 := ⟨WFA_00, fun _ => WFA_00, fun _ => WFA_00, by decide, by decide, by decide, by decide, by decide, fun i hi => absurd hi (by show ¬ i < 0; omega)⟩
theorem CR_00 : CR s0C S00 B00 := by
  have bz : ∀ s, bh (fun _ => 0) s = 0 := fun s => bh_none (by decide) (fun k hk => absurd hk (Nat.not_lt_zero _))
  have st : StR s0C 2 (fun _ => 0) := ⟨rfl, rfl, rfl, rfl, fun i hi => rfl, fun g hg => absurd hg (Nat.not_lt_zero _), fun g hg => absurd hg (Nat.not_lt_zero _), fun g hg => absurd hg (Nat.not_lt_zero _), fun g hg => absurd hg (Nat.not_lt_zero _), fun g hg => absurd hg (Nat.not_lt_zero _), fun s hs => by rw [bz]; rfl⟩
  exact ⟨⟨st, ⟨rfl, fun r hr => absurd hr (Nat.not_lt_zero _)⟩, ⟨rfl, fun r hr => absurd hr (Nat.not_lt_zero _)⟩, ⟨rfl, fun r hr => absurd hr (Nat.not_lt_zero _)⟩, ⟨rfl, fun r hr => absurd hr (Nat.not_lt_zero _)⟩⟩, fun c => absurd c (by decide), fun c => absurd c (by decide), ⟨rfl, rfl, rfl, rfl, rfl, rfl⟩, rfl, rfl, rfl, rfl, rfl, rfl, rfl, fun i hi => absurd hi (by show ¬ i < 0; omega)⟩
