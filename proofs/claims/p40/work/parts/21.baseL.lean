/-! the law's world: the class's cells, then the law's own rows -/
def zq : Nat → Int32 := fun _ => 0
def celL (ad : Nat → Nat) (cA : ClassId) (k : Nat) (f : Nat → Int32) : va_E := if k < 81 then celC ad cA k f else if k = 81 then .inl (cA, 39, .inl f) else .inl (cA, 7, .inl f)
theorem ceL_lo {ad : Nat → Nat} {cA : ClassId} {k : Nat} (h : k < 81) (f : Nat → Int32) : celL ad cA k f = celC ad cA k f := if_pos h
theorem ceL_81 {ad : Nat → Nat} {cA : ClassId} (f : Nat → Int32) : celL ad cA 81 f = .inl (cA, 39, .inl f) := by unfold celL; rw [if_neg (by decide), if_pos rfl]
theorem ceL_hi {ad : Nat → Nat} {cA : ClassId} {k : Nat} (h : 82 ≤ k) (f : Nat → Int32) : celL ad cA k f = .inl (cA, 7, .inl f) := by unfold celL; rw [if_neg (by omega), if_neg (by omega)]
theorem ceL_82 {ad : Nat → Nat} {cA : ClassId} (f : Nat → Int32) : celL ad cA 82 f = .inl (cA, 7, .inl f) := ceL_hi (by decide) f
theorem ceL_83 {ad : Nat → Nat} {cA : ClassId} (f : Nat → Int32) : celL ad cA 83 f = .inl (cA, 7, .inl f) := ceL_hi (by decide) f
theorem ceL_84 {ad : Nat → Nat} {cA : ClassId} (f : Nat → Int32) : celL ad cA 84 f = .inl (cA, 7, .inl f) := ceL_hi (by decide) f
def mg (u σ : St) : St := fun k => if k < 81 then u k else σ k
theorem mg_lo {u σ : St} {k : Nat} (h : k < 81) : mg u σ k = u k := if_pos h
theorem mg_hi {u σ : St} {k : Nat} (h : ¬ k < 81) : mg u σ k = σ k := if_neg h
def LF {R : Type} (σ : St) (F : R → St → Prop) : R → St → Prop := fun r u => F r (mg u σ)
def ua (ad : Nat → Nat) (n q : Nat) : Nat → Nat := fun i => if i = n then q else ad i
theorem ua_s {ad : Nat → Nat} {n q : Nat} : ua ad n q n = q := if_pos rfl
theorem ua_n {ad : Nat → Nat} {n q k : Nat} (h : k ≠ n) : ua ad n q k = ad k := if_neg h
theorem celC_ua {ad : Nat → Nat} {n q : Nat} {cA : ClassId} (hn : 81 ≤ n) {k : Nat} {f : Nat → Int32} : celC (ua ad n q) cA k f = celC ad cA k f := by
  have h : ∀ k, k < 81 → ua ad n q k = ad k := fun k hk => ua_n (by omega)
  unfold celC
  congr 2
  unfold tabC
  simp (disch := decide) only [h]
theorem celL_ua {ad : Nat → Nat} {n q : Nat} {cA : ClassId} (hn : 81 ≤ n) {k : Nat} {f : Nat → Int32} : celL (ua ad n q) cA k f = celL ad cA k f := by
  unfold celL
  rw [celC_ua hn]
theorem wd_len {n : Nat} {ad : Nat → Nat} {cel : Nat → (Nat → Int32) → va_E} {σ : St} : (wd n ad cel σ).length = n := by simp [wd]
theorem wd_o {n : Nat} {ad : Nat → Nat} {cel : Nat → (Nat → Int32) → va_E} {σ : St} {k : Nat} (h : n ≤ k) : (wd n ad cel σ)[k]? = none := by
  rw [List.getElem?_eq_none_iff, wd_len]; exact h
theorem wd_app {n q : Nat} {ad : Nat → Nat} {cA : ClassId} {σ : St} {e : (Nat → Int32) → va_E} {cel : Nat → (Nat → Int32) → va_E} (hc : ∀ k f, k < n → cel k f = celL ad cA k f) (hn : 81 ≤ n) (he : ∀ f, celL ad cA n f = e f) : wd n ad cel σ ++ [(q, e zq)] = wd (n + 1) (ua ad n q) (celL (ua ad n q) cA) (us σ n zq) := by
  apply List.ext_getElem?
  intro i
  by_cases h : i < n
  · rw [List.getElem?_append_left (by rw [wd_len]; exact h), wd_at h, wd_at (by omega), ua_n (by omega), celL_ua hn, hc i _ h]
    unfold us
    rw [if_neg (by omega)]
  · by_cases h2 : i = n
    · subst h2
      rw [List.getElem?_append_right (by rw [wd_len]; omega), wd_len, wd_at (by omega), ua_s, celL_ua hn, he]
      unfold us
      rw [if_pos rfl, Nat.sub_self]
      rfl
    · rw [wd_o (by omega), List.getElem?_append_right (by rw [wd_len]; omega), wd_len]
      obtain ⟨d, hd⟩ : ∃ d, i - n = d + 1 := ⟨i - n - 1, by omega⟩
      rw [hd]
      rfl
theorem wd_shr {D : va_G} {cl : List vw_C} {n k : Nat} {ad : Nat → Nat} {cel : Nat → (Nat → Int32) → va_E} {σ : St} {H : Heap} (hk : k ≤ n) (h : va_P D cl (wd n ad cel σ) H) : va_P D cl (wd k ad cel σ) H := fun i q hq => by
  by_cases c : i < k
  · rw [wd_at c] at hq
    exact h i q (by rw [wd_at (by omega)]; exact hq)
  · rw [wd_o (by omega)] at hq; cases hq
theorem wd_cls {D : va_G} {cl : List vw_C} {n : Nat} {ad : Nat → Nat} {cA : ClassId} {σ : St} {H : Heap} (hn : 81 ≤ n) (h : va_P D cl (wd n ad (celL ad cA) σ) H) : va_P D cl (wd 81 ad (celC ad cA) σ) H := fun i q hq => by
  by_cases c : i < 81
  · rw [wd_at c] at hq
    exact h i q (by rw [wd_at (by omega), ceL_lo c]; exact hq)
  · rw [wd_o (by omega)] at hq; cases hq
theorem inj_le {n k : Nat} {ad : Nat → Nat} (hk : k ≤ n) (h : Inj n ad) : Inj k ad := fun i j hi hj => h i j (by omega) (by omega)
theorem wd_mg {D : va_G} {cl : List vw_C} {n : Nat} {ad : Nat → Nat} {cA : ClassId} {u σ : St} {H H1 : Heap} (hi : Inj n ad) (hP : va_P D cl (wd n ad (celL ad cA) σ) H) (hk : ∀ q : Nat, q < H.size → ¬ AA 81 ad H.size q → H1[q]? = H[q]?) (h1 : va_P D cl (wd 81 ad (celC ad cA) u) H1) : va_P D cl (wd n ad (celL ad cA) (mg u σ)) H1 := fun i q hq => by
  by_cases c : i < n
  · rw [wd_at c] at hq
    cases hq
    by_cases c2 : i < 81
    · rw [ceL_lo c2, mg_lo c2]
      exact h1 i _ (wd_at c2)
    · rw [mg_hi c2]
      have h0 := hP i _ (wd_at c)
      refine h0.kept (hk _ h0.lt (fun e => ?_))
      rcases e with ⟨k, hk8, e⟩ | e
      · have := hi k i (by omega) c e
        omega
      · have : ad i < H.size := h0.lt
        exact absurd e (Nat.not_le.mpr this)
  · rw [wd_o (by omega)] at hq; cases hq
theorem wd_Dg {A : Nat → Prop} {n : Nat} {ad : Nat → Nat} {cel : Nat → (Nat → Int32) → va_E} {σ : St} (hi : Inj n ad) (hA : ∀ k, k < n → A (ad k)) : va_D A (wd n ad cel σ) := by
  have hl : ∀ {i : Nat} {q : Nat × va_E}, (wd n ad cel σ)[i]? = some q → i < n ∧ q = (ad i, cel i (σ i)) := by
    intro i q h
    by_cases hn : i < n
    · rw [wd_at hn] at h
      exact ⟨hn, (Option.some.inj h).symm⟩
    · rw [wd_o (by omega)] at h; cases h
  refine ⟨fun i j p q h1 h2 e => ?_, fun k q h => ?_⟩
  · obtain ⟨g1, rfl⟩ := hl h1
    obtain ⟨g2, rfl⟩ := hl h2
    exact hi i j g1 g2 e
  · obtain ⟨g1, rfl⟩ := hl h
    exact hA k g1
theorem wd_Dr {A : Nat → Prop} {n : Nat} {ad : Nat → Nat} {cel : Nat → (Nat → Int32) → va_E} {σ : St} (h : va_D A (wd n ad cel σ)) : Inj n ad ∧ ∀ k, k < n → A (ad k) :=
  ⟨fun i j hi hj e => h.1 i j _ _ (wd_at hi) (wd_at hj) e, fun k hk => h.2 k _ (wd_at hk)⟩
/-- a helper's start: the world, the class facts, the script -/
def PL (dC : Nat → ClassId) (dI : Nat → Nat → Nat) (cA cZ : ClassId) (n : Nat) (ad : Nat → Nat) (b L : Nat) (xs : Nat → Int32) (sz : Nat) (σ : St) : State → Prop := fun U => U.heap.size = sz ∧ va_P (dC, dI) vwCl (wd n ad (celL ad cA) σ) U.heap ∧ KK dC dI cA cZ U ∧ va_X b L xs U U.heap
theorem preL_blind {dC : Nat → ClassId} {dI : Nat → Nat → Nat} {cA cZ : ClassId} {n : Nat} {ad : Nat → Nat} {b L : Nat} {xs : Nat → Int32} {sz : Nat} {σ : St} {av : List Value} : FrameBlind (va_Pc av (PL dC dI cA cZ n ad b L xs sz σ)) := fun a U g mk q => by
  obtain ⟨q0, q1, q2, q3, q4⟩ := q
  exact ⟨q0, q1, q2, q3.call, va_X.moved (u := U) (U := U.calling g mk a) (Vm.Alike.refl U.vm) q4⟩
theorem preL_of {dC : Nat → ClassId} {dI : Nat → Nat → Nat} {cA cZ : ClassId} {n : Nat} {ad : Nat → Nat} {b L : Nat} {xs : Nat → Int32} {σ : St} {H : Heap} {s : State} {av : List Value} (hP : va_P (dC, dI) vwCl (wd n ad (celL ad cA) σ) H) (hK : KK dC dI cA cZ s) (hX : va_X b L xs s H) : ∀ U : State, U.heap = H → s.WarmedH U.vm → va_Pc av (PL dC dI cA cZ n ad b L xs H.size σ) av.toArray U := fun U hU hW => ⟨rfl, by rw [hU], by rw [hU]; exact hP, hK.warm hW, by rw [hU]; exact va_X.moved hW.alike hX⟩
section RL
variable {p : Program} {l : Launch} {e : Env} {R : Room} {s : State} {m : MethodId} {args : Array Value} {below : List Frame} {meth : Method} {c : Code} {H : Heap} {locs : List Loc} {cells slots : Nat} {Z : State → Prop}
variable {cc : ByteArray} {pc : Nat} {ls : Array Slot} {rest st0 : List Value} {D : va_G} {n : Nat} {ad : Nat → Nat} {σ : St} {A : Nat → Prop} {H0 : Heap} {cA cZ : ClassId}
theorem r_lci {F : Int32 → St → Prop} {a : Array Value} (hi : Inj n ad) (hP : va_P D vwCl (wd n ad (celL ad cA) σ) H) (hS : va_S A H0 H locs) (hA : ∀ q, AA 81 ad H.size q → A q) (hr : va_Run p l e R s m args below meth c H locs cells slots 0 0 (F0 m pc ls st0) rest (va_Qi (LF σ F) (fun u t => va_P D vwCl (wd 81 ad (celC ad cA) u) t.heap) (AA 81 ad H.size) a) (AA 81 ad H.size))
    (kk : ∀ (r : Int32) (u : St) (H1 : Heap) (locs1 : List Loc), F r u → va_P D vwCl (wd n ad (celL ad cA) u) H1 → va_S A H0 H1 locs1 → W p l e R s m args below meth c H1 locs1 cells slots Z (F0 m (pc + 3) ls (.int r :: rest))) : W p l e R s m args below meth c H locs cells slots Z (F0 m pc ls st0) :=
  va_calli hr hS (fun q _ h => hA q h) (fun q h => hA q h) (fun r u t H1 locs1 ht _ hw hB _ hk hS1 => kk r (mg u σ) H1 locs1 hw (wd_mg hi hP hk (by rw [← ht]; exact hB)) hS1)
theorem r_lcz {F : Int32 → St → Prop} {a : Array Value} (hi : Inj n ad) (hP : va_P D vwCl (wd n ad (celL ad cA) σ) H) (hS : va_S A H0 H locs) (hA : ∀ q, AA 81 ad H.size q → A q) (hr : va_Run p l e R s m args below meth c H locs cells slots 0 0 (F0 m pc ls st0) rest (va_Qi (fun r u => (r = 0 ∨ r = 1) ∧ LF σ F r u) (fun u t => va_P D vwCl (wd 81 ad (celC ad cA) u) t.heap) (AA 81 ad H.size) a) (AA 81 ad H.size))
    (kk : ∀ (r : Int32) (u : St) (H1 : Heap) (locs1 : List Loc), F r u → va_P D vwCl (wd n ad (celL ad cA) u) H1 → va_S A H0 H1 locs1 → W p l e R s m args below meth c H1 locs1 cells slots Z (F0 m (pc + 3) ls (.int r :: rest))) : W p l e R s m args below meth c H locs cells slots Z (F0 m pc ls st0) :=
  va_calli hr hS (fun q _ h => hA q h) (fun q h => hA q h) (fun r u t H1 locs1 ht _ hw hB _ hk hS1 => kk r (mg u σ) H1 locs1 hw.2 (wd_mg hi hP hk (by rw [← ht]; exact hB)) hS1)
theorem r_lcl {F : Int64 → St → Prop} {a : Array Value} (hi : Inj n ad) (hP : va_P D vwCl (wd n ad (celL ad cA) σ) H) (hS : va_S A H0 H locs) (hA : ∀ q, AA 81 ad H.size q → A q) (hr : va_Run p l e R s m args below meth c H locs cells slots 0 0 (F0 m pc ls st0) rest (va_Ql (LF σ F) (fun u t => va_P D vwCl (wd 81 ad (celC ad cA) u) t.heap) (AA 81 ad H.size) a) (AA 81 ad H.size))
    (kk : ∀ (r : Int64) (u : St) (H1 : Heap) (locs1 : List Loc), F r u → va_P D vwCl (wd n ad (celL ad cA) u) H1 → va_S A H0 H1 locs1 → W p l e R s m args below meth c H1 locs1 cells slots Z (F0 m (pc + 3) ls (.long r :: rest))) : W p l e R s m args below meth c H locs cells slots Z (F0 m pc ls st0) :=
  va_calll hr hS (fun q _ h => hA q h) (fun q h => hA q h) (fun r u t H1 locs1 ht _ hw hB _ hk hS1 => kk r (mg u σ) H1 locs1 hw (wd_mg hi hP hk (by rw [← ht]; exact hB)) hS1)
theorem r_hci {Q : Int32 → St → Prop} {a : Array Value} (hS : va_S A H0 H locs) (hA : ∀ q, AA n ad H.size q → A q) (hr : va_Run p l e R s m args below meth c H locs cells slots 0 0 (F0 m pc ls st0) rest (va_Qi Q (fun u t => va_P D vwCl (wd n ad (celL ad cA) u) t.heap) (AA n ad H.size) a) (AA n ad H.size))
    (kk : ∀ (r : Int32) (u : St) (H1 : Heap) (locs1 : List Loc), Q r u → va_P D vwCl (wd n ad (celL ad cA) u) H1 → va_S A H0 H1 locs1 → W p l e R s m args below meth c H1 locs1 cells slots Z (F0 m (pc + 3) ls (.int r :: rest))) : W p l e R s m args below meth c H locs cells slots Z (F0 m pc ls st0) :=
  va_calli hr hS (fun q _ h => hA q h) (fun q h => hA q h) (fun r u t H1 locs1 ht _ hw hB _ hk hS1 => kk r u H1 locs1 hw (by rw [← ht]; exact hB) hS1)
theorem r_hcv {Q : St → Prop} {a : Array Value} (hS : va_S A H0 H locs) (hA : ∀ q, AA n ad H.size q → A q) (hr : va_Run p l e R s m args below meth c H locs cells slots 0 0 (F0 m pc ls st0) rest (va_Qv Q (fun u t => va_P D vwCl (wd n ad (celL ad cA) u) t.heap) (AA n ad H.size) a) (AA n ad H.size))
    (kk : ∀ (u : St) (H1 : Heap) (locs1 : List Loc), Q u → va_P D vwCl (wd n ad (celL ad cA) u) H1 → va_S A H0 H1 locs1 → W p l e R s m args below meth c H1 locs1 cells slots Z (F0 m (pc + 3) ls rest)) : W p l e R s m args below meth c H locs cells slots Z (F0 m pc ls st0) :=
  va_callv hr hS (fun q _ h => hA q h) (fun q h => hA q h) (fun u t H1 locs1 ht _ hw hB _ hk hS1 => kk u H1 locs1 hw (by rw [← ht]; exact hB) hS1)
theorem aa_A {k : Nat} (hk : k ≤ n) (hA1 : ∀ k, k < n → A (ad k)) (hA2 : ∀ q, H0.size ≤ q → A q) (hS : va_S A H0 H locs) : ∀ q, AA k ad H.size q → A q := fun q hq => by
  rcases hq with ⟨j, hj, e⟩ | hq
  · exact e ▸ hA1 j (by omega)
  · exact hA2 q (Nat.le_trans hS.1 hq)
theorem AA_1 {sz : Nat} : ∀ k, k < n → AA n ad sz (ad k) := fun k hk => Or.inl ⟨k, hk, rfl⟩
theorem AA_2 {sz : Nat} : ∀ q, sz ≤ q → AA n ad sz q := fun q hq => Or.inr hq
theorem AA_b {sz b : Nat} (hb : b < sz) (hne : ∀ k, k < n → ad k ≠ b) : ¬ AA n ad sz b := fun h => by
  rcases h with ⟨k, hk, e⟩ | h
  · exact hne k hk e
  · omega
theorem r_newL (hx : p.tables.exec = Jvm.exec) (hb : c.code = cc) (harr : (Cond.arrayClass .int).before args s = true) (hK : va_K D vwCl [(cA, .int)] s) (hP : va_P D vwCl (wd n ad (celL ad cA) σ) H) (hD : va_D A (wd n ad (celL ad cA) σ)) (hS : va_S A H0 H locs) (hA : ∀ q, H0.size ≤ q → A q) (hn : 82 ≤ n) (hcells : cells + 1 ≤ R.cells) (hslots : slots + 7 ≤ R.slots) (hdg : decode cc pc = .ok (.newarray .int, 2)) (kk : ∀ (q : Nat) (H1 : Heap), va_P D vwCl (wd (n + 1) (ua ad n q) (celL (ua ad n q) cA) (us σ n zq)) H1 → Inj (n + 1) (ua ad n q) → (∀ k, k < n + 1 → A (ua ad n q k)) → va_S A H0 H1 locs → W p l e R s m args below meth c H1 locs (cells + 1) (slots + 7) Z (F0 m (pc + 2) ls (.ref (ua ad n q n) :: rest))) : W p l e R s m args below meth c H locs cells slots Z (F0 m pc ls (.int 7 :: rest)) := by
  refine va_newa (atype := .int) (ty := .int) (a0 := (7, .inl zq)) hx hb harr rfl hK hP hD hS hA (fun _ => rfl) (by decide) (N' := 7) (by decide) (Nat.le_of_ble_eq_true rfl) hcells hslots hdg (fun q c2 H1 hK2 hP2 hD2 hS2 => ?_)
  have e1 := (hK.2 0 _ rfl).2
  have e2 := (hK2.2 1 _ rfl).2
  have e3 : cA = c2 := Option.some.inj (Eq.trans (Eq.symm e1) e2)
  subst e3
  have ew : wd n ad (celL ad cA) σ ++ [(q, .inl (cA, 7, .inl zq))] = wd (n + 1) (ua ad n q) (celL (ua ad n q) cA) (us σ n zq) := wd_app (e := fun f => .inl (cA, 7, .inl f)) (fun k f _ => rfl) (by omega) (fun f => ceL_hi hn f)
  rw [ew] at hP2 hD2
  have hq : ua ad n q n = q := ua_s
  have := kk q H1 hP2 (wd_Dr hD2).1 (wd_Dr hD2).2 hS2
  rw [hq] at this
  exact this
end RL
