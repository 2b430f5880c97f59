/-! the law's calls -/
abbrev La (s : State) : Nat → Prop := fun q => s.heap.size ≤ q
/-- what stands while the law runs -/
def LC (p : Program) (s : State) (m : MethodId) (meth : Method) (c : Code) (b L : Nat) (xs : Nat → Int32) (dC : Nat → ClassId) (dI : Nat → Nat → Nat) (cA cZ : ClassId) (ad bd adK adV : Nat → Nat) : Prop := (p.tables.exec = Jvm.exec ∧ c.code = cL_law ∧ c.maxLocals = 4 ∧ s.vm.findClass RL = some m.cls ∧ (∀ w ∈ lw_tbl, w.before #[Value.ref b] s = true)) ∧ (va_X b L xs s s.heap ∧ b < s.heap.size ∧ L ≤ 2560) ∧ KN dC dI cA cZ s ∧ (SK adK adV (La s) s s.heap ∧ SR adK s) ∧ Inj 81 ad ∧ Inj 12 bd ∧ (∀ k, k < 81 → s.heap.size ≤ ad k) ∧ (∀ k, k < 12 → s.heap.size ≤ bd k) ∧ ∀ i j, i < 81 → j < 12 → ad i ≠ bd j
abbrev PX (dC : Nat → ClassId) (dI : Nat → Nat → Nat) (cA : ClassId) (ad : Nat → Nat) (σ : St) (H : Heap) : Prop := va_P (dC, dI) vwCl (wd 81 ad (celC ad cA) σ) H
abbrev PM (dC : Nat → ClassId) (dI : Nat → Nat → Nat) (cA cZ : ClassId) (bd : Nat → Nat) (τ : St) (H : Heap) : Prop := va_P (dC, dI) vwCl (wd 12 bd (celM bd cA cZ) τ) H
theorem aa_La {n : Nat} {ad : Nat → Nat} {s : State} {H : Heap} {locs : List Loc} (h : ∀ k, k < n → s.heap.size ≤ ad k) (hS : va_S (La s) s.heap H locs) : ∀ q, AA n ad H.size q → La s q := fun q hq => by
  rcases hq with ⟨k, hk, e⟩ | hq
  · exact e ▸ h k hk
  · exact Nat.le_trans hS.1 hq
theorem wd_kept {D : va_G} {cl : List vw_C} {n n2 : Nat} {ad ad2 : Nat → Nat} {cel : Nat → (Nat → Int32) → va_E} {σ : St} {H H1 : Heap} (hP : va_P D cl (wd n ad cel σ) H) (hne : ∀ i j, i < n → j < n2 → ad i ≠ ad2 j) (hk : ∀ q : Nat, q < H.size → ¬ AA n2 ad2 H.size q → H1[q]? = H[q]?) : va_P D cl (wd n ad cel σ) H1 := hP.kept (fun k x hx => by
  have hlt := (hP k x hx).lt
  obtain ⟨h1, rfl⟩ := wd_get hx
  refine hk _ hlt (fun hc => ?_)
  rcases hc with ⟨j, hj, ej⟩ | hc
  · exact hne k j h1 hj ej.symm
  · have : ad k < H.size := hlt
    omega)
theorem preL_of {dC : Nat → ClassId} {dI : Nat → Nat → Nat} {ad : Nat → Nat} {cA cZ : ClassId} {adK adV : Nat → Nat} {σ : St} {H : Heap} {s : State} {locs : List Loc} {av : List Value} (hP : va_P (dC, dI) vwCl (wd 81 ad (celC ad cA) σ) H) (hK : KK dC dI cA cZ s) (hZ : SK adK adV (La s) s s.heap) (hR : SR adK s) (hS : va_S (La s) s.heap H locs) (ha : ∀ q, AA 81 ad H.size q → La s q) : ∀ U : State, U.heap = H → s.WarmedH U.vm → va_Pc av (PS dC dI ad cA cZ adK adV H.size σ) av.toArray U := fun U hU hW => ⟨rfl, ⟨by rw [hU], by rw [hU]; exact hP, hK.warm hW⟩, by rw [hU]; exact ((hZ.kept hS.2.1).narrow ha).moved hW.alike, fun i hi => vk_R.warm hW (hR i hi)⟩
section LR
variable {p : Program} {l : Launch} {e : Env} {R : Room} {s : State} {m : MethodId} {args : Array Value} {below : List Frame} {meth : Method} {c : Code} {H : Heap} {locs : List Loc} {cells slots : Nat} {Z : State → Prop} {pc : Nat} {ls : Array Slot} {rest st0 : List Value} {dC : Nat → ClassId} {dI : Nat → Nat → Nat} {cA cZ : ClassId} {ad bd : Nat → Nat} {σ τ : St}
theorem lx_ci {Q : Int32 → St → Prop} {a : Array Value} (hr : va_Run p l e R s m args below meth c H locs cells slots 0 0 (F0 m pc ls st0) rest (va_Qi Q (fun u t => PX dC dI cA ad u t.heap) (AA 81 ad H.size) a) (AA 81 ad H.size)) (hM : PM dC dI cA cZ bd τ H) (hS : va_S (La s) s.heap H locs) (hda : ∀ k, k < 81 → s.heap.size ≤ ad k) (hne : ∀ i j, i < 81 → j < 12 → ad i ≠ bd j)
    (kk : ∀ (r : Int32) (u : St) (H1 : Heap) (locs1 : List Loc), Q r u → PX dC dI cA ad u H1 → PM dC dI cA cZ bd τ H1 → va_S (La s) s.heap H1 locs1 → W p l e R s m args below meth c H1 locs1 cells slots Z (F0 m (pc + 3) ls (.int r :: rest))) : W p l e R s m args below meth c H locs cells slots Z (F0 m pc ls st0) :=
  va_calli hr hS (fun q _ h => aa_La hda hS q h) (fun q h => aa_La hda hS q h) (fun r u t H1 locs1 ht _ hw hB _ hk hS1 => kk r u H1 locs1 hw (by rw [← ht]; exact hB) (wd_kept hM (fun i j h1 h2 e => hne j i h2 h1 e.symm) hk) hS1)
theorem lm_ci {Q : Int32 → St → Prop} {a : Array Value} (hr : va_Run p l e R s m args below meth c H locs cells slots 0 0 (F0 m pc ls st0) rest (va_Qi Q (fun u t => PM dC dI cA cZ bd u t.heap) (AA 12 bd H.size) a) (AA 12 bd H.size)) (hX : PX dC dI cA ad σ H) (hS : va_S (La s) s.heap H locs) (hdb : ∀ k, k < 12 → s.heap.size ≤ bd k) (hne : ∀ i j, i < 81 → j < 12 → ad i ≠ bd j)
    (kk : ∀ (r : Int32) (u : St) (H1 : Heap) (locs1 : List Loc), Q r u → PX dC dI cA ad σ H1 → PM dC dI cA cZ bd u H1 → va_S (La s) s.heap H1 locs1 → W p l e R s m args below meth c H1 locs1 cells slots Z (F0 m (pc + 3) ls (.int r :: rest))) : W p l e R s m args below meth c H locs cells slots Z (F0 m pc ls st0) :=
  va_calli hr hS (fun q _ h => aa_La hdb hS q h) (fun q h => aa_La hdb hS q h) (fun r u t H1 locs1 ht _ hw hB _ hk hS1 => kk r u H1 locs1 hw (wd_kept hX hne hk) (by rw [← ht]; exact hB) hS1)
theorem lx_cl {Q : Int64 → St → Prop} {a : Array Value} (hr : va_Run p l e R s m args below meth c H locs cells slots 0 0 (F0 m pc ls st0) rest (va_Ql Q (fun u t => PX dC dI cA ad u t.heap) (AA 81 ad H.size) a) (AA 81 ad H.size)) (hM : PM dC dI cA cZ bd τ H) (hS : va_S (La s) s.heap H locs) (hda : ∀ k, k < 81 → s.heap.size ≤ ad k) (hne : ∀ i j, i < 81 → j < 12 → ad i ≠ bd j)
    (kk : ∀ (r : Int64) (u : St) (H1 : Heap) (locs1 : List Loc), Q r u → PX dC dI cA ad u H1 → PM dC dI cA cZ bd τ H1 → va_S (La s) s.heap H1 locs1 → W p l e R s m args below meth c H1 locs1 cells slots Z (F0 m (pc + 3) ls (.long r :: rest))) : W p l e R s m args below meth c H locs cells slots Z (F0 m pc ls st0) :=
  va_calll hr hS (fun q _ h => aa_La hda hS q h) (fun q h => aa_La hda hS q h) (fun r u t H1 locs1 ht _ hw hB _ hk hS1 => kk r u H1 locs1 hw (by rw [← ht]; exact hB) (wd_kept hM (fun i j h1 h2 e => hne j i h2 h1 e.symm) hk) hS1)
theorem lm_cl {Q : Int64 → St → Prop} {a : Array Value} (hr : va_Run p l e R s m args below meth c H locs cells slots 0 0 (F0 m pc ls st0) rest (va_Ql Q (fun u t => PM dC dI cA cZ bd u t.heap) (AA 12 bd H.size) a) (AA 12 bd H.size)) (hX : PX dC dI cA ad σ H) (hS : va_S (La s) s.heap H locs) (hdb : ∀ k, k < 12 → s.heap.size ≤ bd k) (hne : ∀ i j, i < 81 → j < 12 → ad i ≠ bd j)
    (kk : ∀ (r : Int64) (u : St) (H1 : Heap) (locs1 : List Loc), Q r u → PX dC dI cA ad σ H1 → PM dC dI cA cZ bd u H1 → va_S (La s) s.heap H1 locs1 → W p l e R s m args below meth c H1 locs1 cells slots Z (F0 m (pc + 3) ls (.long r :: rest))) : W p l e R s m args below meth c H locs cells slots Z (F0 m pc ls st0) :=
  va_calll hr hS (fun q _ h => aa_La hdb hS q h) (fun q h => aa_La hdb hS q h) (fun r u t H1 locs1 ht _ hw hB _ hk hS1 => kk r u H1 locs1 hw (wd_kept hX hne hk) (by rw [← ht]; exact hB) hS1)
end LR
