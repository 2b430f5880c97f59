/-! the six words: texts of the class, and the library's members on them -/
def lenJ : List Nat := [6, 3, 5, 8, 4, 5]
def bytJ : List (List Int32) := [[115, 116, 114, 101, 101, 116], [119, 101, 116], [103, 108, 111, 118, 101], [99, 114, 111, 115, 115, 105, 110, 103], [115, 104, 117, 116], [104, 111, 117, 114, 115]]
def idJ : List Nat := [31, 58, 63, 68, 73, 78]
def txJ : List String := ["street", "wet", "glove", "crossing", "shut", "hours"]
def chJ (i k : Nat) : Int32 := (bytJ.getD i []).getD k 0
def SK (adK adV : Nat → Nat) (A : Nat → Prop) (U : State) (H : Heap) : Prop := vk_S 6 lenJ bytJ adK adV A U H ∧ va_Z "java/lang/String" "COMPACT_STRINGS" "Z" (.int 1) A U H ∧ va_Zq "jdk/internal/util/Preconditions" "SIOOBE_FORMATTER" "Ljava/util/function/BiFunction;" A U H
theorem SK.moved {adK adV : Nat → Nat} {A : Nat → Prop} {u U : State} {H : Heap} (hvm : u.vm.Alike U.vm) (h : SK adK adV A u H) : SK adK adV A U H := ⟨h.1.moved hvm, h.2.1.moved hvm, h.2.2.moved hvm⟩
theorem SK.kept {adK adV : Nat → Nat} {A : Nat → Prop} {U : State} {H H1 : Heap} (h : SK adK adV A U H) (hq : ∀ a : Nat, a < H.size → ¬ A a → H1[a]? = H[a]?) : SK adK adV A U H1 := ⟨h.1.kept hq, h.2.1.kept hq, h.2.2.kept hq⟩
theorem SK.narrow {adK adV : Nat → Nat} {A B : Nat → Prop} {U : State} {H : Heap} (h : SK adK adV A U H) (hAB : ∀ q, B q → A q) : SK adK adV B U H := ⟨h.1.narrow hAB, h.2.1.narrow hAB, h.2.2.narrow hAB⟩
def SR (adK : Nat → Nat) (U : State) : Prop := ∀ i, i < 6 → vk_R RX5 (idJ.getD i 0) (txJ.getD i "") (adK i) U
def PS (dC : Nat → ClassId) (dI : Nat → Nat → Nat) (ad : Nat → Nat) (cA cZ : ClassId) (adK adV : Nat → Nat) (sz : Nat) (σ : St) : State → Prop := fun U => PW dC dI ad cA cZ 81 (celC ad cA) sz σ U ∧ SK adK adV (AA 81 ad sz) U U.heap ∧ SR adK U
theorem preS_blind {dC : Nat → ClassId} {dI : Nat → Nat → Nat} {ad : Nat → Nat} {cA cZ : ClassId} {adK adV : Nat → Nat} {sz : Nat} {σ : St} {av : List Value} : FrameBlind (va_Pc av (PS dC dI ad cA cZ adK adV sz σ)) := fun a U g mk q => by
  obtain ⟨q0, ⟨q1, q2, q3⟩, q4, q5⟩ := q
  exact ⟨q0, ⟨q1, q2, q3.call⟩, SK.moved (u := U) (U := U.calling g mk a) (Vm.Alike.refl U.vm) q4, fun i hi => vk_R.same rfl (q5 i hi)⟩
theorem preS_of {dC : Nat → ClassId} {dI : Nat → Nat → Nat} {ad : Nat → Nat} {cA cZ : ClassId} {adK adV : Nat → Nat} {σ : St} {H : Heap} {s : State} {locs : List Loc} {av : List Value} (hP : va_P (dC, dI) vwCl (wd 81 ad (celC ad cA) σ) H) (hK : KK dC dI cA cZ s) (hZ : SK adK adV (AA 81 ad s.heap.size) s s.heap) (hR : SR adK s) (hS : va_S (AA 81 ad s.heap.size) s.heap H locs) : ∀ U : State, U.heap = H → s.WarmedH U.vm → va_Pc av (PS dC dI ad cA cZ adK adV H.size σ) av.toArray U := fun U hU hW => ⟨rfl, ⟨by rw [hU], by rw [hU]; exact hP, hK.warm hW⟩, by rw [hU]; exact ((hZ.kept hS.2.1).narrow (fun q h => aa_in hS.1 h)).moved hW.alike, fun i hi => vk_R.warm hW (hR i hi)⟩
section SX
variable {p : Program} {l : Launch} {e : Env} {R : Room} {s : State} {m : MethodId} {args : Array Value} {below : List Frame} {meth : Method} {c : Code} {H : Heap} {locs : List Loc} {cc : ByteArray} {pc : Nat} {ls : Array Slot} {D : va_G} {n : Nat} {ad : Nat → Nat} {cel : Nat → (Nat → Int32) → va_E} {σ : St}
theorem r_tret (hx : p.tables.exec = Jvm.exec) (hb : c.code = cc) {ty : FieldType} (hr : meth.sig.returnType = some ty) (hlocks : meth.locks = false) {Q : Int32 → St → Prop} {v : Int32} (hn : narrow ty (.int v) = .int v) (hv : Q v σ) (hP : va_P D vwCl (wd n ad cel σ) H) (hS : va_S (AA n ad s.heap.size) s.heap H locs) (hdg : decode cc pc = .ok (.ireturn, 1)) : W p l e R s m args below meth c H locs 0 0 (ZI below args s D n ad cel Q) (F0 m pc ls [.int v]) :=
  W.zret hx hb hr hn (fun t ht _ => ⟨⟨v, σ, rfl, hv, by show va_P _ _ _ t.heap; rw [ht]; exact hP⟩, hS.F ht⟩) hS.2.2 hdg hlocks
end SX
abbrev QI (dC : Nat → ClassId) (dI : Nat → Nat → Nat) (ad : Nat → Nat) (cA : ClassId) (sz : Nat) (Q : Int32 → St → Prop) : Array Value → State → Outcome → State → Prop := va_Qi Q (fun u t => va_P (dC, dI) vwCl (wd 81 ad (celC ad cA) u) t.heap) (AA 81 ad sz)
abbrev QV (dC : Nat → ClassId) (dI : Nat → Nat → Nat) (ad : Nat → Nat) (cA : ClassId) (sz : Nat) (Q : St → Prop) : Array Value → State → Outcome → State → Prop := va_Qv Q (fun u t => va_P (dC, dI) vwCl (wd 81 ad (celC ad cA) u) t.heap) (AA 81 ad sz)
section SJ
variable {l : Launch} {dC : Nat → ClassId} {dI : Nat → Nat → Nat} {ad : Nat → Nat} {cA cZ : ClassId} {adK adV : Nat → Nat}
set_option maxHeartbeats 4000000 in
set_option maxRecDepth 100000 in
theorem c_coder (hi : Inj 81 ad) {i : Nat} (hi6 : i < 6) (s0 : St) (Q : Int32 → St → Prop) (hv : Q 0 s0) (sz : Nat) : Met l yJ0_coder_7d493 wsJ0_coder_7d493 ({ frames := 0, cells := 0, slots := 0, locals := 0 } : Room) (va_Pc [.ref (adK i)] (PS dC dI ad cA cZ adK adV sz s0)) (QI dC dI ad cA sz Q) 0 0 (AA 81 ad sz) := by
  refine Met.ofW (cc := cJ0_coder_7d493) (maxL := 1) (ret := some .byte) (by decide) rfl ?_
  intro p e s m args below meth c s₁ B hml hv0
  obtain ⟨rfl, ⟨hsz, hP, hK⟩, hZ, hR⟩ := hv0
  subst hsz
  obtain ⟨hx, hb, hml, hown, hts, hr, hlocks⟩ : Cx cJ0_coder_7d493 RJ0 wsJ0_coder_7d493 1 (some .byte) p s m ([.ref (adK i)] : List Value).toArray meth c := ⟨B.exec, B.bytes, hml, findClass_of_methodNamed B.named, atoms_spec (ws := wsJ0_coder_7d493) B.pre, B.returns, B.notSynchronized⟩
  have hl := lv_entry ([.ref (adK i)]) (n := 1) (Nat.le_of_ble_eq_true rfl)
  rw [lg_entry_eq]
  generalize (lg_sl ([.ref (adK i)]) ++ List.replicate (1 - (lg_sl ([.ref (adK i)])).length) Slot.unset).toArray = ls at hl ⊢
  have hl : lv_has ls 1 [(0, .ref (adK i))] := hl
  have hS : va_S (AA 81 ad s.heap.size) s.heap s.heap [] := va_S.rf
  refine va_gets hx hb hZ.2.1 hS hown (hts _ (List.mem_of_getElem? (i := 1) rfl)) (fun _ h => h) dJ0_coder_7d493_0 ?_
  refine lv_if_eq (tgt := 13) hx hb dJ0_coder_7d493_3 (by decide) (fun c => absurd c (by decide)) (fun _ => ?_)
  refine lv_aload_n hx hb dJ0_coder_7d493_6 rfl (lv_at hl 0 rfl) ?_
  refine vk_getf hx hb (hZ.1.1 i hi6).2.1 hS hown (hts _ (List.mem_of_getElem? (i := 2) rfl)) (fun _ h => h) dJ0_coder_7d493_7 ?_
  refine lv_goto (tgt := 14) hx hb dJ0_coder_7d493_10 (by decide) ?_
  exact r_tret hx hb hr hlocks rfl hv hP hS dJ0_coder_7d493_14
set_option maxHeartbeats 4000000 in
set_option maxRecDepth 100000 in
theorem c_isLatin1 (hi : Inj 81 ad) {i : Nat} (hi6 : i < 6) (s0 : St) (Q : Int32 → St → Prop) (hv : Q 1 s0) (sz : Nat) : Met l yJ0_isLatin1_aae02 wsJ0_isLatin1_aae02 ({ frames := 0, cells := 0, slots := 0, locals := 0 } : Room) (va_Pc [.ref (adK i)] (PS dC dI ad cA cZ adK adV sz s0)) (QI dC dI ad cA sz Q) 0 0 (AA 81 ad sz) := by
  refine Met.ofW (cc := cJ0_isLatin1_aae02) (maxL := 1) (ret := some .boolean) (by decide) rfl ?_
  intro p e s m args below meth c s₁ B hml hv0
  obtain ⟨rfl, ⟨hsz, hP, hK⟩, hZ, hR⟩ := hv0
  subst hsz
  obtain ⟨hx, hb, hml, hown, hts, hr, hlocks⟩ : Cx cJ0_isLatin1_aae02 RJ0 wsJ0_isLatin1_aae02 1 (some .boolean) p s m ([.ref (adK i)] : List Value).toArray meth c := ⟨B.exec, B.bytes, hml, findClass_of_methodNamed B.named, atoms_spec (ws := wsJ0_isLatin1_aae02) B.pre, B.returns, B.notSynchronized⟩
  have hl := lv_entry ([.ref (adK i)]) (n := 1) (Nat.le_of_ble_eq_true rfl)
  rw [lg_entry_eq]
  generalize (lg_sl ([.ref (adK i)]) ++ List.replicate (1 - (lg_sl ([.ref (adK i)])).length) Slot.unset).toArray = ls at hl ⊢
  have hl : lv_has ls 1 [(0, .ref (adK i))] := hl
  have hS : va_S (AA 81 ad s.heap.size) s.heap s.heap [] := va_S.rf
  refine va_gets hx hb hZ.2.1 hS hown (hts _ (List.mem_of_getElem? (i := 1) rfl)) (fun _ h => h) dJ0_isLatin1_aae02_0 ?_
  refine lv_if_eq (tgt := 17) hx hb dJ0_isLatin1_aae02_3 (by decide) (fun c => absurd c (by decide)) (fun _ => ?_)
  refine lv_aload_n hx hb dJ0_isLatin1_aae02_6 rfl (lv_at hl 0 rfl) ?_
  refine vk_getf hx hb (hZ.1.1 i hi6).2.1 hS hown (hts _ (List.mem_of_getElem? (i := 2) rfl)) (fun _ h => h) dJ0_isLatin1_aae02_7 ?_
  refine lv_if_ne (tgt := 17) hx hb dJ0_isLatin1_aae02_10 (by decide) (fun c => absurd rfl c) (fun _ => ?_)
  refine lv_iconst (v := 1) hx hb dJ0_isLatin1_aae02_13 (by decide) ?_
  refine lv_goto (tgt := 18) hx hb dJ0_isLatin1_aae02_14 (by decide) ?_
  exact r_tret hx hb hr hlocks rfl hv hP hS dJ0_isLatin1_aae02_18
set_option maxHeartbeats 4000000 in
set_option maxRecDepth 100000 in
theorem c_checkIndex3n (hi : Inj 81 ad) {x y : Int32} (h0 : ¬ x < 0) (h1 : x < y) (s0 : St) (Q : Int32 → St → Prop) (hv : Q x s0) (sz : Nat) : Met l yJ3_checkIndex_8e157 wsJ3_checkIndex_8e157 ({ frames := 0, cells := 0, slots := 0, locals := 0 } : Room) (va_Pc [.int x, .int y, .null] (PS dC dI ad cA cZ adK adV sz s0)) (QI dC dI ad cA sz Q) 0 0 (AA 81 ad sz) := by
  refine Met.ofW (cc := cJ3_checkIndex_8e157) (maxL := 3) (ret := (some .int)) (by decide) rfl ?_
  intro p e s m args below meth c s₁ B hml hv0
  obtain ⟨rfl, ⟨hsz, hP, hK⟩, hZ, hR⟩ := hv0
  subst hsz
  obtain ⟨hx, hb, hml, hown, hts, hr, hlocks⟩ : Cx cJ3_checkIndex_8e157 RJ3 wsJ3_checkIndex_8e157 3 (some .int) p s m ([.int x, .int y, .null] : List Value).toArray meth c := ⟨B.exec, B.bytes, hml, findClass_of_methodNamed B.named, atoms_spec (ws := wsJ3_checkIndex_8e157) B.pre, B.returns, B.notSynchronized⟩
  have hl := lv_entry ([.int x, .int y, .null]) (n := 3) (Nat.le_of_ble_eq_true rfl)
  rw [lg_entry_eq]
  generalize (lg_sl ([.int x, .int y, .null]) ++ List.replicate (3 - (lg_sl ([.int x, .int y, .null])).length) Slot.unset).toArray = ls at hl ⊢
  have hl : lv_has ls 3 [(0, .int x), (1, .int y), (2, .null)] := hl
  have hS : va_S (AA 81 ad s.heap.size) s.heap s.heap [] := va_S.rf
  refine lv_iload_n hx hb dJ3_checkIndex_8e157_0 rfl (lv_at hl 0 rfl) ?_
  refine lv_if_lt (tgt := 9) hx hb dJ3_checkIndex_8e157_1 (by decide) (fun c => absurd c h0) (fun _ => ?_)
  refine lv_iload_n hx hb dJ3_checkIndex_8e157_4 rfl (lv_at hl 0 rfl) ?_
  refine lv_iload_n hx hb dJ3_checkIndex_8e157_5 rfl (lv_at hl 1 rfl) ?_
  refine lv_icmp_lt (tgt := 16) hx hb dJ3_checkIndex_8e157_6 (by decide) (fun _ => ?_) (fun c => absurd h1 c)
  refine lv_iload_n hx hb dJ3_checkIndex_8e157_16 rfl (lv_at hl 0 rfl) ?_
  exact r_iret hx hb hr hlocks hv hP hS dJ3_checkIndex_8e157_17
set_option maxHeartbeats 4000000 in
set_option maxRecDepth 100000 in
theorem c_checkIndex3r (hi : Inj 81 ad) {x y : Int32} {t : Nat} (h0 : ¬ x < 0) (h1 : x < y) (s0 : St) (Q : Int32 → St → Prop) (hv : Q x s0) (sz : Nat) : Met l yJ3_checkIndex_8e157 wsJ3_checkIndex_8e157 ({ frames := 0, cells := 0, slots := 0, locals := 0 } : Room) (va_Pc [.int x, .int y, .ref t] (PS dC dI ad cA cZ adK adV sz s0)) (QI dC dI ad cA sz Q) 0 0 (AA 81 ad sz) := by
  refine Met.ofW (cc := cJ3_checkIndex_8e157) (maxL := 3) (ret := (some .int)) (by decide) rfl ?_
  intro p e s m args below meth c s₁ B hml hv0
  obtain ⟨rfl, ⟨hsz, hP, hK⟩, hZ, hR⟩ := hv0
  subst hsz
  obtain ⟨hx, hb, hml, hown, hts, hr, hlocks⟩ : Cx cJ3_checkIndex_8e157 RJ3 wsJ3_checkIndex_8e157 3 (some .int) p s m ([.int x, .int y, .ref t] : List Value).toArray meth c := ⟨B.exec, B.bytes, hml, findClass_of_methodNamed B.named, atoms_spec (ws := wsJ3_checkIndex_8e157) B.pre, B.returns, B.notSynchronized⟩
  have hl := lv_entry ([.int x, .int y, .ref t]) (n := 3) (Nat.le_of_ble_eq_true rfl)
  rw [lg_entry_eq]
  generalize (lg_sl ([.int x, .int y, .ref t]) ++ List.replicate (3 - (lg_sl ([.int x, .int y, .ref t])).length) Slot.unset).toArray = ls at hl ⊢
  have hl : lv_has ls 3 [(0, .int x), (1, .int y), (2, .ref t)] := hl
  have hS : va_S (AA 81 ad s.heap.size) s.heap s.heap [] := va_S.rf
  refine lv_iload_n hx hb dJ3_checkIndex_8e157_0 rfl (lv_at hl 0 rfl) ?_
  refine lv_if_lt (tgt := 9) hx hb dJ3_checkIndex_8e157_1 (by decide) (fun c => absurd c h0) (fun _ => ?_)
  refine lv_iload_n hx hb dJ3_checkIndex_8e157_4 rfl (lv_at hl 0 rfl) ?_
  refine lv_iload_n hx hb dJ3_checkIndex_8e157_5 rfl (lv_at hl 1 rfl) ?_
  refine lv_icmp_lt (tgt := 16) hx hb dJ3_checkIndex_8e157_6 (by decide) (fun _ => ?_) (fun c => absurd h1 c)
  refine lv_iload_n hx hb dJ3_checkIndex_8e157_16 rfl (lv_at hl 0 rfl) ?_
  exact r_iret hx hb hr hlocks hv hP hS dJ3_checkIndex_8e157_17
set_option maxHeartbeats 4000000 in
set_option maxRecDepth 100000 in
theorem c_checkIndex (hi : Inj 81 ad) {x y : Int32} (h0 : ¬ x < 0) (h1 : x < y) (s0 : St) (Q : St → Prop) (hv : Q s0) (sz : Nat) : Met l yJ0_checkIndex_df160 wsJ0_checkIndex_df160 ({ frames := 1, cells := 0, slots := 0, locals := 22 } : Room) (va_Pc [.int x, .int y] (PS dC dI ad cA cZ adK adV sz s0)) (QV dC dI ad cA sz Q) 0 0 (AA 81 ad sz) := by
  refine Met.ofW (cc := cJ0_checkIndex_df160) (maxL := 2) (ret := none) (by decide) rfl ?_
  intro p e s m args below meth c s₁ B hml hv0
  obtain ⟨rfl, ⟨hsz, hP, hK⟩, hZ, hR⟩ := hv0
  subst hsz
  obtain ⟨hx, hb, hml, hown, hts, hr, hlocks⟩ : Cx cJ0_checkIndex_df160 RJ0 wsJ0_checkIndex_df160 2 none p s m ([.int x, .int y] : List Value).toArray meth c := ⟨B.exec, B.bytes, hml, findClass_of_methodNamed B.named, atoms_spec (ws := wsJ0_checkIndex_df160) B.pre, B.returns, B.notSynchronized⟩
  have hl := lv_entry ([.int x, .int y]) (n := 2) (Nat.le_of_ble_eq_true rfl)
  rw [lg_entry_eq]
  generalize (lg_sl ([.int x, .int y]) ++ List.replicate (2 - (lg_sl ([.int x, .int y])).length) Slot.unset).toArray = ls at hl ⊢
  have hl : lv_has ls 2 [(0, .int x), (1, .int y)] := hl
  have hS : va_S (AA 81 ad s.heap.size) s.heap s.heap [] := va_S.rf
  refine lv_iload_n hx hb dJ0_checkIndex_df160_0 rfl (lv_at hl 0 rfl) ?_
  refine lv_iload_n hx hb dJ0_checkIndex_df160_1 rfl (lv_at hl 1 rfl) ?_
  rcases hZ.2.2 with hq | ⟨t, hq⟩
  · refine va_gets hx hb hq hS hown (hts _ (List.mem_of_getElem? (i := 1) rfl)) (fun _ h => h) dJ0_checkIndex_df160_2 ?_
    refine r_ci (va_runS (As := [.int x, .int y, .null]) (rest := []) ⟨hx, hb, hml, hown, hts⟩ (c_checkIndex3n hi h0 h1 s0 (fun r u => r = x ∧ u = s0) ⟨rfl, rfl⟩ s.heap.size) (va_cwS 3 hts gJ0_checkIndex_df160_J3_checkIndex_8e157 rfl rfl rfl (by decide +kernel) ⟨Nat.le_of_ble_eq_true rfl, Nat.le_of_ble_eq_true rfl⟩) ⟨preS_blind, preS_of hP hK hZ hR hS⟩ rfl rfl hl.1 rfl (lv_room (Nat.le_of_ble_eq_true rfl)) dJ0_checkIndex_df160_5 ⟨Nat.zero_le _, Nat.zero_le _⟩) hS (fun r u H locs hv2 hP1 hS1 => ?_)
    obtain ⟨rfl, rfl⟩ := hv2
    refine lv_pop hx hb dJ0_checkIndex_df160_8 rfl ?_
    exact r_vret hx hb hr hlocks hv hP1 hS1 dJ0_checkIndex_df160_9
  · refine va_gets hx hb hq hS hown (hts _ (List.mem_of_getElem? (i := 1) rfl)) (fun _ h => h) dJ0_checkIndex_df160_2 ?_
    refine r_ci (va_runS (As := [.int x, .int y, .ref t]) (rest := []) ⟨hx, hb, hml, hown, hts⟩ (c_checkIndex3r hi h0 h1 s0 (fun r u => r = x ∧ u = s0) ⟨rfl, rfl⟩ s.heap.size) (va_cwS 3 hts gJ0_checkIndex_df160_J3_checkIndex_8e157 rfl rfl rfl (by decide +kernel) ⟨Nat.le_of_ble_eq_true rfl, Nat.le_of_ble_eq_true rfl⟩) ⟨preS_blind, preS_of hP hK hZ hR hS⟩ rfl rfl hl.1 rfl (lv_room (Nat.le_of_ble_eq_true rfl)) dJ0_checkIndex_df160_5 ⟨Nat.zero_le _, Nat.zero_le _⟩) hS (fun r u H locs hv2 hP2 hS2 => ?_)
    obtain ⟨rfl, rfl⟩ := hv2
    refine lv_pop hx hb dJ0_checkIndex_df160_8 rfl ?_
    exact r_vret hx hb hr hlocks hv hP2 hS2 dJ0_checkIndex_df160_9
theorem ch_1 : ∀ i : Fin 6, ∀ k : Fin 8, k.val < lenJ.getD i.val 0 → ((chJ i.val k.val &&& 255).toUInt32 % 65536).toInt32 = chJ i.val k.val ∧ narrow .char (.int (chJ i.val k.val)) = .int (chJ i.val k.val) := by decide +kernel
theorem ln_8 : ∀ i : Fin 6, lenJ.getD i.val 0 ≤ 8 := by decide +kernel
set_option maxHeartbeats 4000000 in
set_option maxRecDepth 100000 in
theorem c_charAt1 (hi : Inj 81 ad) {i k : Nat} (hi6 : i < 6) (hk : k < lenJ.getD i 0) (s0 : St) (Q : Int32 → St → Prop) (hv : Q (chJ i k) s0) (sz : Nat) : Met l yJ1_charAt_3b067 wsJ1_charAt_3b067 ({ frames := 2, cells := 0, slots := 0, locals := 43 } : Room) (va_Pc [.ref (adV i), .int (nI k)] (PS dC dI ad cA cZ adK adV sz s0)) (QI dC dI ad cA sz Q) 0 0 (AA 81 ad sz) := by
  refine Met.ofW (cc := cJ1_charAt_3b067) (maxL := 2) (ret := (some .char)) (by decide) rfl ?_
  intro p e s m args below meth c s₁ B hml hv0
  obtain ⟨rfl, ⟨hsz, hP, hK⟩, hZ, hR⟩ := hv0
  subst hsz
  obtain ⟨hx, hb, hml, hown, hts, hr, hlocks⟩ : Cx cJ1_charAt_3b067 RJ1 wsJ1_charAt_3b067 2 (some .char) p s m ([.ref (adV i), .int (nI k)] : List Value).toArray meth c := ⟨B.exec, B.bytes, hml, findClass_of_methodNamed B.named, atoms_spec (ws := wsJ1_charAt_3b067) B.pre, B.returns, B.notSynchronized⟩
  have hl := lv_entry ([.ref (adV i), .int (nI k)]) (n := 2) (Nat.le_of_ble_eq_true rfl)
  rw [lg_entry_eq]
  generalize (lg_sl ([.ref (adV i), .int (nI k)]) ++ List.replicate (2 - (lg_sl ([.ref (adV i), .int (nI k)])).length) Slot.unset).toArray = ls at hl ⊢
  have hl : lv_has ls 2 [(0, .ref (adV i)), (1, .int (nI k))] := hl
  have hS : va_S (AA 81 ad s.heap.size) s.heap s.heap [] := va_S.rf
  have h8 := ln_8 ⟨i, hi6⟩
  dsimp only at h8
  have hc := ch_1 ⟨i, hi6⟩ ⟨k, by omega⟩ hk
  dsimp only at hc
  refine lv_iload_n hx hb dJ1_charAt_3b067_0 rfl (lv_at hl 1 rfl) ?_
  refine lv_aload_n hx hb dJ1_charAt_3b067_1 rfl (lv_at hl 0 rfl) ?_
  refine va_tlen (v := nI (lenJ.getD i 0)) hx hb (hZ.1.1 i hi6).2.2.2 hS rfl dJ1_charAt_3b067_2 ?_
  refine r_cv (va_runS (As := [.int (nI k), .int (nI (lenJ.getD i 0))]) (rest := []) ⟨hx, hb, hml, hown, hts⟩ (c_checkIndex hi (x := nI k) (y := nI (lenJ.getD i 0)) (nI_pos (by omega)) (nI_lt hk (by omega)) s0 (fun u => u = s0) rfl s.heap.size) (va_cwS 2 hts gJ1_charAt_3b067_J0_checkIndex_df160 rfl rfl rfl (by decide +kernel) ⟨Nat.le_of_ble_eq_true rfl, Nat.le_of_ble_eq_true rfl⟩) ⟨preS_blind, preS_of hP hK hZ hR hS⟩ rfl rfl hl.1 rfl (lv_room (Nat.le_of_ble_eq_true rfl)) dJ1_charAt_3b067_3 ⟨Nat.zero_le _, Nat.zero_le _⟩) hS (fun u H locs hv2 hP1 hS1 => ?_)
  subst hv2
  refine lv_aload_n hx hb dJ1_charAt_3b067_6 rfl (lv_at hl 0 rfl) ?_
  refine lv_iload_n hx hb dJ1_charAt_3b067_7 rfl (lv_at hl 1 rfl) ?_
  refine va_tb (v := .int (chJ i k)) hx hb (hZ.1.1 i hi6).2.2.2 hS1 (vp_in_nI hk (by omega)) (by rw [nI_clamp (by omega)]; rfl) dJ1_charAt_3b067_8 ?_
  refine lv_sipush (v := 255) hx hb dJ1_charAt_3b067_9 (by decide) ?_
  refine lv_iand hx hb dJ1_charAt_3b067_12 ?_
  refine lv_i2c (v := chJ i k) hx hb dJ1_charAt_3b067_13 hc.1 ?_
  exact r_tret hx hb hr hlocks hc.2 hv hP1 hS1 dJ1_charAt_3b067_14
set_option maxHeartbeats 4000000 in
set_option maxRecDepth 100000 in
theorem c_charAt (hi : Inj 81 ad) {i k : Nat} (hi6 : i < 6) (hk : k < lenJ.getD i 0) (s0 : St) (Q : Int32 → St → Prop) (hv : Q (chJ i k) s0) (sz : Nat) : Met l yJ0_charAt_5068e wsJ0_charAt_5068e ({ frames := 3, cells := 0, slots := 0, locals := 64 } : Room) (va_Pc [.ref (adK i), .int (nI k)] (PS dC dI ad cA cZ adK adV sz s0)) (QI dC dI ad cA sz Q) 0 0 (AA 81 ad sz) := by
  refine Met.ofW (cc := cJ0_charAt_5068e) (maxL := 2) (ret := (some .char)) (by decide) rfl ?_
  intro p e s m args below meth c s₁ B hml hv0
  obtain ⟨rfl, ⟨hsz, hP, hK⟩, hZ, hR⟩ := hv0
  subst hsz
  obtain ⟨hx, hb, hml, hown, hts, hr, hlocks⟩ : Cx cJ0_charAt_5068e RJ0 wsJ0_charAt_5068e 2 (some .char) p s m ([.ref (adK i), .int (nI k)] : List Value).toArray meth c := ⟨B.exec, B.bytes, hml, findClass_of_methodNamed B.named, atoms_spec (ws := wsJ0_charAt_5068e) B.pre, B.returns, B.notSynchronized⟩
  have hl := lv_entry ([.ref (adK i), .int (nI k)]) (n := 2) (Nat.le_of_ble_eq_true rfl)
  rw [lg_entry_eq]
  generalize (lg_sl ([.ref (adK i), .int (nI k)]) ++ List.replicate (2 - (lg_sl ([.ref (adK i), .int (nI k)])).length) Slot.unset).toArray = ls at hl ⊢
  have hl : lv_has ls 2 [(0, .ref (adK i)), (1, .int (nI k))] := hl
  have hS : va_S (AA 81 ad s.heap.size) s.heap s.heap [] := va_S.rf
  have h8 := ln_8 ⟨i, hi6⟩
  dsimp only at h8
  have hc := ch_1 ⟨i, hi6⟩ ⟨k, by omega⟩ hk
  dsimp only at hc
  refine lv_aload_n hx hb dJ0_charAt_5068e_0 rfl (lv_at hl 0 rfl) ?_
  refine r_ci (va_runV (As := []) (rest := []) ⟨hx, hb, hml, hown, hts⟩ (c_isLatin1 hi hi6 s0 (fun r u => r = 1 ∧ u = s0) ⟨rfl, rfl⟩ s.heap.size) (cwV 0 hts gJ0_charAt_5068e_J0_isLatin1_aae02 rfl rfl rfl (by decide +kernel) ⟨Nat.le_of_ble_eq_true rfl, Nat.le_of_ble_eq_true rfl⟩) ⟨preS_blind, vk_recv hZ.1 hi6 hS, preS_of hP hK hZ hR hS⟩ rfl rfl hl.1 rfl (lv_room (Nat.le_of_ble_eq_true rfl)) dJ0_charAt_5068e_1 ⟨Nat.zero_le _, Nat.zero_le _⟩) hS (fun r u H locs hv2 hP1 hS1 => ?_)
  obtain ⟨rfl, rfl⟩ := hv2
  refine lv_if_eq (tgt := 16) hx hb dJ0_charAt_5068e_4 (by decide) (fun c => absurd c (by decide)) (fun _ => ?_)
  refine lv_aload_n hx hb dJ0_charAt_5068e_7 rfl (lv_at hl 0 rfl) ?_
  refine vk_getf hx hb (hZ.1.1 i hi6).2.2.1 hS1 hown (hts _ (List.mem_of_getElem? (i := 1) rfl)) (fun _ h => h) dJ0_charAt_5068e_8 ?_
  refine lv_iload_n hx hb dJ0_charAt_5068e_11 rfl (lv_at hl 1 rfl) ?_
  refine r_ci (va_runS (As := [.ref (adV i), .int (nI k)]) (rest := []) ⟨hx, hb, hml, hown, hts⟩ (c_charAt1 hi hi6 hk u (fun r u2 => r = chJ i k ∧ u2 = u) ⟨rfl, rfl⟩ H.size) (va_cwS 2 hts gJ0_charAt_5068e_J1_charAt_3b067 rfl rfl rfl (by decide +kernel) ⟨Nat.le_of_ble_eq_true rfl, Nat.le_of_ble_eq_true rfl⟩) ⟨preS_blind, preS_of hP1 hK hZ hR hS1⟩ rfl rfl hl.1 rfl (lv_room (Nat.le_of_ble_eq_true rfl)) dJ0_charAt_5068e_12 ⟨Nat.zero_le _, Nat.zero_le _⟩) hS1 (fun r u H locs hv2 hP2 hS2 => ?_)
  obtain ⟨rfl, rfl⟩ := hv2
  exact r_tret hx hb hr hlocks hc.2 hv hP2 hS2 dJ0_charAt_5068e_15
theorem ln_sh : ∀ i : Fin 6, nI (lenJ.getD i.val 0) >>> ((0 : Int32) &&& 31) = nI (lenJ.getD i.val 0) := by decide +kernel
set_option maxHeartbeats 4000000 in
set_option maxRecDepth 100000 in
theorem c_length (hi : Inj 81 ad) {i : Nat} (hi6 : i < 6) (s0 : St) (Q : Int32 → St → Prop) (hv : Q (nI (lenJ.getD i 0)) s0) (sz : Nat) : Met l yJ0_length_8abf5 wsJ0_length_8abf5 ({ frames := 1, cells := 0, slots := 0, locals := 20 } : Room) (va_Pc [.ref (adK i)] (PS dC dI ad cA cZ adK adV sz s0)) (QI dC dI ad cA sz Q) 0 0 (AA 81 ad sz) := by
  refine Met.ofW (cc := cJ0_length_8abf5) (maxL := 1) (ret := (some .int)) (by decide) rfl ?_
  intro p e s m args below meth c s₁ B hml hv0
  obtain ⟨rfl, ⟨hsz, hP, hK⟩, hZ, hR⟩ := hv0
  subst hsz
  obtain ⟨hx, hb, hml, hown, hts, hr, hlocks⟩ : Cx cJ0_length_8abf5 RJ0 wsJ0_length_8abf5 1 (some .int) p s m ([.ref (adK i)] : List Value).toArray meth c := ⟨B.exec, B.bytes, hml, findClass_of_methodNamed B.named, atoms_spec (ws := wsJ0_length_8abf5) B.pre, B.returns, B.notSynchronized⟩
  have hl := lv_entry ([.ref (adK i)]) (n := 1) (Nat.le_of_ble_eq_true rfl)
  rw [lg_entry_eq]
  generalize (lg_sl ([.ref (adK i)]) ++ List.replicate (1 - (lg_sl ([.ref (adK i)])).length) Slot.unset).toArray = ls at hl ⊢
  have hl : lv_has ls 1 [(0, .ref (adK i))] := hl
  have hS : va_S (AA 81 ad s.heap.size) s.heap s.heap [] := va_S.rf
  have hc := ln_sh ⟨i, hi6⟩
  dsimp only at hc
  refine lv_aload_n hx hb dJ0_length_8abf5_0 rfl (lv_at hl 0 rfl) ?_
  refine vk_getf hx hb (hZ.1.1 i hi6).2.2.1 hS hown (hts _ (List.mem_of_getElem? (i := 1) rfl)) (fun _ h => h) dJ0_length_8abf5_1 ?_
  refine va_tlen (v := nI (lenJ.getD i 0)) hx hb (hZ.1.1 i hi6).2.2.2 hS rfl dJ0_length_8abf5_4 ?_
  refine lv_aload_n hx hb dJ0_length_8abf5_5 rfl (lv_at hl 0 rfl) ?_
  refine r_ci (va_runV (As := []) (rest := [.int (nI (lenJ.getD i 0))]) ⟨hx, hb, hml, hown, hts⟩ (c_coder hi hi6 s0 (fun r u => r = 0 ∧ u = s0) ⟨rfl, rfl⟩ s.heap.size) (cwV 0 hts gJ0_length_8abf5_J0_coder_7d493 rfl rfl rfl (by decide +kernel) ⟨Nat.le_of_ble_eq_true rfl, Nat.le_of_ble_eq_true rfl⟩) ⟨preS_blind, vk_recv hZ.1 hi6 hS, preS_of hP hK hZ hR hS⟩ rfl rfl hl.1 rfl (lv_room (Nat.le_of_ble_eq_true rfl)) dJ0_length_8abf5_6 ⟨Nat.zero_le _, Nat.zero_le _⟩) hS (fun r u H locs hv2 hP1 hS1 => ?_)
  obtain ⟨rfl, rfl⟩ := hv2
  refine lv_ishr hx hb dJ0_length_8abf5_9 ?_
  rw [hc]
  exact r_iret hx hb hr hlocks hv hP1 hS1 dJ0_length_8abf5_10
end SJ
