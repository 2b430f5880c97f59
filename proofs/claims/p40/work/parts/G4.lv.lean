/-! what the law knows of a state: the street, the image, its own rows -/
def LV (s : St) (A I : Nat → Nat) (k : Nat) (ρ : Nat → Nat → Int32) : Prop := ∃ S B, CR s S B ∧ WF S ∧ S 0 = A ∧ (k = 1 → S 3 0 = 1 ∧ S 1 = I) ∧ ∀ j, 81 ≤ j → s j = ρ j
theorem LV.wf {s : St} {A I : Nat → Nat} {k : Nat} {ρ : Nat → Nat → Int32} (H : LV s A I k ρ) : WFA A := by
  obtain ⟨S, B, HC, HW, rfl, -⟩ := H
  exact HW.1
theorem LV.ro {s : St} {A I : Nat → Nat} {k : Nat} {ρ : Nat → Nat → Int32} (H : LV s A I k ρ) {j : Nat} (hj : 81 ≤ j) : s j = ρ j := by
  obtain ⟨S, B, HC, HW, -, -, h⟩ := H
  exact h j hj
theorem LV.row {s : St} {A I : Nat → Nat} {k : Nat} {ρ : Nat → Nat → Int32} (H : LV s A I k ρ) {j : Nat} (hj : 81 ≤ j) (f : Nat → Int32) : LV (us s j f) A I k (us ρ j f) := by
  obtain ⟨S, B, HC, HW, e, hI, h⟩ := H
  refine ⟨S, B, HC.congr (fun q hq => us_ne (by omega)), HW, e, hI, fun i hi => ?_⟩
  unfold us
  split
  · rfl
  · exact h i hi
section LVS
variable {s : St} {A I : Nat → Nat} {k : Nat} {ρ : Nat → Nat → Int32} {F : Int32 → St → Prop}
theorem lv_ob {S : SS} {B : CB} {u : St} (HC : CR s S B) (HW : WF S) (hI : k = 1 → S 3 0 = 1 ∧ S 1 = I) (h : ∀ j, 81 ≤ j → s j = ρ j) (f : ∀ q, q < 55 ∨ q = 70 ∨ q = 71 → u q = s q) : LV (mg u s) (S 0) I k ρ :=
  ⟨S, B, HC.congr (fun q hq => by rw [mg_lo (by omega)]; exact f q hq), HW, rfl, hI, fun j hj => by rw [mg_hi (by omega)]; exact h j hj⟩
theorem lv_ch {S : SS} {B : CB} {u : St} (HC : CR u S B) (HW : WF S) (hI : k = 1 → S 3 0 = 1 ∧ S 1 = I) (h : ∀ j, 81 ≤ j → s j = ρ j) : LV (mg u s) (S 0) I k ρ :=
  ⟨S, B, HC.congr (fun q hq => mg_lo (by omega)), HW, rfl, hI, fun j hj => by rw [mg_hi (by omega)]; exact h j hj⟩
theorem lv_sA {S : SS} {B : CB} {u : St} {A' : Nat → Nat} (HC : CR u (sA S A') B) (HW : WF (sA S A')) (hI : k = 1 → S 3 0 = 1 ∧ S 1 = I) (h : ∀ j, 81 ≤ j → s j = ρ j) : LV (mg u s) A' I k ρ := by
  have := lv_ch (k := k) (I := I) HC HW (fun e => by rw [sA_n (by omega), sA_n (by omega)]; exact hI e) h
  rw [sA_0] at this
  exact this
theorem l_street (H : LV s A I k ρ) (h : ∀ s', LV s' (zA A) I k ρ → F (nI (A 0)) s') : V_X10_street s (LF s F) := by
  obtain ⟨S, B, HC, HW, rfl, hI, hρ⟩ := H
  exact k_street HC HW (fun u hC hW => h _ (lv_sA hC hW hI hρ))
theorem l_wet (H : LV s A I k ρ) {v w : Nat} (hv : v ≤ 5) (hw : w ≤ 4) (h : ∀ s', LV s' (upN (upN A (16 + v) w) 5 0) I k ρ → F (nI (A (16 + v))) s') : V_X10_wet (nI v) (nI w) s (LF s F) := by
  obtain ⟨S, B, HC, HW, rfl, hI, hρ⟩ := H
  exact k_wet HC HW hv hw (fun u hC hW => h _ (lv_sA hC hW hI hρ))
theorem l_glove (H : LV s A I k ρ) {c m t : Nat} (hk : c ≤ 5) (hm1 : 1 ≤ m) (hm : m ≤ 9) (hs : t ≤ 23) (h6 : A 0 < 7) (h : ∀ s', LV s' (upN (ag A c m t) 5 0) I k ρ → F (nI (A 0)) s') : V_X10_glove (nI c) (nI m) (nI t) s (LF s F) := by
  obtain ⟨S, B, HC, HW, rfl, hI, hρ⟩ := H
  exact k_glove HC HW hk hm1 hm hs h6 (fun u hC hW => h _ (lv_sA hC hW hI hρ))
theorem l_crossing (H : LV s A I k ρ) {c t : Nat} (hk : c ≤ 5) (hs : t ≤ 22) (kb : bh A t = 0) (h3 : A 1 < 3) (h : ∀ s', LV s' (upN (ac A c t) 5 0) I k ρ → F (nI (A 1)) s') : V_X10_crossing (nI c) (nI t) s (LF s F) := by
  obtain ⟨S, B, HC, HW, rfl, hI, hρ⟩ := H
  exact k_crossing HC HW hk hs kb h3 (fun u hC hW => h _ (lv_sA hC hW hI hρ))
theorem l_of2 (H : LV s A I k ρ) {g : Nat} (hg : g < A 0) (h : ∀ s', LV s' A I k ρ → F (nI (A (6 + g))) s') : V_X10_of (nI g) 2 s (LF s F) := by
  obtain ⟨S, B, HC, HW, rfl, hI, hρ⟩ := H
  exact k_of2 HC HW hg (h _ (lv_ob HC HW hI hρ (fun _ _ => rfl)))
theorem l_of3 (H : LV s A I k ρ) {g : Nat} (hg : g < A 0) (h : ∀ s', LV s' A I k ρ → F (nI (if bh A (A (6 + g)) = 0 then 0 else 1)) s') : V_X10_of (nI g) 3 s (LF s F) := by
  obtain ⟨S, B, HC, HW, rfl, hI, hρ⟩ := H
  exact k_of3 HC HW hg (h _ (lv_ob HC HW hI hρ (fun _ _ => rfl)))
theorem l_of4 (H : LV s A I k ρ) {g : Nat} (hg : g < A 0) (h : ∀ s', LV s' A I k ρ → F (nI (gon A g)) s') : V_X10_of (nI g) 4 s (LF s F) := by
  obtain ⟨S, B, HC, HW, rfl, hI, hρ⟩ := H
  exact k_of4 HC HW hg (h _ (lv_ob HC HW hI hρ (fun _ _ => rfl)))
theorem l_ab1 (H : LV s A I k ρ) {c : Nat} (hcc : c < A 1) (h : ∀ s', LV s' A I k ρ → F (nI (A (40 + c))) s') : V_X10_about (nI c) 1 s (LF s F) := by
  obtain ⟨S, B, HC, HW, rfl, hI, hρ⟩ := H
  exact k_ab1 HC HW hcc (h _ (lv_ob HC HW hI hρ (fun _ _ => rfl)))
theorem l_ab2 (H : LV s A I k ρ) {c : Nat} (hcc : c < A 1) (h : ∀ s', LV s' A I k ρ → F (nI (A 14 / 2 ^ c % 2)) s') : V_X10_about (nI c) 2 s (LF s F) := by
  obtain ⟨S, B, HC, HW, rfl, hI, hρ⟩ := H
  exact k_ab2 HC HW hcc (h _ (lv_ob HC HW hI hρ (fun _ _ => rfl)))
theorem l_ab3 (H : LV s A I k ρ) {c : Nat} (hcc : c < A 1) (h : ∀ s', LV s' A I k ρ → F (nI (hc A c)) s') : V_X10_about (nI c) 3 s (LF s F) := by
  obtain ⟨S, B, HC, HW, rfl, hI, hρ⟩ := H
  exact k_ab3 HC HW hcc (h _ (lv_ob HC HW hI hρ (fun _ _ => rfl)))
theorem l_ab4 (H : LV s A I k ρ) {c : Nat} (hcc : c < A 1) (h : ∀ s', LV s' A I k ρ → F (nI (if hc A c = 0 then 0 else lA (A (37 + c)) (A 15) (hc A c))) s') : V_X10_about (nI c) 4 s (LF s F) := by
  obtain ⟨S, B, HC, HW, rfl, hI, hρ⟩ := H
  exact k_ab4 HC HW hcc (h _ (lv_ob HC HW hI hρ (fun _ _ => rfl)))
theorem l_count {w v : Nat} (H : LV s A I k ρ) (hw : (w = 0 ∧ v = A 0) ∨ (w = 2 ∧ v = A 15) ∨ (w = 3 ∧ v = cnt A 23 (A 0)) ∨ (w = 4 ∧ v = wg A (A 0)) ∨ (w = 5 ∧ v = pb 3 (A 14))) (h : ∀ s', LV s' A I k ρ → F (nI v) s') : V_X10_count (nI w) s (LF s F) := by
  obtain ⟨S, B, HC, HW, rfl, hI, hρ⟩ := H
  refine k_count HC HW (by omega) ?_
  have e : cN S w = v := by
    rcases hw with ⟨rfl, rfl⟩ | ⟨rfl, rfl⟩ | ⟨rfl, rfl⟩ | ⟨rfl, rfl⟩ | ⟨rfl, rfl⟩ <;> rfl
  rw [e]
  exact h _ (lv_ob HC HW hI hρ (fun _ _ => rfl))
theorem l_where (H : LV s A I k ρ) {g m : Nat} (hg : g < A 0) (hm : m ≤ 60) (h : ∀ s', LV s' A I k ρ → F (nI (it m A (6 + g))) s') : V_X10_where (nI g) (nI m) s (LF s F) := by
  obtain ⟨S, B, HC, HW, rfl, hI, hρ⟩ := H
  exact k_where HC HW hg hm (fun u f => h _ (lv_ob HC HW hI hρ f))
theorem l_when (H : LV s A I k ρ) {g : Nat} (hg : g < A 0) (h : ∀ s', LV s' A I k ρ → F (wn (fun x => decide (it x A (6 + g) = 23)) 61 0) s') : V_X10_when (nI g) s (LF s F) := by
  obtain ⟨S, B, HC, HW, rfl, hI, hρ⟩ := H
  exact k_when HC HW hg (fun u f => h _ (lv_ob HC HW hI hρ f))
theorem l_whenAll (H : LV s A I k ρ) (h : ∀ s', LV s' A I k ρ → F (wn (fun x => decide (cnt (it x A) 23 (A 0) = A 0)) 61 0) s') : V_X10_when (-1) s (LF s F) := by
  obtain ⟨S, B, HC, HW, rfl, hI, hρ⟩ := H
  exact k_whenAll HC HW (fun u f => h _ (lv_ob HC HW hI hρ f))
theorem l_hours (H : LV s A I k ρ) {m : Nat} (hm1 : 1 ≤ m) (hm : m ≤ 60) (h : ∀ s', LV s' (hsA A m) I k ρ → F (nI (cnt (hsA A m) 23 (A 0))) s') : V_X10_hours (nI m) s (LF s F) := by
  obtain ⟨S, B, HC, HW, rfl, hI, hρ⟩ := H
  exact k_hours HC HW hm1 hm (fun u hC hW => h _ (lv_sA hC hW hI hρ))
theorem l_shuts (H : LV s A I k ρ) {c : Nat} (hc : c < A 1) (h : ∀ s', LV s' (tn A c) I k ρ → F (nI (tn A c 14 / 2 ^ c % 2)) s') : V_X10_shuts (nI c) s (LF s F) := by
  obtain ⟨S, B, HC, HW, rfl, hI, hρ⟩ := H
  exact k_shuts HC HW hc (fun u hC hW => h _ (lv_sA hC hW hI hρ))
theorem l_shutsBad (H : LV s A I k ρ) {c : Nat} (hc : A 1 ≤ c) (hc9 : c < 1000) (h : ∀ s', LV s' A I k ρ → F (-2) s') : V_X10_shuts (nI c) s (LF s F) := by
  obtain ⟨S, B, HC, HW, rfl, hI, hρ⟩ := H
  exact k_shutsBad HC HW hc hc9 (fun u hC => h _ (lv_ch hC HW hI hρ))
theorem l_undo (H : LV s A I k ρ) (h5 : 0 < A 5) (h : ∀ s', LV s' (ub A) I k ρ → F (nI (ub A 15)) s') : V_X10_undo s (LF s F) := by
  obtain ⟨S, B, HC, HW, rfl, hI, hρ⟩ := H
  exact k_undo HC HW h5 (fun u hC hW => h _ (lv_sA hC hW hI hρ))
theorem l_image (H : LV s A I k ρ) (h : ∀ s', LV s' A A 1 ρ → F 1 s') : V_X10_image 0 s (LF s F) := by
  obtain ⟨S, B, HC, HW, rfl, hI, hρ⟩ := H
  refine k_image HC HW (fun u hC hW => h _ ?_)
  exact lv_ch (k := 1) (I := S 0) (S := im S 0) hC hW (fun _ => ⟨by rw [im_3 (by omega)]; exact upN_s, rfl⟩) hρ
theorem l_from (H : LV s A I 1 ρ) (h : ∀ s', LV s' I I 1 ρ → F 1 s') : V_X10_from 0 s (LF s F) := by
  obtain ⟨S, B, HC, HW, rfl, hI, hρ⟩ := H
  obtain ⟨h1, rfl⟩ := hI rfl
  exact k_from HC HW h1 (fun u hC hW => h _ (lv_sA hC hW hI hρ))
theorem l_pairsAll (H : LV s A I k ρ) (h : ∀ s', LV s' A I k ρ → F (nI (tt A (2 ^ A 0 - 1))) s') : V_X10_pairs (-1) s (LF s F) := by
  obtain ⟨S, B, HC, HW, rfl, hI, hρ⟩ := H
  exact k_pairsAll HC HW (fun u f => h _ (lv_ob HC HW hI hρ f))
theorem l_pairs (H : LV s A I k ρ) {w : Nat} (hw : w < A 0) (h : ∀ s', LV s' A I k ρ → F (pt A w (A 0) 0 (2 ^ A 0 - 1)) s') : V_X10_pairs (nI w) s (LF s F) := by
  obtain ⟨S, B, HC, HW, rfl, hI, hρ⟩ := H
  exact k_pairs HC HW hw (fun u f => h _ (lv_ob HC HW hI hρ f))
theorem l_heap (H : LV s A I k ρ) (h : ∀ p s', hpr A 31 p → LV s' A I k ρ → F (nI p.1) s') : V_X10_heap 0 s (LF s F) := by
  obtain ⟨S, B, HC, HW, rfl, hI, hρ⟩ := H
  exact k_heap HC HW (fun p u hp f => h p _ hp (lv_ob HC HW hI hρ f))
theorem l_heap1 (H : LV s A I k ρ) (h : ∀ p s', hpr A 31 p → LV s' A I k ρ → F (nI p.2.1) s') : V_X10_heap 1 s (LF s F) := by
  obtain ⟨S, B, HC, HW, rfl, hI, hρ⟩ := H
  exact k_heap1 HC HW (fun p u hp f => h p _ hp (lv_ob HC HW hI hρ f))
theorem l_heap2 (H : LV s A I k ρ) (h : ∀ p s', hpr A 31 p → LV s' A I k ρ → F p.2.2 s') : V_X10_heap 2 s (LF s F) := by
  obtain ⟨S, B, HC, HW, rfl, hI, hρ⟩ := H
  exact k_heap2 HC HW (fun p u hp f => h p _ hp (lv_ob HC HW hI hρ f))
theorem l_hold (H : LV s A I k ρ) {m : Nat} (hm1 : 1 ≤ m) (hm : m ≤ 60) (h : ∀ s', LV s' A I k ρ → F (ov (hb (hp A m) (2 ^ A 1) 0 9)) s') : V_X10_hold (nI m) s (LF s F) := by
  obtain ⟨S, B, HC, HW, rfl, hI, hρ⟩ := H
  exact k_hold HC HW hm1 hm (fun u f => h _ (lv_ob HC HW hI hρ f))
theorem l_drop (H : LV s A I k ρ) {c g m : Nat} (hc : c ≤ 5) (hg : g < A 0) (hm1 : 1 ≤ m) (hm : m ≤ 30) (h : ∀ s', LV s' A I k ρ → F (mt A c g m 23) s') : V_X10_drop (nI c) (nI g) (nI m) s (LF s F) := by
  obtain ⟨S, B, HC, HW, rfl, hI, hρ⟩ := H
  exact k_drop HC HW hc hg hm1 hm (fun u f => h _ (lv_ob HC HW hI hρ f))
theorem l_seen (H : LV s A I k ρ) {m t : Nat} (hm : m ≤ 60) (ht : t ≤ 23) (hlt : A 2 < 5) (h : ∀ s', LV s' (sn A m t) I k ρ → F (nI (A 2 + 1)) s') : V_X10_seen (nI m) (nI t) s (LF s F) := by
  obtain ⟨S, B, HC, HW, rfl, hI, hρ⟩ := H
  exact k_seen HC HW hm ht hlt (fun u hC hW => h _ (lv_sA hC hW hI hρ))
theorem l_which (H : LV s A I k ρ) (h : ∀ M s', Mok A M → LV s' A I k ρ → F (nI M) s') : V_X10_which s (LF s F) := by
  obtain ⟨S, B, HC, HW, rfl, hI, hρ⟩ := H
  exact k_which HC HW (fun M u hM f => h M _ hM (lv_ob HC HW hI hρ f))
theorem l_tell (H : LV s A I k ρ) (h : ∀ M s', Mok A M → LV s' A I k ρ → F (tf A M 21 0 24 (-1)) s') : V_X10_tell s (LF s F) := by
  obtain ⟨S, B, HC, HW, rfl, hI, hρ⟩ := H
  exact k_tell HC HW (fun M u hM f => h M _ hM (lv_ob HC HW hI hρ f))
theorem l_forget (H : LV s A I k ρ) {w : Nat} (hw : w ≤ 2) (h : ∀ s', LV s' (upN A (2 + w) 0) I k ρ → F (nI (A (2 + w))) s') : V_X10_forget (nI w) s (LF s F) := by
  obtain ⟨S, B, HC, HW, rfl, hI, hρ⟩ := H
  exact k_forget HC HW hw (fun u hC hW => h _ (lv_sA hC hW hI hρ))
theorem l_note (H : LV s A I k ρ) {x1 x2 x3 x4 : Nat} (h1 : x1 < A 0) (h2 : x2 ≤ 99) (h3 : x3 ≤ 4) (h4 : x4 ≤ 20) (hlt : A 3 < 6) (h : ∀ s', LV s' (f4 A 3 53 x1 x2 x3 x4) I k ρ → F (nI (A 3 + 1)) s') : V_X10_note (nI x1) (nI x2) (nI x3) (nI x4) s (LF s F) := by
  obtain ⟨S, B, HC, HW, rfl, hI, hρ⟩ := H
  exact k_note HC HW h1 h2 h3 h4 hlt (fun u hC hW => h _ (lv_sA hC hW hI hρ))
theorem l_mark (H : LV s A I k ρ) {x1 x2 x3 x4 : Nat} (h1 : x1 < A 1) (h2 : x2 ≤ 99) (h31 : 1 ≤ x3) (h3 : x3 ≤ 7) (h4 : x4 ≤ 20) (hlt : A 4 < 6) (h : ∀ s', LV s' (f4 A 4 77 x1 x2 x3 x4) I k ρ → F (nI (A 4 + 1)) s') : V_X10_mark (nI x1) (nI x2) (nI x3) (nI x4) s (LF s F) := by
  obtain ⟨S, B, HC, HW, rfl, hI, hρ⟩ := H
  exact k_mark HC HW h1 h2 h31 h3 h4 hlt (fun u hC hW => h _ (lv_sA hC hW hI hρ))
theorem l_is (H : LV s A I k ρ) {g : Nat} (hg : g < A 0) (h : ∀ s', LV s' A I k ρ → F (km A 53 1 g (A 3) 6) s') : V_X10_is (nI g) s (LF s F) := by
  obtain ⟨S, B, HC, HW, rfl, hI, hρ⟩ := H
  exact k_is HC HW hg (h _ (lv_ob HC HW hI hρ (fun _ _ => rfl)))
theorem l_kinds (H : LV s A I k ρ) {g : Nat} (hg : g < A 1) (h : ∀ s', LV s' A I k ρ → F (km A 77 0 g (A 4) 6) s') : V_X10_kinds (nI g) s (LF s F) := by
  obtain ⟨S, B, HC, HW, rfl, hI, hρ⟩ := H
  exact k_kinds HC HW hg (h _ (lv_ob HC HW hI hρ (fun _ _ => rfl)))
theorem l_look (H : LV s A I k ρ) {g M : Nat} (hg : g < A 0) (hM : M < 64) (eM : km A 53 1 g (A 3) 6 = nI M) (h : ∀ s', LV s' A I k ρ → F (rh M 1 0 5 10 0 (24, -1)).2 s') : V_X10_look (nI g) s (LF s F) := by
  obtain ⟨S, B, HC, HW, rfl, hI, hρ⟩ := H
  exact k_look HC HW hg hM eM (fun u f => h _ (lv_ob HC HW hI hρ f))
theorem l_ask (H : LV s A I k ρ) {g M : Nat} (hg : g < A 1) (hM : M < 64) (eM : km A 77 0 g (A 4) 6 = nI M) (h : ∀ s', LV s' A I k ρ → F (rh M 0 1 7 24 0 (24, -1)).2 s') : V_X10_ask (nI g) s (LF s F) := by
  obtain ⟨S, B, HC, HW, rfl, hI, hρ⟩ := H
  exact k_ask HC HW hg hM eM (fun u f => h _ (lv_ob HC HW hI hρ f))
theorem l_lady (H : LV s A I k ρ) {g : Nat} {a2 : Int32} (hg : g < A 0) (k2 : (-1 : Int32) ≤ a2) (h : ∀ s', LV s' A I k ρ → F (ld (vs A g 31) a2 100 0 0) s') : V_X10_lady (nI g) a2 s (LF s F) := by
  obtain ⟨S, B, HC, HW, rfl, hI, hρ⟩ := H
  exact k_lady HC HW hg k2 (fun u f => h _ (lv_ob HC HW hI hρ f))
theorem l_winters (H : LV s A I k ρ) {n m : Nat} (hn : n ≤ 999999) (hm : m ≤ 60) (h : ∀ s', LV s' A I k ρ → F (nI (cnt (wst m n A) 23 (A 0))) s') : V_X10_winters (nI n) (nI m) s (LF s F) := by
  obtain ⟨S, B, HC, HW, rfl, hI, hρ⟩ := H
  exact k_winters HC HW hn hm (fun u f => h _ (lv_ob HC HW hI hρ f))
/-- the same, with the fraction -/
def LW (s : St) (A I : Nat → Nat) (ρ : Nat → Nat → Int32) (a b : Nat) : Prop := ∃ S B, CR s S B ∧ WF S ∧ S 0 = A ∧ (S 3 0 = 1 ∧ S 1 = I) ∧ (∀ j, 81 ≤ j → s j = ρ j) ∧ S 4 0 = a ∧ S 4 1 = b
theorem LW.lv {a b : Nat} (H : LW s A I ρ a b) : LV s A I 1 ρ := by
  obtain ⟨S, B, HC, HW, e, hI, h, -⟩ := H
  exact ⟨S, B, HC, HW, e, fun _ => hI, h⟩
theorem l_rain (H : LV s A I 1 ρ) {a : Nat} (ha : a ≤ 10) (h : ∀ N, N = a * gi A 4 (A 0) + (10 - a) * gi A 0 (A 0) → N ≤ 560 → ∀ s', LW s' A I ρ (N / Nat.gcd 10 N) (10 / Nat.gcd 10 N) → F 1 s') : V_X10_rain (nI a) s (LF s F) := by
  obtain ⟨S, B, HC, HW, rfl, hI, hρ⟩ := H
  refine k_rain HC HW ha (fun N e hN u hC hW => h N e hN _ ⟨_, B, hC.congr (fun q hq => mg_lo (by omega)), hW, fr4_o (by omega), by rw [fr4_o (i := 3) (by omega), fr4_o (i := 1) (by omega)]; exact hI rfl, fun j hj => by rw [mg_hi (by omega)]; exact hρ j hj, rfl, rfl⟩)
theorem l_part0 {a b : Nat} {F : Int64 → St → Prop} (H : LW s A I ρ a b) (h : ∀ s', LW s' A I ρ a b → F (nI a).toInt64 s') : V_X10_part 0 s (LF s F) := by
  obtain ⟨S, B, HC, HW, rfl, hI, hρ, rfl, rfl⟩ := H
  exact k_part (w := 0) HC HW (by omega) (h _ ⟨S, B, HC.congr (fun q hq => mg_lo (by omega)), HW, rfl, hI, fun j hj => by rw [mg_hi (by omega)]; exact hρ j hj, rfl, rfl⟩)
theorem l_part1 {a b : Nat} {F : Int64 → St → Prop} (H : LW s A I ρ a b) (h : ∀ s', LW s' A I ρ a b → F (nI b).toInt64 s') : V_X10_part 1 s (LF s F) := by
  obtain ⟨S, B, HC, HW, rfl, hI, hρ, rfl, rfl⟩ := H
  exact k_part (w := 1) HC HW (by omega) (h _ ⟨S, B, HC.congr (fun q hq => mg_lo (by omega)), HW, rfl, hI, fun j hj => by rw [mg_hi (by omega)]; exact hρ j hj, rfl, rfl⟩)
end LVS
