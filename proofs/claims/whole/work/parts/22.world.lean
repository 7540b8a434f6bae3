
def zTw (tx : Nat → Int) (L : Nat) (h : zH) : Prop := h 138 0 = (L : Int) ∧ L ≤ 60 ∧ ∀ j, j < L → h 140 j = tx j ∧ 0 ≤ tx j ∧ tx j < 200
theorem zTx_w {tx : Nat → Int} {L i : Nat} {h : zH} (H : zTx tx L i h) : zTw tx L h := ⟨H.1, H.2.1, H.2.2.2.2⟩
noncomputable def zif {α : Type} (P : Prop) (a b : α) : α := @ite α P (Classical.propDecidable P) a b
theorem zif_y {α : Type} {P : Prop} {a b : α} (h : P) : zif P a b = a := if_pos h
theorem zif_n {α : Type} {P : Prop} {a b : α} (h : ¬ P) : zif P a b = b := if_neg h
/-- a state: p, coefficients, remembered states, text, its length -/
abbrev zS : Type := Int × (Nat → Nat → Int) × List (Int × (Nat → Nat → Int)) × (Nat → Int) × Nat
def zch (s : zS) (p : Int) (c : Nat → Nat → Int) : zS := (p, c, ((s.1, s.2.1) :: s.2.2.1).take 8, s.2.2.2)
noncomputable def zRowO (p : Int) (c : Nat → Nat → Int) : Nat := min (zct (zTfl p (zRw p c (zpP p c))) (zsd c)) (zct (zTfl p (zCl p c (zpP p c))) (zsd c))
/-- the eliminant -/
noncomputable def zWp (p : Int) (c : Nat → Nat → Int) (e : Nat) : Int := zwh p (zEn p c) (zms (zTfl p (zRw p c (zpP p c))) (zsd c)) (zms (zTfl p (zCl p c (zpP p c))) (zsd c)) (zRowO p c) e
def zEl (p : Int) (c : Nat → Nat → Int) (h : zH) : Prop := ∀ e, e < 49 → h 183 e = zWp p c e
theorem zRowO_lt {p : Int} {c : Nat → Nat → Int} : zRowO p c ≤ 8 := by
  have h1 := zct_le (P := zTfl p (zRw p c (zpP p c))) (zsd c)
  have h2 := zsd_le c
  unfold zRowO
  omega
theorem zWp_in {p : Int} (hp : 1 < p) {c : Nat → Nat → Int} (e : Nat) : 0 ≤ zWp p c e ∧ zWp p c e < p := by
  unfold zWp zwh
  split
  · exact zmn_in hp _ _ _
  · omega
def zMx (p : Int) (c : Nat → Nat → Int) (h : zH) : Prop := h 7 3 = 0 ∨ (h 7 3 = 1 ∧ zDx p c h)
def zSx (p : Int) (c : Nat → Nat → Int) (h : zH) : Prop := h 78 14 = 0 ∨ (h 78 14 = 1 ∧ zSv p c h)
def zEx (p : Int) (c : Nat → Nat → Int) (h : zH) : Prop := h 182 10 = 0 ∨ (h 182 10 = 1 ∧ zEl p c h)
def zRx (p : Int) (c : Nat → Nat → Int) (h : zH) : Prop := h 182 11 = 0 ∨ (h 182 11 = 1 ∧ zRd p c (zWp p c) h)
theorem zMx_fr {p : Int} {c : Nat → Nat → Int} {h h' : zH} (H : zMx p c h) (e : ∀ a j, (a = 7 ∧ j < 4) ∨ (9 ≤ a ∧ a < 73) → h' a j = h a j) : zMx p c h' := by
  unfold zMx at H ⊢
  rw [e 7 3 (by omega)]
  exact H.imp id (fun q => ⟨q.1, zDx_fr q.2 (fun a j ha => e a j (by omega))⟩)
theorem zSx_fr {p : Int} {c : Nat → Nat → Int} {h h' : zH} (H : zSx p c h) (e : ∀ a j, (a = 78 ∧ (j ≤ 5 ∨ j = 14)) → h' a j = h a j) : zSx p c h' := by
  unfold zSx zSv at H ⊢
  rw [e 78 14 (by omega), e 78 0 (by omega), e 78 1 (by omega), e 78 2 (by omega), e 78 3 (by omega), e 78 4 (by omega), e 78 5 (by omega)]
  exact H
theorem zEx_fr {p : Int} {c : Nat → Nat → Int} {h h' : zH} (H : zEx p c h) (e : ∀ a j, (a = 182 ∧ j = 10) ∨ a = 183 → h' a j = h a j) : zEx p c h' := by
  unfold zEx at H ⊢
  rw [e 182 10 (by omega)]
  exact H.imp id (fun q => ⟨q.1, fun i hi => by rw [e _ _ (by omega)]; exact q.2 i hi⟩)
theorem zRx_fr {p : Int} {c : Nat → Nat → Int} {h h' : zH} (H : zRx p c h) (e : ∀ a j, (a = 182 ∧ (j = 11 ∨ j = 2)) ∨ a = 184 → h' a j = h a j) : zRx p c h' := by
  unfold zRx zRd at H ⊢
  rw [e 182 11 (by omega), e 182 2 (by omega)]
  exact H.imp id (fun q => ⟨q.1, q.2.1, fun i hi => by rw [e _ _ (by omega)]; exact q.2.2 i hi⟩)
/-- what is kept of results -/
def zCa (p : Int) (c : Nat → Nat → Int) (h : zH) : Prop := zRo p c h ∧ zMx p c h ∧ zRk p c h ∧ zSx p c h ∧ zEx p c h ∧ zRx p c h
theorem zCa_fr {p : Int} (hp : p ≤ 31) {c : Nat → Nat → Int} {h h' : zH} (H : zCa p c h) (e : ∀ a j, (7 ≤ a ∧ a ≤ 95) ∨ (141 ≤ a ∧ a < 445) → h' a j = h a j) : zCa p c h' := by
  obtain ⟨h1, h2, h3, h4, h5, h6⟩ := H
  exact ⟨zRo_fr hp h1 (fun a j ha => e a j (by omega)), zMx_fr h2 (fun a j ha => e a j (by omega)), zRk_fr h3 (fun a j ha => e a j (by omega)), zSx_fr h4 (fun a j ha => e a j (by omega)), zEx_fr h5 (fun a j ha => e a j (by omega)), zRx_fr h6 (fun a j ha => e a j (by omega))⟩
def zHs (hs : List (Int × (Nat → Nat → Int))) (h : zH) : Prop := zHi hs h ∧ ∀ q, q ∈ hs → zSt q.1 q.2
/-- the class's world -/
def zWd (p : Int) (c : Nat → Nat → Int) (hs : List (Int × (Nat → Nat → Int))) (tx : Nat → Int) (L : Nat) (h : zH) : Prop := zSt p c ∧ zPol p c 2 h ∧ zHs hs h ∧ zTw tx L h ∧ zCa p c h
abbrev zW (s : zS) (h : zH) : Prop := zWd s.1 s.2.1 s.2.2.1 s.2.2.2.1 s.2.2.2.2 h
theorem zHi_fr {hs : List (Int × (Nat → Nat → Int))} {h h' : zH} (H : zHi hs h) (e : ∀ a j, 96 ≤ a ∧ a < 138 → h' a j = h a j) : zHi hs h' := by
  obtain ⟨nx, h1, h2, h3, h4, h5⟩ := H
  exact ⟨nx, by rw [e _ _ (by omega)]; exact h1, h2, by rw [e _ _ (by omega)]; exact h3, h4, fun i q hq => zPol_eq (h5 i q hq) (fun b j hb1 hb2 => e _ _ (by omega))⟩
theorem zTw_fr {tx : Nat → Int} {L : Nat} {h h' : zH} (H : zTw tx L h) (e : ∀ a j, (a = 138 ∧ j = 0) ∨ a = 140 → h' a j = h a j) : zTw tx L h' := by
  obtain ⟨h1, h2, h3⟩ := H
  exact ⟨by rw [e _ _ (by omega)]; exact h1, h2, fun j hj => by rw [e _ _ (by omega)]; exact h3 j hj⟩
/-- a question: only what is kept of results has changed -/
def zFq (a j : Nat) : Prop := (2 ≤ a ∧ a < 7) ∨ (96 ≤ a ∧ a < 138) ∨ (a = 138 ∧ j = 0) ∨ a = 140
theorem zWd_q {p : Int} {c : Nat → Nat → Int} {hs : List (Int × (Nat → Nat → Int))} {tx : Nat → Int} {L : Nat} {h h' : zH} (H : zWd p c hs tx L h) (hC : zCa p c h') (e : ∀ a j, zFq a j → h' a j = h a j) : zWd p c hs tx L h' := by
  obtain ⟨h1, h2, h3, h4, h5⟩ := H
  exact ⟨h1, zPol_eq h2 (fun b j hb1 hb2 => e _ _ (by unfold zFq; omega)), ⟨zHi_fr h3.1 (fun a j ha => e _ _ (by unfold zFq; omega)), h3.2⟩, zTw_fr h4 (fun a j ha => e _ _ (by unfold zFq; omega)), hC⟩
theorem zWd_fr {p : Int} {c : Nat → Nat → Int} {hs : List (Int × (Nat → Nat → Int))} {tx : Nat → Int} {L : Nat} {h h' : zH} (H : zWd p c hs tx L h) (e : ∀ a j, a < 445 → h' a j = h a j) : zWd p c hs tx L h' :=
  zWd_q H (zCa_fr H.1.p.2 H.2.2.2.2 (fun a j ha => e a j (by omega))) (fun a j ha => e a j (by unfold zFq at ha; omega))
def zFX (h h' : zH) : Prop := ∀ a j, 445 ≤ a → h' a j = h a j
/-- what a call of the class must show: the answer and the state that a spec function says -/
def zPX (s : Int × zS) (h : zH) (r : Int) (h' : zH) : Prop := r = s.1 ∧ zW s.2 h' ∧ zFX h h'
theorem zPX_i {s : Int × zS} {v r : Int} {t : zS} {h h' : zH} (e : s = (v, t)) (hr : r = v) (hw : zW t h') (hf : zFX h h') : zPX s h r h' := by
  subst e
  exact ⟨hr, hw, hf⟩
/-- behind the beginning of a change -/
def zFbc (a j : Nat) : Prop := (96 ≤ a ∧ a < 138) ∨ (a = 141 ∧ j = 4) ∨ (a = 7 ∧ j = 3) ∨ (a = 78 ∧ (j = 13 ∨ j = 14)) ∨ (a = 182 ∧ (j = 10 ∨ j = 11))
def zBC (p : Int) (c : Nat → Nat → Int) (hs : List (Int × (Nat → Nat → Int))) (h h' : zH) : Prop := zFr zFbc h h' ∧ zHi (((p, c) :: hs).take 8) h' ∧ ∀ p c, zCa p c h'
theorem zWd_ch {p : Int} {c : Nat → Nat → Int} {hs : List (Int × (Nat → Nat → Int))} {tx : Nat → Int} {L : Nat} {h h1 h' : zH} (H : zWd p c hs tx L h) (B : zBC p c hs h h1) {p' : Int} {c' : Nat → Nat → Int} (hst : zSt p' c') (hpol : zPol p' c' 2 h') (e : ∀ a j, 7 ≤ a → h' a j = h1 a j) : zWd p' c' (((p, c) :: hs).take 8) tx L h' := by
  obtain ⟨h1, h2, h3, h4, h5⟩ := H
  obtain ⟨b1, b2, b3⟩ := B
  refine ⟨hst, hpol, ⟨zHi_fr b2 (fun a j ha => e a j (by omega)), fun q hq => ?_⟩, zTw_fr h4 (fun a j ha => (e a j (by omega)).trans (b1 a j (by unfold zFbc; omega))), zCa_fr hst.p.2 (b3 p' c') (fun a j ha => e a j (by omega))⟩
  rcases List.mem_cons.mp (List.mem_of_mem_take hq) with q1 | q1
  · rw [q1]; exact h1
  · exact h3.2 q q1
theorem zRk_0 {p : Int} {c : Nat → Nat → Int} {h : zH} (e : h 78 13 = 0) : zRk p c h := ⟨0, e, by decide, fun t _ hb => by rw [Nat.zero_div] at hb; exact absurd hb (by decide)⟩
theorem zRo_0 {p : Int} {c : Nat → Nat → Int} {h : zH} (e : h 141 4 = 0) : zRo p c h := ⟨0, e, by decide, fun t _ hb => by rw [Nat.zero_div] at hb; exact absurd hb (by decide)⟩
theorem zsd_2 {c : Nat → Nat → Int} (h : zsd c ≠ 0) : 2 ≤ zsd c := by
  have g0 := zgd_le c 0
  have g1 := zgd_le c 1
  unfold zsd at h ⊢
  split at h
  · next w =>
    rw [if_pos w]
    rcases (show zgd c 0 = 1 ∨ zgd c 0 = 2 by omega) with e | e <;> rw [e] <;> omega
  · exact absurd rfl h
/-! ===== the spec functions ===== -/
def zoT (k i j e : Int) : Prop := (0 ≤ k ∧ k ≤ 2) ∧ (0 ≤ i ∧ i ≤ 2) ∧ (0 ≤ j ∧ j ≤ 2) ∧ (0 ≤ e ∧ e ≤ 2)
def zPr (x : Int) : Prop := x = 5 ∨ x = 7 ∨ x = 11 ∨ x = 13 ∨ x = 17 ∨ x = 19 ∨ x = 23 ∨ x = 29 ∨ x = 31
noncomputable def sp_setPrime (s : zS) (x : Int) : Int × zS := zif (zPr x) (s.1, zch s x (fun _ _ => 0)) (-1, s)
noncomputable def sp_type (s : zS) (x : Int) : Int × zS := zif (32 ≤ x ∧ x ≤ 126) (zif (s.2.2.2.2 < 60) (((s.2.2.2.2 + 1 : Nat) : Int), (s.1, s.2.1, s.2.2.1, (fun j => if j = s.2.2.2.2 then x else s.2.2.2.1 j), s.2.2.2.2 + 1)) (-3, s)) (-1, s)
def sp_clear (s : zS) : Int × zS := ((s.2.2.2.2 : Int), (s.1, s.2.1, s.2.2.1, s.2.2.2.1, 0))
def zpkc (c : Nat → Nat → Int) (k : Nat) (F : Nat → Int) : Nat → Nat → Int := fun k' j => if k' = k ∧ j < 27 then F j else c k' j
noncomputable def sp_read (s : zS) (k : Int) : Int × zS := zif (0 ≤ k ∧ k ≤ 2) (zif (0 ≤ (zparse s.2.2.2.1 s.2.2.2.2 s.1).1) (-10 - (zparse s.2.2.2.1 s.2.2.2.2 s.1).1, s) (zcnt (zparse s.2.2.2.1 s.2.2.2.2 s.1).2 27, zch s s.1 (zpkc s.2.1 k.toNat (zparse s.2.2.2.1 s.2.2.2.2 s.1).2))) (-1, s)
def zpt (c : Nat → Nat → Int) (k j : Nat) (v : Int) : Nat → Nat → Int := fun k' j' => if k' = k ∧ j' = j then v else c k' j'
def zpl3 (i j e : Int) : Nat := 9 * i.toNat + 3 * j.toNat + e.toNat
noncomputable def sp_setCoefficient (s : zS) (k i j e v : Int) : Int × zS := zif (zoT k i j e ∧ 0 ≤ v ∧ v < s.1) (s.2.1 k.toNat (zpl3 i j e), zch s s.1 (zpt s.2.1 k.toNat (zpl3 i j e) v)) (-1, s)
noncomputable def sp_coefficient (s : zS) (k i j e : Int) : Int × zS := zif (zoT k i j e) (s.2.1 k.toNat (zpl3 i j e), s) (-1, s)
noncomputable def zpd (p sd : Int) (u v w : Nat) (th : Int) : Nat → Nat → Int := fun k j => if k < 3 ∧ j < 27 then zdrw p u v w th (zlcg sd (27 * k + j + 1)) j else 0
def zoD (u v w th : Int) : Prop := (0 ≤ u ∧ u ≤ 2) ∧ (0 ≤ v ∧ v ≤ 2) ∧ (0 ≤ w ∧ w ≤ 2) ∧ 1 ≤ th ∧ th ≤ 9
noncomputable def sp_draw (s : zS) (sd u v w th : Int) : Int × zS := zif (zoD u v w th) (ztot (zpd s.1 sd u.toNat v.toNat w.toNat th), zch s s.1 (zpd s.1 sd u.toNat v.toNat w.toNat th)) (-1, s)
def zoP (p x y t : Int) : Prop := (0 ≤ x ∧ x < p) ∧ (0 ≤ y ∧ y < p) ∧ (0 ≤ t ∧ t < p)
def zppl (p : Int) (c : Nat → Nat → Int) (x y t : Int) : Nat → Nat → Int := fun k j => if k < 3 ∧ j = 0 then (c k 0 - zval p c k x y t) % p else c k j
noncomputable def sp_plant (s : zS) (x y t : Int) : Int × zS := zif (zoP s.1 x y t) (zcnt (fun k => zval s.1 s.2.1 k x y t) 3, zch s s.1 (zppl s.1 s.2.1 x y t)) (-1, s)
def zpw (c : Nat → Nat → Int) (k l : Nat) : Nat → Nat → Int := fun k' j => if k' = k then c l j else if k' = l then c k j else c k' j
def zdf (f g : Nat → Int) : Prop := ∃ j, j < 27 ∧ f j ≠ g j
noncomputable def sp_swap (s : zS) (k l : Int) : Int × zS := zif ((0 ≤ k ∧ k ≤ 2) ∧ (0 ≤ l ∧ l ≤ 2)) (zif (zdf (s.2.1 k.toNat) (s.2.1 l.toNat)) 1 0, zch s s.1 (zpw s.2.1 k.toNat l.toNat)) (-1, s)
def zpm (p : Int) (c : Nat → Nat → Int) (k l : Nat) (cc : Int) (off : Nat) : Nat → Nat → Int := fun k' j => if k' = k ∧ off ≤ j ∧ j < 27 then (c k j + cc * c l (j - off)) % p else c k' j
def zoM (p k l cc i j e : Int) : Prop := zoT k i j e ∧ (0 ≤ l ∧ l ≤ 2) ∧ k ≠ l ∧ 0 ≤ cc ∧ cc < p
noncomputable def sp_combine (s : zS) (k l cc i j e : Int) : Int × zS := zif (zoM s.1 k l cc i j e) (zif (cc ≠ 0 ∧ zleave (s.2.1 l.toNat) i.toNat j.toNat e.toNat) (-3, s) (zcnt (zpm s.1 s.2.1 k.toNat l.toNat cc (zpl3 i j e) k.toNat) 27, zch s s.1 (zpm s.1 s.2.1 k.toNat l.toNat cc (zpl3 i j e)))) (-1, s)
def zpsh (p : Int) (c : Nat → Nat → Int) (cc : Int) : Nat → Nat → Int := fun k j => if k < 3 ∧ j < 27 then zsh p cc (c k) j else c k j
noncomputable def sp_shift (s : zS) (cc : Int) : Int × zS := zif (0 ≤ cc ∧ cc < s.1) (ztot (zpsh s.1 s.2.1 cc), zch s s.1 (zpsh s.1 s.2.1 cc)) (-1, s)
noncomputable def sp_value (s : zS) (k x y t : Int) : Int × zS := zif ((0 ≤ k ∧ k ≤ 2) ∧ zoP s.1 x y t) (zval s.1 s.2.1 k.toNat x y t, s) (-1, s)
noncomputable def sp_degree (s : zS) (k v : Int) : Int × zS := zif ((0 ≤ k ∧ k ≤ 2) ∧ (0 ≤ v ∧ v ≤ 2)) ((zdeg (s.2.1 k.toNat) v.toNat 27 : Int), s) (-1, s)
noncomputable def sp_degreeAt (s : zS) (k v t : Int) : Int × zS := zif ((0 ≤ k ∧ k ≤ 2) ∧ (0 ≤ v ∧ v ≤ 1) ∧ (0 ≤ t ∧ t < s.1)) ((zdgA s.1 s.2.1 k.toNat v.toNat t 9 : Int), s) (-1, s)
noncomputable def sp_degreeDrops (s : zS) : Int × zS := ((zmk (fun t => zdrop s.1 s.2.1 (t : Int)) s.1.toNat : Int), s)
noncomputable def sp_size (s : zS) : Int × zS := zif (zsd s.2.1 = 0) (-2, s) ((zsd s.2.1 : Int), s)
def zoS (c : Nat → Nat → Int) (r q : Int) : Prop := (0 ≤ r ∧ r < (zsd c : Int)) ∧ (0 ≤ q ∧ q < (zsd c : Int))
noncomputable def sp_entry (s : zS) (r q e : Int) : Int × zS := zif (0 ≤ e ∧ e ≤ 6) (zif (zsd s.2.1 = 0) (-2, s) (zif (zoS s.2.1 r q) (zEn s.1 s.2.1 (8 * r.toNat + q.toNat) e.toNat, s) (-1, s))) (-1, s)
noncomputable def sp_entryAt (s : zS) (r q t : Int) : Int × zS := zif (0 ≤ t ∧ t < s.1) (zif (zsd s.2.1 = 0) (-2, s) (zif (zoS s.2.1 r q) (zhor t s.1 7 (zEn s.1 s.2.1 (8 * r.toNat + q.toNat)), s) (-1, s))) (-1, s)
/-- a question of t that wants a matrix -/
noncomputable def sp_mt (s : zS) (t v : Int) : Int × zS := zif (0 ≤ t ∧ t < s.1) (zif (zsd s.2.1 = 0) (-2, s) (v, s)) (-1, s)
noncomputable def sp_m (s : zS) (v : Int) : Int × zS := zif (zsd s.2.1 = 0) (-2, s) (v, s)
noncomputable def sp_rankAt (s : zS) (t : Int) : Int × zS := sp_mt s t (zrk s.1 s.2.1 t.toNat : Int)
noncomputable def sp_rank (s : zS) : Int × zS := sp_m s (zgP s.1 s.2.1 : Int)
noncomputable def sp_pivotPoint (s : zS) : Int × zS := sp_m s (zpP s.1 s.2.1 : Int)
noncomputable def zselR (p : Int) (c : Nat → Nat → Int) : Nat := zmk (zTfl p (zRw p c (zpP p c))) (zsd c)
noncomputable def zselC (p : Int) (c : Nat → Nat → Int) : Nat := zmk (zTfl p (zCl p c (zpP p c))) (zsd c)
noncomputable def sp_selected (s : zS) (b : Int) : Int × zS := sp_m s (if b = 0 then (zselC s.1 s.2.1 : Int) else (zselR s.1 s.2.1 : Int))
noncomputable def sp_rankDrops (s : zS) : Int × zS := sp_m s (zmk (fun t => zrk s.1 s.2.1 t < zgP s.1 s.2.1) s.1.toNat : Int)
noncomputable def sp_condition (s : zS) : Int × zS := sp_m s (if zgw s.1 s.2.1 s.1.toNat < zgP s.1 s.2.1 then 1 else 0)
noncomputable def zform (p : Int) (c : Nat → Nat → Int) (b : Int) : Nat → Int := if b = 0 then zWp p c else zmon p (zrs p c (zWp p c) p.toNat)
noncomputable def sp_eliminantDegree (s : zS) (b : Int) : Int × zS := sp_m s (ztop (zform s.1 s.2.1 b) 49 : Int)
noncomputable def sp_eliminant (s : zS) (b e : Int) : Int × zS := zif (0 ≤ e ∧ e ≤ 48) (sp_m s (zform s.1 s.2.1 b e.toNat)) (-1, s)
noncomputable def sp_eliminantAt (s : zS) (b t : Int) : Int × zS := sp_mt s t (zhor t s.1 49 (zform s.1 s.2.1 b))
noncomputable def sp_multiplicity (s : zS) (t : Int) : Int × zS := sp_mt s t ((zstr t s.1 49 49 (zWp s.1 s.2.1)).1 : Int)
noncomputable def sp_extraneous (s : zS) : Int × zS := sp_m s (zmk (zxt s.1 s.2.1 (zWp s.1 s.2.1)) s.1.toNat : Int)
noncomputable def sp_commonRoots (s : zS) (t : Int) : Int × zS := zif (0 ≤ t ∧ t < s.1) ((zcn s.1 s.2.1 t : Int), s) (-1, s)
noncomputable def zrtF (p : Int) (c : Nat → Nat → Int) (t : Int) (i : Nat) : Int := Classical.epsilon (zRtI p c t i)
noncomputable def sp_commonRoot (s : zS) (t i : Int) : Int × zS := zif ((0 ≤ t ∧ t < s.1) ∧ 0 ≤ i) (zrtF s.1 s.2.1 t i.toNat, s) (-1, s)
noncomputable def sp_solvable (s : zS) : Int × zS := ((zmk (fun t => 0 < zcn s.1 s.2.1 (t : Int)) s.1.toNat : Int), s)
noncomputable def sp_kernel (s : zS) (t : Int) : Int × zS := sp_mt s t ((zsd s.2.1 : Int) - (zrk s.1 s.2.1 t.toNat : Int))
noncomputable def sp_recovered (s : zS) (t b : Int) : Int × zS := sp_mt s t (if b = 0 then zabs s.1 s.2.1 t.toNat else zord s.1 s.2.1 t.toNat)
def zcfm (p : Int) (c : Nat → Nat → Int) (t : Int) : Prop := zabs p c t.toNat ≠ -9 ∧ zord p c t.toNat ≠ -9 ∧ zval p c 0 (zabs p c t.toNat) (zord p c t.toNat) t = 0 ∧ zval p c 1 (zabs p c t.toNat) (zord p c t.toNat) t = 0 ∧ zval p c 2 (zabs p c t.toNat) (zord p c t.toNat) t = 0
noncomputable def zcfv (p : Int) (c : Nat → Nat → Int) (t : Int) : Int := zif (zcfm p c t) 1 0
noncomputable def sp_confirmed (s : zS) (t : Int) : Int × zS := sp_mt s t (zcfv s.1 s.2.1 t)
def sp_undo (s : zS) : Int × zS := match s.2.2.1 with
  | [] => (-2, s)
  | q :: t => ((t.length : Int), (q.1, q.2, t, s.2.2.2))
noncomputable def zpairs (p : Int) (c : Nat → Nat → Int) : Nat := zsumN (fun t => zcn p c (t : Int)) p.toNat
noncomputable def zcount (s : zS) (w : Int) : Int := if w = 0 then s.1 else if w = 1 then (zgd s.2.1 0 : Int) else if w = 2 then (zgd s.2.1 1 : Int) else if w = 3 then (s.2.2.2.2 : Int) else if w = 4 then (s.2.2.1.length : Int) else if w = 5 then ztot s.2.1 else if w = 6 then (zpairs s.1 s.2.1 : Int) else -1
noncomputable def sp_count (s : zS) (w : Int) : Int × zS := (zcount s w, s)
def zmix (h v : Int) : Int := 31 * h + v
def zmixN (f : Nat → Int) : Nat → Int → Int
  | 0, h => h
  | n + 1, h => zmix (zmixN f n h) (f n)
noncomputable def zdg1 (s : zS) : Int := zmix (zmix (zmix (zmixN (fun w => zcount s (w : Int)) 7 18404) (sp_degreeDrops s).1) (sp_solvable s).1) (sp_size s).1
noncomputable def zdg2 (s : zS) : Int := zmix (zmix (zmix (zmix (zmix (zmix (zmix (zmix (zdg1 s) (sp_rank s).1) (sp_pivotPoint s).1) (sp_selected s 1).1) (sp_selected s 0).1) (sp_rankDrops s).1) (sp_condition s).1) (sp_extraneous s).1) (sp_eliminantDegree s 0).1
noncomputable def zdg3 (s : zS) : Int := zmix (zmixN (fun e => (sp_eliminant s 0 (e : Int)).1) 49 (zdg2 s)) (sp_eliminantDegree s 1).1
noncomputable def zdg4 (s : zS) : Int := zmixN (fun t => (sp_confirmed s (t : Int)).1) s.1.toNat (zmixN (fun e => (sp_eliminant s 1 (e : Int)).1) 49 (zdg3 s))
noncomputable def sp_digest (s : zS) : Int × zS := zif (zsd s.2.1 = 0) (zdg1 s, s) (zdg4 s, s)

def zFfr (a j : Nat) : Prop := (a = 141 ∧ j = 4) ∨ (a = 7 ∧ j = 3) ∨ (a = 78 ∧ (j = 13 ∨ j = 14)) ∨ (a = 182 ∧ (j = 10 ∨ j = 11))

set_option maxRecDepth 100000 in
set_option maxHeartbeats 4000000 in
theorem t_X8_parse2 {h : zH} {tx : Nat → Int} {L : Nat} (Hw : zTw tx L h) {p : Int} (hp : 5 ≤ p ∧ p ≤ 31) : CI yX8_parse mX8_parse [vR 138, vI p] h (fun r h' => zFr (fun a j => (a = 138 ∧ j = 3) ∨ a = 139) h h' ∧ (∃ q, zTx tx L q h') ∧ (∀ j, j < 27 → h' 139 j = (zparse tx L p).2 j ∧ 0 ≤ h' 139 j ∧ h' 139 j < p) ∧ r = (zparse tx L p).1) := by
  refine inV [some (vR 138), some (vI p), none, none] mvX8_parse rfl (Nat.le_of_ble_eq_true rfl) rfl ?_
  have H : zTx tx L 0 (zup h 138 3 0) := ⟨by rw [zup_o (by omega)]; exact Hw.1, Hw.2.1, zup_s, Nat.zero_le _, fun j hj => by rw [zup_o (by omega)]; exact Hw.2.2 j hj⟩
  have H0 : zTx tx L 0 (zfl (zup h 138 3 0) 139 27 (fun _ => 0)) := by
    have h1 := H
    refine ⟨by rw [zfl_o (by omega)]; exact h1.1, h1.2.1, by rw [zfl_o (by omega)]; exact h1.2.2.1, h1.2.2.2.1, fun j hj => ?_⟩
    rw [zfl_o (by omega)]
    exact h1.2.2.2.2 j hj
  have sk0 := zsk_le (tx := tx) (Nat.zero_le L)
  have H1 := zTx_up H0 sk0.2
  have sg0 := zsgp_le (tx := tx) sk0.2
  have L24 : ∀ (zm24 : Nat) (k i : Nat) (h' : zH) (s vk : Int) (S : Nat → Int), 61 - k = zm24 → (vk = (k : Int)) → (k ≤ i) → (zTx tx L i h') → (zFr (fun a j => (a = 138 ∧ j = 3) ∨ a = 139) h h') → (∀ j, j < 27 → h' 139 j = S j ∧ 0 ≤ S j ∧ S j < p) → (-1 ≤ s ∧ s ≤ 1) → (zps tx L p (61 - k) i (decide (s < 0)) S = zparse tx L p) → WP mX8_parse (zMQ mX8_parse (zKI (fun r h' => zFr (fun a j => (a = 138 ∧ j = 3) ∨ a = 139) h h' ∧ (∃ q, zTx tx L q h') ∧ (∀ j, j < 27 → h' 139 j = (zparse tx L p).2 j ∧ 0 ≤ h' 139 j ∧ h' 139 j < p) ∧ r = (zparse tx L p).1))) 24 [some (vR 138), some (vI p), some (vI s), some (vI vk)] [] zN zGR h' := by
    intro zm24
    induction zm24 using Nat.strongRecOn with | _ zm24 ih24 => ?_
    intro k i h' s vk S hzm24 hvk hki H2 hf hS hs hz
    subst hzm24
    have hiL := H2.2.2.2.1
    have hL60 := H2.2.1
    have sk := zsk_le (tx := tx) hiL
    have H3 := zTx_up H2 sk.2
    have hS3 : ∀ j, j < 27 → 0 ≤ zup h' 138 3 (zsk tx L i : Int) 139 j ∧ zup h' 138 3 (zsk tx L i : Int) 139 j < p := fun j hj => by
      rw [zup_o (by omega), (hS j hj).1]
      exact (hS j hj).2
    have tq := zTq_le (tx := tx) sk.2
    have sk2 := zsk_le (tx := tx) tq.2.1
    have hz2 := hz
    rw [show 61 - k = 60 - k + 1 by omega] at hz2
    unfold zps at hz2
    refine w_iload3 dX8_parse_24 (wp_bipush dX8_parse_25 (by decide) ?_)
    refine wp_icmp_gt 93 dX8_parse_27 rfl ⟨by omega, by omega⟩ ⟨by omega, by omega⟩ (fun c27 => absurd c27 (by omega)) (fun c27 => ?_)
    refine w_aload0 dX8_parse_30 ?_
    apply v_v0 (M := mX8_parse) dX8_parse_31 lk_RX8_31 mvX8_skipSpaces (by decide) meX8_parse is_138 (Nat.le_of_ble_eq_true rfl)
    · exact t_X8_skipSpaces H2
    intro h31 hP31
    replace hP31 := hP31.symm
    subst hP31
    refine w_aload0 dX8_parse_34 (w_iload2 dX8_parse_35 ?_)
    refine wp_if_ge 43 dX8_parse_36 rfl ⟨by omega, by omega⟩ (fun c36 => ?_) (fun c36 => ?_)
    · skip
      have hm45 : (0 : Int) = if decide (s < 0) = true then 1 else 0 := by rw [if_neg (by simpa using c36)]
      refine wp_iconst dX8_parse_43 (w_iload1 dX8_parse_44 ?_)
      apply v_i2 (M := mX8_parse) dX8_parse_45 lk_RX8_38 mvX8_takeTerm (by decide) meX8_parse is_138 (Nat.le_of_ble_eq_true rfl)
      · exact t_X8_takeTerm H3 hm45 hp hS3
      intro x45 h45 hP45
      skip
      refine wp_if_ne 56 dX8_parse_48 rfl ⟨by omega, by omega⟩ (fun c48 => ?_) (fun c48 => ?_)
      · skip
        have hc : ¬ (zTn tx L (zsk tx L i) < 0 ∧ zTu tx L (zsk tx L i) = 0) := fun q => by have := (hP45.1 q).2; omega
        obtain ⟨e45, -⟩ := hP45.2 hc
        rw [zup_up] at e45
        have H4a := zTx_up H2 tq.2.1
        have H4 : zTx tx L (zTq tx L (zsk tx L i)) h45 := by
          rw [e45]
          refine ⟨by rw [zfl_o (by omega)]; exact H4a.1, H4a.2.1, by rw [zfl_o (by omega)]; exact H4a.2.2.1, H4a.2.2.2.1, fun j hj => ?_⟩
          rw [zfl_o (by omega)]
          exact H4a.2.2.2.2 j hj
        have H5 := zTx_up H4 sk2.2
        have a5 := H5.1
        have b5 := H5.2.2.1
        have hS5 : ∀ j, j < 27 → h45 139 j = ztS p (decide (s < 0)) (zTz tx L (zsk tx L i)) (zTa tx L (zsk tx L i)) S j ∧ 0 ≤ ztS p (decide (s < 0)) (zTz tx L (zsk tx L i)) (zTa tx L (zsk tx L i)) S j ∧ ztS p (decide (s < 0)) (zTz tx L (zsk tx L i)) (zTa tx L (zsk tx L i)) S j < p := fun j hj => by
          have e9 : zup h' 138 3 (zsk tx L i : Int) 139 = h' 139 := zup_a (by decide)
          rw [e45, zfl_i hj, e9]
          unfold ztS
          have hSj := hS j hj
          by_cases e : j = zTa tx L (zsk tx L i)
          · rw [if_pos e, if_pos e, hSj.1]
            exact ⟨rfl, z_mod (by omega) _⟩
          · rw [if_neg e, if_neg e, hSj.1]
            exact ⟨rfl, hSj.2⟩
        rw [if_neg hc] at hz2
        refine w_aload0 dX8_parse_56 ?_
        apply v_v0 (M := mX8_parse) dX8_parse_57 lk_RX8_31 mvX8_skipSpaces (by decide) meX8_parse is_138 (Nat.le_of_ble_eq_true rfl)
        · exact t_X8_skipSpaces H4
        intro h57 hP57
        replace hP57 := hP57.symm
        subst hP57
        refine w_aload0 dX8_parse_60 (wp_geti dX8_parse_61 fl_RX8_22 is_138 (w_aload0 dX8_parse_64 (wp_geti dX8_parse_65 fl_RX8_18 is_138 ?_)))
        rw [a5, b5]
        refine wp_icmp_lt 73 dX8_parse_68 rfl ⟨by omega, by omega⟩ ⟨by omega, by omega⟩ (fun c68 => ?_) (fun c68 => ?_)
        · skip
          refine w_aload0 dX8_parse_73 ?_
          apply v_i0 (M := mX8_parse) dX8_parse_74 lk_RX8_34 mvX8_takeSign (by decide) meX8_parse is_138 (Nat.le_of_ble_eq_true rfl)
          · exact t_X8_takeSign H5
          intro x74 h74 hP74
          obtain ⟨eh74, ex74⟩ := hP74
          subst eh74
          subst ex74
          refine w_istore2 dX8_parse_77 rfl (by decide) (w_iload2 dX8_parse_78 ?_)
          have sgi := zsg_in tx L (zsk tx L (zTq tx L (zsk tx L i)))
          refine wp_if_ne 87 dX8_parse_79 rfl ⟨by omega, by omega⟩ (fun c79 => ?_) (fun c79 => ?_)
          · skip
            refine w_iinc3 dX8_parse_87 rfl (by decide) (wp_goto 24 dX8_parse_90 rfl ?_)
            rw [if_neg (by omega), if_neg c79] at hz2
            have sg5 := zsgp_le (tx := tx) (i := zsk tx L (zTq tx L (zsk tx L i))) sk2.2
            have hsgp : zsgp tx L (zsk tx L (zTq tx L (zsk tx L i))) = zsk tx L (zTq tx L (zsk tx L i)) + 1 := by
              have c9 := c79
              unfold zsg at c9
              unfold zsgp
              by_cases a1 : zpeek tx L (zsk tx L (zTq tx L (zsk tx L i))) = 43
              · rw [if_pos a1]
              · rw [if_neg a1] at c9 ⊢
                by_cases a2 : zpeek tx L (zsk tx L (zTq tx L (zsk tx L i))) = 45
                · rw [if_pos a2]
                · rw [if_neg a2] at c9
                  exact absurd rfl c9
            rw [hsgp] at sg5 ⊢
            refine ih24 _ (by omega) (k + 1) _ _ _ _ _ rfl (by omega) (by omega) (zTx_up H5 sg5.2) ?_ ?_ ?_ (by rw [show 61 - (k + 1) = 60 - k by omega]; exact hz2)
            · intro a j n
              rw [zup_o (by omega), zup_o (by omega), e45, zfl_o (by omega), zup_o (by omega)]
              exact hf a j n
            · intro j hj
              rw [zup_o (by omega), zup_o (by omega)]
              exact hS5 j hj
            · unfold zsg
              split
              · omega
              · split <;> omega
          · skip
            refine w_aload0 dX8_parse_82 (wp_geti dX8_parse_83 fl_RX8_22 is_138 ?_)
            refine r_i dX8_parse_86 rfl meX8_parse ?_
            rw [if_neg (by omega), if_pos c79] at hz2
            rw [← hz2]
            have hsgp : zsgp tx L (zsk tx L (zTq tx L (zsk tx L i))) = zsk tx L (zTq tx L (zsk tx L i)) := by
              have c9 := c79
              unfold zsg at c9
              unfold zsgp
              by_cases a1 : zpeek tx L (zsk tx L (zTq tx L (zsk tx L i))) = 43
              · rw [if_pos a1] at c9
                exact absurd c9 (by decide)
              · rw [if_neg a1] at c9 ⊢
                by_cases a2 : zpeek tx L (zsk tx L (zTq tx L (zsk tx L i))) = 45
                · rw [if_pos a2] at c9
                  exact absurd c9 (by decide)
                · rw [if_neg a2]
            rw [hsgp]
            have H6 := zTx_up H5 sk2.2
            refine ⟨fun a j n => ?_, ⟨_, H6⟩, fun j hj => ?_, H6.2.2.1⟩
            · rw [zup_o (by omega), zup_o (by omega), e45, zfl_o (by omega), zup_o (by omega)]
              exact hf a j n
            · rw [zup_o (by omega), zup_o (by omega)]
              exact ⟨(hS5 j hj).1, by rw [(hS5 j hj).1]; exact (hS5 j hj).2⟩
        · skip
          refine wp_iconst dX8_parse_71 ?_
          refine r_i dX8_parse_72 rfl meX8_parse ?_
          rw [if_pos (by omega)] at hz2
          rw [← hz2]
          refine ⟨fun a j n => ?_, ⟨_, H5⟩, fun j hj => ?_, rfl⟩
          · rw [zup_o (by omega), e45, zfl_o (by omega), zup_o (by omega)]
            exact hf a j n
          · rw [zup_o (by omega)]
            exact ⟨(hS5 j hj).1, by rw [(hS5 j hj).1]; exact (hS5 j hj).2⟩
      · skip
        have hc : zTn tx L (zsk tx L i) < 0 ∧ zTu tx L (zsk tx L i) = 0 := Classical.byContradiction (fun q => by have := (hP45.2 q).2; omega)
        obtain ⟨e45, -⟩ := hP45.1 hc
        rw [zup_up] at e45
        have H4 : zTx tx L (zTq tx L (zsk tx L i)) h45 := by rw [e45]; exact zTx_up H2 tq.2.1
        rw [if_pos hc] at hz2
        refine w_aload0 dX8_parse_51 (wp_geti dX8_parse_52 fl_RX8_22 is_138 ?_)
        refine r_i dX8_parse_55 rfl meX8_parse ?_
        rw [← hz2]
        refine ⟨fun a j n => ?_, ⟨_, H4⟩, fun j hj => ?_, H4.2.2.1⟩
        · rw [e45, zup_o (by omega)]
          exact hf a j n
        · rw [e45, zup_o (by omega)]
          exact ⟨(hS j hj).1, by rw [(hS j hj).1]; exact (hS j hj).2⟩
    · skip
      have hm45 : (1 : Int) = if decide (s < 0) = true then 1 else 0 := by rw [if_pos (by simpa using c36)]
      refine wp_iconst dX8_parse_39 (wp_goto 44 dX8_parse_40 rfl (w_iload1 dX8_parse_44 ?_))
      apply v_i2 (M := mX8_parse) dX8_parse_45 lk_RX8_38 mvX8_takeTerm (by decide) meX8_parse is_138 (Nat.le_of_ble_eq_true rfl)
      · exact t_X8_takeTerm H3 hm45 hp hS3
      intro x45 h45 hP45
      skip
      refine wp_if_ne 56 dX8_parse_48 rfl ⟨by omega, by omega⟩ (fun c48 => ?_) (fun c48 => ?_)
      · skip
        have hc : ¬ (zTn tx L (zsk tx L i) < 0 ∧ zTu tx L (zsk tx L i) = 0) := fun q => by have := (hP45.1 q).2; omega
        obtain ⟨e45, -⟩ := hP45.2 hc
        rw [zup_up] at e45
        have H4a := zTx_up H2 tq.2.1
        have H4 : zTx tx L (zTq tx L (zsk tx L i)) h45 := by
          rw [e45]
          refine ⟨by rw [zfl_o (by omega)]; exact H4a.1, H4a.2.1, by rw [zfl_o (by omega)]; exact H4a.2.2.1, H4a.2.2.2.1, fun j hj => ?_⟩
          rw [zfl_o (by omega)]
          exact H4a.2.2.2.2 j hj
        have H5 := zTx_up H4 sk2.2
        have a5 := H5.1
        have b5 := H5.2.2.1
        have hS5 : ∀ j, j < 27 → h45 139 j = ztS p (decide (s < 0)) (zTz tx L (zsk tx L i)) (zTa tx L (zsk tx L i)) S j ∧ 0 ≤ ztS p (decide (s < 0)) (zTz tx L (zsk tx L i)) (zTa tx L (zsk tx L i)) S j ∧ ztS p (decide (s < 0)) (zTz tx L (zsk tx L i)) (zTa tx L (zsk tx L i)) S j < p := fun j hj => by
          have e9 : zup h' 138 3 (zsk tx L i : Int) 139 = h' 139 := zup_a (by decide)
          rw [e45, zfl_i hj, e9]
          unfold ztS
          have hSj := hS j hj
          by_cases e : j = zTa tx L (zsk tx L i)
          · rw [if_pos e, if_pos e, hSj.1]
            exact ⟨rfl, z_mod (by omega) _⟩
          · rw [if_neg e, if_neg e, hSj.1]
            exact ⟨rfl, hSj.2⟩
        rw [if_neg hc] at hz2
        refine w_aload0 dX8_parse_56 ?_
        apply v_v0 (M := mX8_parse) dX8_parse_57 lk_RX8_31 mvX8_skipSpaces (by decide) meX8_parse is_138 (Nat.le_of_ble_eq_true rfl)
        · exact t_X8_skipSpaces H4
        intro h57 hP57
        replace hP57 := hP57.symm
        subst hP57
        refine w_aload0 dX8_parse_60 (wp_geti dX8_parse_61 fl_RX8_22 is_138 (w_aload0 dX8_parse_64 (wp_geti dX8_parse_65 fl_RX8_18 is_138 ?_)))
        rw [a5, b5]
        refine wp_icmp_lt 73 dX8_parse_68 rfl ⟨by omega, by omega⟩ ⟨by omega, by omega⟩ (fun c68 => ?_) (fun c68 => ?_)
        · skip
          refine w_aload0 dX8_parse_73 ?_
          apply v_i0 (M := mX8_parse) dX8_parse_74 lk_RX8_34 mvX8_takeSign (by decide) meX8_parse is_138 (Nat.le_of_ble_eq_true rfl)
          · exact t_X8_takeSign H5
          intro x74 h74 hP74
          obtain ⟨eh74, ex74⟩ := hP74
          subst eh74
          subst ex74
          refine w_istore2 dX8_parse_77 rfl (by decide) (w_iload2 dX8_parse_78 ?_)
          have sgi := zsg_in tx L (zsk tx L (zTq tx L (zsk tx L i)))
          refine wp_if_ne 87 dX8_parse_79 rfl ⟨by omega, by omega⟩ (fun c79 => ?_) (fun c79 => ?_)
          · skip
            refine w_iinc3 dX8_parse_87 rfl (by decide) (wp_goto 24 dX8_parse_90 rfl ?_)
            rw [if_neg (by omega), if_neg c79] at hz2
            have sg5 := zsgp_le (tx := tx) (i := zsk tx L (zTq tx L (zsk tx L i))) sk2.2
            have hsgp : zsgp tx L (zsk tx L (zTq tx L (zsk tx L i))) = zsk tx L (zTq tx L (zsk tx L i)) + 1 := by
              have c9 := c79
              unfold zsg at c9
              unfold zsgp
              by_cases a1 : zpeek tx L (zsk tx L (zTq tx L (zsk tx L i))) = 43
              · rw [if_pos a1]
              · rw [if_neg a1] at c9 ⊢
                by_cases a2 : zpeek tx L (zsk tx L (zTq tx L (zsk tx L i))) = 45
                · rw [if_pos a2]
                · rw [if_neg a2] at c9
                  exact absurd rfl c9
            rw [hsgp] at sg5 ⊢
            refine ih24 _ (by omega) (k + 1) _ _ _ _ _ rfl (by omega) (by omega) (zTx_up H5 sg5.2) ?_ ?_ ?_ (by rw [show 61 - (k + 1) = 60 - k by omega]; exact hz2)
            · intro a j n
              rw [zup_o (by omega), zup_o (by omega), e45, zfl_o (by omega), zup_o (by omega)]
              exact hf a j n
            · intro j hj
              rw [zup_o (by omega), zup_o (by omega)]
              exact hS5 j hj
            · unfold zsg
              split
              · omega
              · split <;> omega
          · skip
            refine w_aload0 dX8_parse_82 (wp_geti dX8_parse_83 fl_RX8_22 is_138 ?_)
            refine r_i dX8_parse_86 rfl meX8_parse ?_
            rw [if_neg (by omega), if_pos c79] at hz2
            rw [← hz2]
            have hsgp : zsgp tx L (zsk tx L (zTq tx L (zsk tx L i))) = zsk tx L (zTq tx L (zsk tx L i)) := by
              have c9 := c79
              unfold zsg at c9
              unfold zsgp
              by_cases a1 : zpeek tx L (zsk tx L (zTq tx L (zsk tx L i))) = 43
              · rw [if_pos a1] at c9
                exact absurd c9 (by decide)
              · rw [if_neg a1] at c9 ⊢
                by_cases a2 : zpeek tx L (zsk tx L (zTq tx L (zsk tx L i))) = 45
                · rw [if_pos a2] at c9
                  exact absurd c9 (by decide)
                · rw [if_neg a2]
            rw [hsgp]
            have H6 := zTx_up H5 sk2.2
            refine ⟨fun a j n => ?_, ⟨_, H6⟩, fun j hj => ?_, H6.2.2.1⟩
            · rw [zup_o (by omega), zup_o (by omega), e45, zfl_o (by omega), zup_o (by omega)]
              exact hf a j n
            · rw [zup_o (by omega), zup_o (by omega)]
              exact ⟨(hS5 j hj).1, by rw [(hS5 j hj).1]; exact (hS5 j hj).2⟩
        · skip
          refine wp_iconst dX8_parse_71 ?_
          refine r_i dX8_parse_72 rfl meX8_parse ?_
          rw [if_pos (by omega)] at hz2
          rw [← hz2]
          refine ⟨fun a j n => ?_, ⟨_, H5⟩, fun j hj => ?_, rfl⟩
          · rw [zup_o (by omega), e45, zfl_o (by omega), zup_o (by omega)]
            exact hf a j n
          · rw [zup_o (by omega)]
            exact ⟨(hS5 j hj).1, by rw [(hS5 j hj).1]; exact (hS5 j hj).2⟩
      · skip
        have hc : zTn tx L (zsk tx L i) < 0 ∧ zTu tx L (zsk tx L i) = 0 := Classical.byContradiction (fun q => by have := (hP45.2 q).2; omega)
        obtain ⟨e45, -⟩ := hP45.1 hc
        rw [zup_up] at e45
        have H4 : zTx tx L (zTq tx L (zsk tx L i)) h45 := by rw [e45]; exact zTx_up H2 tq.2.1
        rw [if_pos hc] at hz2
        refine w_aload0 dX8_parse_51 (wp_geti dX8_parse_52 fl_RX8_22 is_138 ?_)
        refine r_i dX8_parse_55 rfl meX8_parse ?_
        rw [← hz2]
        refine ⟨fun a j n => ?_, ⟨_, H4⟩, fun j hj => ?_, H4.2.2.1⟩
        · rw [e45, zup_o (by omega)]
          exact hf a j n
        · rw [e45, zup_o (by omega)]
          exact ⟨(hS j hj).1, by rw [(hS j hj).1]; exact (hS j hj).2⟩
  refine w_aload0 dX8_parse_0 (wp_iconst dX8_parse_1 (wp_puti dX8_parse_2 fl_RX8_22 is_138 rfl (w_aload0 dX8_parse_5 (wp_getr 139 dX8_parse_6 fl_RX8_9 is_138 rfl (wp_iconst dX8_parse_9 ?_)))))
  apply s_v2 (M := mX8_parse) dX8_parse_10 lk_RX8_25 mvJ7_fill_53178 (by decide) meX8_parse (Nat.le_of_ble_eq_true rfl)
  · exact t_J7_fill_53178 is_139
  intro h10 hP10
  replace hP10 := hP10.symm
  subst hP10
  refine w_aload0 dX8_parse_13 ?_
  apply v_v0 (M := mX8_parse) dX8_parse_14 lk_RX8_31 mvX8_skipSpaces (by decide) meX8_parse is_138 (Nat.le_of_ble_eq_true rfl)
  · exact t_X8_skipSpaces H0
  intro h14 hP14
  replace hP14 := hP14.symm
  subst hP14
  refine w_aload0 dX8_parse_17 ?_
  apply v_i0 (M := mX8_parse) dX8_parse_18 lk_RX8_34 mvX8_takeSign (by decide) meX8_parse is_138 (Nat.le_of_ble_eq_true rfl)
  · exact t_X8_takeSign H1
  intro x18 h18 hP18
  obtain ⟨eh18, ex18⟩ := hP18
  subst eh18
  subst ex18
  refine w_istore2 dX8_parse_21 rfl (by decide) (wp_iconst dX8_parse_22 (w_istore3 dX8_parse_23 rfl (by decide) ?_))
  refine L24 _ 0 _ _ _ _ (fun _ => 0) rfl rfl (Nat.zero_le _) (zTx_up H1 sg0.2) ?_ (fun j hj => ?_) ?_ rfl
  · intro a j n
    rw [zup_o (by omega), zup_o (by omega), zfl_o (by omega), zup_o (by omega)]
  · rw [zup_o (by omega), zup_o (by omega), zfl_i hj]
    exact ⟨rfl, Int.le_refl 0, by omega⟩
  · unfold zsg
    split
    · omega
    · split <;> omega
set_option maxRecDepth 100000 in
set_option maxHeartbeats 4000000 in
theorem t_X9_outside {h : zH} {a b : Int} (ha : zin a) (hb : zin b) : CI yX9_outside mX9_outside [vI a, vI b] h (fun r h' => h' = h ∧ (r = 0 ∨ r = 1) ∧ (r = 0 ↔ 0 ≤ a ∧ a ≤ b)) := by
  refine inS [some (vI a), some (vI b)] mvX9_outside rfl (Nat.le_of_ble_eq_true rfl) rfl ?_
  have ha1 := ha.1
  have ha2 := ha.2
  have hb1 := hb.1
  have hb2 := hb.2
  have L14 : ∀ (v : Int), ((v = 0 ∨ v = 1) ∧ (v = 0 ↔ 0 ≤ a ∧ a ≤ b)) → WP mX9_outside (zMQ mX9_outside (zKI (fun r h' => h' = h ∧ (r = 0 ∨ r = 1) ∧ (r = 0 ↔ 0 ≤ a ∧ a ≤ b)))) 14 [none, none] [vI v] zN zGR h := by
    intro v hv
    refine r_z dX9_outside_14 rfl meX9_outside (by first | exact Or.inl rfl | exact Or.inr rfl | omega) ?_
    exact ⟨rfl, hv⟩
  refine w_iload0 dX9_outside_0 ?_
  refine wp_if_lt 9 dX9_outside_1 rfl ⟨by omega, by omega⟩ (fun c1 => ?_) (fun c1 => ?_)
  · skip
    refine wp_iconst dX9_outside_9 (wp_goto 14 dX9_outside_10 rfl ?_)
    refine w_forget0 ?_
    refine w_forget1 ?_
    exact L14 _ (by omega)
  · skip
    refine w_iload0 dX9_outside_4 (w_iload1 dX9_outside_5 ?_)
    refine wp_icmp_le 13 dX9_outside_6 rfl ⟨by omega, by omega⟩ ⟨by omega, by omega⟩ (fun c6 => ?_) (fun c6 => ?_)
    · skip
      refine wp_iconst dX9_outside_13 ?_
      refine w_forget0 ?_
      refine w_forget1 ?_
      exact L14 _ (by omega)
    · skip
      refine wp_iconst dX9_outside_9 (wp_goto 14 dX9_outside_10 rfl ?_)
      refine w_forget0 ?_
      refine w_forget1 ?_
      exact L14 _ (by omega)
set_option maxRecDepth 100000 in
set_option maxHeartbeats 4000000 in
theorem t_X9_noTerm {h : zH} {k i j e : Int} (hk : zin k) (hi : zin i) (hj : zin j) (he : zin e) : CI yX9_noTerm mX9_noTerm [vI k, vI i, vI j, vI e] h (fun r h' => h' = h ∧ (r = 0 ∨ r = 1) ∧ (r = 0 ↔ zoT k i j e)) := by
  refine inS [some (vI k), some (vI i), some (vI j), some (vI e)] mvX9_noTerm rfl (Nat.le_of_ble_eq_true rfl) rfl ?_
  have L37 : ∀ (v : Int), ((v = 0 ∨ v = 1) ∧ (v = 0 ↔ zoT k i j e)) → WP mX9_noTerm (zMQ mX9_noTerm (zKI (fun r h' => h' = h ∧ (r = 0 ∨ r = 1) ∧ (r = 0 ↔ zoT k i j e)))) 37 [none, none, none, none] [vI v] zN zGR h := by
    intro v hv
    refine r_z dX9_noTerm_37 rfl meX9_noTerm (by first | exact Or.inl rfl | exact Or.inr rfl | omega) ?_
    exact ⟨rfl, hv⟩
  refine w_iload0 dX9_noTerm_0 (wp_iconst dX9_noTerm_1 ?_)
  apply s_i2 (M := mX9_noTerm) dX9_noTerm_2 lk_RX9_84 mvX9_outside (by decide) meX9_noTerm (Nat.le_of_ble_eq_true rfl)
  · exact t_X9_outside hk ⟨by decide, by decide⟩
  intro x2 h2 hP2
  obtain ⟨eh2, hP2⟩ := hP2
  replace eh2 := eh2.symm
  subst eh2
  refine wp_if_ne 32 dX9_noTerm_5 rfl ⟨by omega, by omega⟩ (fun c5 => ?_) (fun c5 => ?_)
  · skip
    refine wp_iconst dX9_noTerm_32 (wp_goto 37 dX9_noTerm_33 rfl ?_)
    refine w_forget0 ?_
    refine w_forget1 ?_
    refine w_forget2 ?_
    refine w_forget3 ?_
    exact L37 _ (by unfold zoT; omega)
  · skip
    refine w_iload1 dX9_noTerm_8 (wp_iconst dX9_noTerm_9 ?_)
    apply s_i2 (M := mX9_noTerm) dX9_noTerm_10 lk_RX9_84 mvX9_outside (by decide) meX9_noTerm (Nat.le_of_ble_eq_true rfl)
    · exact t_X9_outside hi ⟨by decide, by decide⟩
    intro x10 h10 hP10
    obtain ⟨eh10, hP10⟩ := hP10
    replace eh10 := eh10.symm
    subst eh10
    refine wp_if_ne 32 dX9_noTerm_13 rfl ⟨by omega, by omega⟩ (fun c13 => ?_) (fun c13 => ?_)
    · skip
      refine wp_iconst dX9_noTerm_32 (wp_goto 37 dX9_noTerm_33 rfl ?_)
      refine w_forget0 ?_
      refine w_forget1 ?_
      refine w_forget2 ?_
      refine w_forget3 ?_
      exact L37 _ (by unfold zoT; omega)
    · skip
      refine w_iload2 dX9_noTerm_16 (wp_iconst dX9_noTerm_17 ?_)
      apply s_i2 (M := mX9_noTerm) dX9_noTerm_18 lk_RX9_84 mvX9_outside (by decide) meX9_noTerm (Nat.le_of_ble_eq_true rfl)
      · exact t_X9_outside hj ⟨by decide, by decide⟩
      intro x18 h18 hP18
      obtain ⟨eh18, hP18⟩ := hP18
      replace eh18 := eh18.symm
      subst eh18
      refine wp_if_ne 32 dX9_noTerm_21 rfl ⟨by omega, by omega⟩ (fun c21 => ?_) (fun c21 => ?_)
      · skip
        refine wp_iconst dX9_noTerm_32 (wp_goto 37 dX9_noTerm_33 rfl ?_)
        refine w_forget0 ?_
        refine w_forget1 ?_
        refine w_forget2 ?_
        refine w_forget3 ?_
        exact L37 _ (by unfold zoT; omega)
      · skip
        refine w_iload3 dX9_noTerm_24 (wp_iconst dX9_noTerm_25 ?_)
        apply s_i2 (M := mX9_noTerm) dX9_noTerm_26 lk_RX9_84 mvX9_outside (by decide) meX9_noTerm (Nat.le_of_ble_eq_true rfl)
        · exact t_X9_outside he ⟨by decide, by decide⟩
        intro x26 h26 hP26
        obtain ⟨eh26, hP26⟩ := hP26
        replace eh26 := eh26.symm
        subst eh26
        refine wp_if_eq 36 dX9_noTerm_29 rfl ⟨by omega, by omega⟩ (fun c29 => ?_) (fun c29 => ?_)
        · skip
          refine wp_iconst dX9_noTerm_36 ?_
          refine w_forget0 ?_
          refine w_forget1 ?_
          refine w_forget2 ?_
          refine w_forget3 ?_
          exact L37 _ (by unfold zoT; omega)
        · skip
          refine wp_iconst dX9_noTerm_32 (wp_goto 37 dX9_noTerm_33 rfl ?_)
          refine w_forget0 ?_
          refine w_forget1 ?_
          refine w_forget2 ?_
          refine w_forget3 ?_
          exact L37 _ (by unfold zoT; omega)
set_option maxRecDepth 100000 in
set_option maxHeartbeats 4000000 in
theorem t_X9_place {h : zH} {i j e : Int} : CI yX9_place mX9_place [vI i, vI j, vI e] h (fun r h' => h' = h ∧ r = 9 * i + 3 * j + e) := by
  refine inS [some (vI i), some (vI j), some (vI e)] mvX9_place rfl (Nat.le_of_ble_eq_true rfl) rfl ?_
  refine wp_bipush dX9_place_0 (by decide) (w_iload0 dX9_place_2 (wp_imul dX9_place_3 (wp_iconst dX9_place_4 (w_iload1 dX9_place_5 (wp_imul dX9_place_6 (wp_iadd dX9_place_7 (w_iload2 dX9_place_8 (wp_iadd dX9_place_9 ?_))))))))
  refine r_i dX9_place_10 rfl meX9_place ?_
  exact ⟨rfl, rfl⟩
set_option maxRecDepth 100000 in
set_option maxHeartbeats 4000000 in
theorem t_X9_isPrime {h : zH} {x : Int} (hx : zin x) : CI yX9_isPrime mX9_isPrime [vI x] h (fun r h' => h' = h ∧ (r = 0 ∨ r = 1) ∧ (r = 1 ↔ zPr x)) := by
  refine inS [some (vI x)] mvX9_isPrime rfl (Nat.le_of_ble_eq_true rfl) rfl ?_
  have hx1 := hx.1
  have hx2 := hx.2
  refine w_iload0 dX9_isPrime_0 ?_
  by_cases co1 : x < 5 ∨ 31 < x
  · refine wp_tswOut 126 dX9_isPrime_1 ⟨by omega, by omega⟩ co1 rfl ?_
    refine wp_iconst dX9_isPrime_126 ?_
    refine r_z dX9_isPrime_127 rfl meX9_isPrime (by first | exact Or.inl rfl | exact Or.inr rfl | omega) ?_
    first | exact ⟨rfl, Or.inr rfl, fun _ => by unfold zPr; omega, fun _ => rfl⟩ | exact ⟨rfl, Or.inl rfl, fun q => absurd q (by decide), fun q => by unfold zPr at q; omega⟩
  rcases (show x = 5 ∨ x = 6 ∨ x = 7 ∨ x = 8 ∨ x = 9 ∨ x = 10 ∨ x = 11 ∨ x = 12 ∨ x = 13 ∨ x = 14 ∨ x = 15 ∨ x = 16 ∨ x = 17 ∨ x = 18 ∨ x = 19 ∨ x = 20 ∨ x = 21 ∨ x = 22 ∨ x = 23 ∨ x = 24 ∨ x = 25 ∨ x = 26 ∨ x = 27 ∨ x = 28 ∨ x = 29 ∨ x = 30 ∨ x = 31 by omega) with rfl | rfl | rfl | rfl | rfl | rfl | rfl | rfl | rfl | rfl | rfl | rfl | rfl | rfl | rfl | rfl | rfl | rfl | rfl | rfl | rfl | rfl | rfl | rfl | rfl | rfl | rfl
  · refine wp_tswIn 124 dX9_isPrime_1 ⟨by decide, by decide⟩ (by decide) (by decide) rfl rfl ?_
    refine wp_iconst dX9_isPrime_124 ?_
    refine r_z dX9_isPrime_125 rfl meX9_isPrime (by first | exact Or.inl rfl | exact Or.inr rfl | omega) ?_
    first | exact ⟨rfl, Or.inr rfl, fun _ => by unfold zPr; omega, fun _ => rfl⟩ | exact ⟨rfl, Or.inl rfl, fun q => absurd q (by decide), fun q => by unfold zPr at q; omega⟩
  · refine wp_tswIn 126 dX9_isPrime_1 ⟨by decide, by decide⟩ (by decide) (by decide) rfl rfl ?_
    refine wp_iconst dX9_isPrime_126 ?_
    refine r_z dX9_isPrime_127 rfl meX9_isPrime (by first | exact Or.inl rfl | exact Or.inr rfl | omega) ?_
    first | exact ⟨rfl, Or.inr rfl, fun _ => by unfold zPr; omega, fun _ => rfl⟩ | exact ⟨rfl, Or.inl rfl, fun q => absurd q (by decide), fun q => by unfold zPr at q; omega⟩
  · refine wp_tswIn 124 dX9_isPrime_1 ⟨by decide, by decide⟩ (by decide) (by decide) rfl rfl ?_
    refine wp_iconst dX9_isPrime_124 ?_
    refine r_z dX9_isPrime_125 rfl meX9_isPrime (by first | exact Or.inl rfl | exact Or.inr rfl | omega) ?_
    first | exact ⟨rfl, Or.inr rfl, fun _ => by unfold zPr; omega, fun _ => rfl⟩ | exact ⟨rfl, Or.inl rfl, fun q => absurd q (by decide), fun q => by unfold zPr at q; omega⟩
  · refine wp_tswIn 126 dX9_isPrime_1 ⟨by decide, by decide⟩ (by decide) (by decide) rfl rfl ?_
    refine wp_iconst dX9_isPrime_126 ?_
    refine r_z dX9_isPrime_127 rfl meX9_isPrime (by first | exact Or.inl rfl | exact Or.inr rfl | omega) ?_
    first | exact ⟨rfl, Or.inr rfl, fun _ => by unfold zPr; omega, fun _ => rfl⟩ | exact ⟨rfl, Or.inl rfl, fun q => absurd q (by decide), fun q => by unfold zPr at q; omega⟩
  · refine wp_tswIn 126 dX9_isPrime_1 ⟨by decide, by decide⟩ (by decide) (by decide) rfl rfl ?_
    refine wp_iconst dX9_isPrime_126 ?_
    refine r_z dX9_isPrime_127 rfl meX9_isPrime (by first | exact Or.inl rfl | exact Or.inr rfl | omega) ?_
    first | exact ⟨rfl, Or.inr rfl, fun _ => by unfold zPr; omega, fun _ => rfl⟩ | exact ⟨rfl, Or.inl rfl, fun q => absurd q (by decide), fun q => by unfold zPr at q; omega⟩
  · refine wp_tswIn 126 dX9_isPrime_1 ⟨by decide, by decide⟩ (by decide) (by decide) rfl rfl ?_
    refine wp_iconst dX9_isPrime_126 ?_
    refine r_z dX9_isPrime_127 rfl meX9_isPrime (by first | exact Or.inl rfl | exact Or.inr rfl | omega) ?_
    first | exact ⟨rfl, Or.inr rfl, fun _ => by unfold zPr; omega, fun _ => rfl⟩ | exact ⟨rfl, Or.inl rfl, fun q => absurd q (by decide), fun q => by unfold zPr at q; omega⟩
  · refine wp_tswIn 124 dX9_isPrime_1 ⟨by decide, by decide⟩ (by decide) (by decide) rfl rfl ?_
    refine wp_iconst dX9_isPrime_124 ?_
    refine r_z dX9_isPrime_125 rfl meX9_isPrime (by first | exact Or.inl rfl | exact Or.inr rfl | omega) ?_
    first | exact ⟨rfl, Or.inr rfl, fun _ => by unfold zPr; omega, fun _ => rfl⟩ | exact ⟨rfl, Or.inl rfl, fun q => absurd q (by decide), fun q => by unfold zPr at q; omega⟩
  · refine wp_tswIn 126 dX9_isPrime_1 ⟨by decide, by decide⟩ (by decide) (by decide) rfl rfl ?_
    refine wp_iconst dX9_isPrime_126 ?_
    refine r_z dX9_isPrime_127 rfl meX9_isPrime (by first | exact Or.inl rfl | exact Or.inr rfl | omega) ?_
    first | exact ⟨rfl, Or.inr rfl, fun _ => by unfold zPr; omega, fun _ => rfl⟩ | exact ⟨rfl, Or.inl rfl, fun q => absurd q (by decide), fun q => by unfold zPr at q; omega⟩
  · refine wp_tswIn 124 dX9_isPrime_1 ⟨by decide, by decide⟩ (by decide) (by decide) rfl rfl ?_
    refine wp_iconst dX9_isPrime_124 ?_
    refine r_z dX9_isPrime_125 rfl meX9_isPrime (by first | exact Or.inl rfl | exact Or.inr rfl | omega) ?_
    first | exact ⟨rfl, Or.inr rfl, fun _ => by unfold zPr; omega, fun _ => rfl⟩ | exact ⟨rfl, Or.inl rfl, fun q => absurd q (by decide), fun q => by unfold zPr at q; omega⟩
  · refine wp_tswIn 126 dX9_isPrime_1 ⟨by decide, by decide⟩ (by decide) (by decide) rfl rfl ?_
    refine wp_iconst dX9_isPrime_126 ?_
    refine r_z dX9_isPrime_127 rfl meX9_isPrime (by first | exact Or.inl rfl | exact Or.inr rfl | omega) ?_
    first | exact ⟨rfl, Or.inr rfl, fun _ => by unfold zPr; omega, fun _ => rfl⟩ | exact ⟨rfl, Or.inl rfl, fun q => absurd q (by decide), fun q => by unfold zPr at q; omega⟩
  · refine wp_tswIn 126 dX9_isPrime_1 ⟨by decide, by decide⟩ (by decide) (by decide) rfl rfl ?_
    refine wp_iconst dX9_isPrime_126 ?_
    refine r_z dX9_isPrime_127 rfl meX9_isPrime (by first | exact Or.inl rfl | exact Or.inr rfl | omega) ?_
    first | exact ⟨rfl, Or.inr rfl, fun _ => by unfold zPr; omega, fun _ => rfl⟩ | exact ⟨rfl, Or.inl rfl, fun q => absurd q (by decide), fun q => by unfold zPr at q; omega⟩
  · refine wp_tswIn 126 dX9_isPrime_1 ⟨by decide, by decide⟩ (by decide) (by decide) rfl rfl ?_
    refine wp_iconst dX9_isPrime_126 ?_
    refine r_z dX9_isPrime_127 rfl meX9_isPrime (by first | exact Or.inl rfl | exact Or.inr rfl | omega) ?_
    first | exact ⟨rfl, Or.inr rfl, fun _ => by unfold zPr; omega, fun _ => rfl⟩ | exact ⟨rfl, Or.inl rfl, fun q => absurd q (by decide), fun q => by unfold zPr at q; omega⟩
  · refine wp_tswIn 124 dX9_isPrime_1 ⟨by decide, by decide⟩ (by decide) (by decide) rfl rfl ?_
    refine wp_iconst dX9_isPrime_124 ?_
    refine r_z dX9_isPrime_125 rfl meX9_isPrime (by first | exact Or.inl rfl | exact Or.inr rfl | omega) ?_
    first | exact ⟨rfl, Or.inr rfl, fun _ => by unfold zPr; omega, fun _ => rfl⟩ | exact ⟨rfl, Or.inl rfl, fun q => absurd q (by decide), fun q => by unfold zPr at q; omega⟩
  · refine wp_tswIn 126 dX9_isPrime_1 ⟨by decide, by decide⟩ (by decide) (by decide) rfl rfl ?_
    refine wp_iconst dX9_isPrime_126 ?_
    refine r_z dX9_isPrime_127 rfl meX9_isPrime (by first | exact Or.inl rfl | exact Or.inr rfl | omega) ?_
    first | exact ⟨rfl, Or.inr rfl, fun _ => by unfold zPr; omega, fun _ => rfl⟩ | exact ⟨rfl, Or.inl rfl, fun q => absurd q (by decide), fun q => by unfold zPr at q; omega⟩
  · refine wp_tswIn 124 dX9_isPrime_1 ⟨by decide, by decide⟩ (by decide) (by decide) rfl rfl ?_
    refine wp_iconst dX9_isPrime_124 ?_
    refine r_z dX9_isPrime_125 rfl meX9_isPrime (by first | exact Or.inl rfl | exact Or.inr rfl | omega) ?_
    first | exact ⟨rfl, Or.inr rfl, fun _ => by unfold zPr; omega, fun _ => rfl⟩ | exact ⟨rfl, Or.inl rfl, fun q => absurd q (by decide), fun q => by unfold zPr at q; omega⟩
  · refine wp_tswIn 126 dX9_isPrime_1 ⟨by decide, by decide⟩ (by decide) (by decide) rfl rfl ?_
    refine wp_iconst dX9_isPrime_126 ?_
    refine r_z dX9_isPrime_127 rfl meX9_isPrime (by first | exact Or.inl rfl | exact Or.inr rfl | omega) ?_
    first | exact ⟨rfl, Or.inr rfl, fun _ => by unfold zPr; omega, fun _ => rfl⟩ | exact ⟨rfl, Or.inl rfl, fun q => absurd q (by decide), fun q => by unfold zPr at q; omega⟩
  · refine wp_tswIn 126 dX9_isPrime_1 ⟨by decide, by decide⟩ (by decide) (by decide) rfl rfl ?_
    refine wp_iconst dX9_isPrime_126 ?_
    refine r_z dX9_isPrime_127 rfl meX9_isPrime (by first | exact Or.inl rfl | exact Or.inr rfl | omega) ?_
    first | exact ⟨rfl, Or.inr rfl, fun _ => by unfold zPr; omega, fun _ => rfl⟩ | exact ⟨rfl, Or.inl rfl, fun q => absurd q (by decide), fun q => by unfold zPr at q; omega⟩
  · refine wp_tswIn 126 dX9_isPrime_1 ⟨by decide, by decide⟩ (by decide) (by decide) rfl rfl ?_
    refine wp_iconst dX9_isPrime_126 ?_
    refine r_z dX9_isPrime_127 rfl meX9_isPrime (by first | exact Or.inl rfl | exact Or.inr rfl | omega) ?_
    first | exact ⟨rfl, Or.inr rfl, fun _ => by unfold zPr; omega, fun _ => rfl⟩ | exact ⟨rfl, Or.inl rfl, fun q => absurd q (by decide), fun q => by unfold zPr at q; omega⟩
  · refine wp_tswIn 124 dX9_isPrime_1 ⟨by decide, by decide⟩ (by decide) (by decide) rfl rfl ?_
    refine wp_iconst dX9_isPrime_124 ?_
    refine r_z dX9_isPrime_125 rfl meX9_isPrime (by first | exact Or.inl rfl | exact Or.inr rfl | omega) ?_
    first | exact ⟨rfl, Or.inr rfl, fun _ => by unfold zPr; omega, fun _ => rfl⟩ | exact ⟨rfl, Or.inl rfl, fun q => absurd q (by decide), fun q => by unfold zPr at q; omega⟩
  · refine wp_tswIn 126 dX9_isPrime_1 ⟨by decide, by decide⟩ (by decide) (by decide) rfl rfl ?_
    refine wp_iconst dX9_isPrime_126 ?_
    refine r_z dX9_isPrime_127 rfl meX9_isPrime (by first | exact Or.inl rfl | exact Or.inr rfl | omega) ?_
    first | exact ⟨rfl, Or.inr rfl, fun _ => by unfold zPr; omega, fun _ => rfl⟩ | exact ⟨rfl, Or.inl rfl, fun q => absurd q (by decide), fun q => by unfold zPr at q; omega⟩
  · refine wp_tswIn 126 dX9_isPrime_1 ⟨by decide, by decide⟩ (by decide) (by decide) rfl rfl ?_
    refine wp_iconst dX9_isPrime_126 ?_
    refine r_z dX9_isPrime_127 rfl meX9_isPrime (by first | exact Or.inl rfl | exact Or.inr rfl | omega) ?_
    first | exact ⟨rfl, Or.inr rfl, fun _ => by unfold zPr; omega, fun _ => rfl⟩ | exact ⟨rfl, Or.inl rfl, fun q => absurd q (by decide), fun q => by unfold zPr at q; omega⟩
  · refine wp_tswIn 126 dX9_isPrime_1 ⟨by decide, by decide⟩ (by decide) (by decide) rfl rfl ?_
    refine wp_iconst dX9_isPrime_126 ?_
    refine r_z dX9_isPrime_127 rfl meX9_isPrime (by first | exact Or.inl rfl | exact Or.inr rfl | omega) ?_
    first | exact ⟨rfl, Or.inr rfl, fun _ => by unfold zPr; omega, fun _ => rfl⟩ | exact ⟨rfl, Or.inl rfl, fun q => absurd q (by decide), fun q => by unfold zPr at q; omega⟩
  · refine wp_tswIn 126 dX9_isPrime_1 ⟨by decide, by decide⟩ (by decide) (by decide) rfl rfl ?_
    refine wp_iconst dX9_isPrime_126 ?_
    refine r_z dX9_isPrime_127 rfl meX9_isPrime (by first | exact Or.inl rfl | exact Or.inr rfl | omega) ?_
    first | exact ⟨rfl, Or.inr rfl, fun _ => by unfold zPr; omega, fun _ => rfl⟩ | exact ⟨rfl, Or.inl rfl, fun q => absurd q (by decide), fun q => by unfold zPr at q; omega⟩
  · refine wp_tswIn 126 dX9_isPrime_1 ⟨by decide, by decide⟩ (by decide) (by decide) rfl rfl ?_
    refine wp_iconst dX9_isPrime_126 ?_
    refine r_z dX9_isPrime_127 rfl meX9_isPrime (by first | exact Or.inl rfl | exact Or.inr rfl | omega) ?_
    first | exact ⟨rfl, Or.inr rfl, fun _ => by unfold zPr; omega, fun _ => rfl⟩ | exact ⟨rfl, Or.inl rfl, fun q => absurd q (by decide), fun q => by unfold zPr at q; omega⟩
  · refine wp_tswIn 124 dX9_isPrime_1 ⟨by decide, by decide⟩ (by decide) (by decide) rfl rfl ?_
    refine wp_iconst dX9_isPrime_124 ?_
    refine r_z dX9_isPrime_125 rfl meX9_isPrime (by first | exact Or.inl rfl | exact Or.inr rfl | omega) ?_
    first | exact ⟨rfl, Or.inr rfl, fun _ => by unfold zPr; omega, fun _ => rfl⟩ | exact ⟨rfl, Or.inl rfl, fun q => absurd q (by decide), fun q => by unfold zPr at q; omega⟩
  · refine wp_tswIn 126 dX9_isPrime_1 ⟨by decide, by decide⟩ (by decide) (by decide) rfl rfl ?_
    refine wp_iconst dX9_isPrime_126 ?_
    refine r_z dX9_isPrime_127 rfl meX9_isPrime (by first | exact Or.inl rfl | exact Or.inr rfl | omega) ?_
    first | exact ⟨rfl, Or.inr rfl, fun _ => by unfold zPr; omega, fun _ => rfl⟩ | exact ⟨rfl, Or.inl rfl, fun q => absurd q (by decide), fun q => by unfold zPr at q; omega⟩
  · refine wp_tswIn 124 dX9_isPrime_1 ⟨by decide, by decide⟩ (by decide) (by decide) rfl rfl ?_
    refine wp_iconst dX9_isPrime_124 ?_
    refine r_z dX9_isPrime_125 rfl meX9_isPrime (by first | exact Or.inl rfl | exact Or.inr rfl | omega) ?_
    first | exact ⟨rfl, Or.inr rfl, fun _ => by unfold zPr; omega, fun _ => rfl⟩ | exact ⟨rfl, Or.inl rfl, fun q => absurd q (by decide), fun q => by unfold zPr at q; omega⟩
set_option maxRecDepth 100000 in
set_option maxHeartbeats 4000000 in
theorem t_X9_forgetResults {h : zH} : CV yX9_forgetResults mX9_forgetResults [vR 1] h (fun h' => zFr zFfr h h' ∧ ∀ p c, zCa p c h') := by
  refine inV [some (vR 1)] mvX9_forgetResults rfl (Nat.le_of_ble_eq_true rfl) rfl ?_
  refine w_aload0 dX9_forgetResults_0 (wp_getr 141 dX9_forgetResults_1 fl_RX9_43 is_1 rfl ?_)
  apply v_v0 (M := mX9_forgetResults) dX9_forgetResults_4 lk_RX9_294 mvX6_forget (by decide) meX9_forgetResults is_141 (Nat.le_of_ble_eq_true rfl)
  · exact t_X6_forget
  intro h4 hP4
  replace hP4 := hP4.symm
  subst hP4
  refine w_aload0 dX9_forgetResults_7 (wp_getr 7 dX9_forgetResults_8 fl_RX9_47 is_1 rfl ?_)
  apply v_v0 (M := mX9_forgetResults) dX9_forgetResults_11 lk_RX9_297 mvX0_forget (by decide) meX9_forgetResults is_7 (Nat.le_of_ble_eq_true rfl)
  · exact t_X0_forget
  intro h11 hP11
  replace hP11 := hP11.symm
  subst hP11
  refine w_aload0 dX9_forgetResults_14 (wp_getr 78 dX9_forgetResults_15 fl_RX9_51 is_1 rfl ?_)
  apply v_v0 (M := mX9_forgetResults) dX9_forgetResults_18 lk_RX9_298 mvX5_forget (by decide) meX9_forgetResults is_78 (Nat.le_of_ble_eq_true rfl)
  · exact t_X5_forget
  intro h18 hP18
  replace hP18 := hP18.symm
  subst hP18
  refine w_aload0 dX9_forgetResults_21 (wp_getr 182 dX9_forgetResults_22 fl_RX9_60 is_1 rfl ?_)
  apply v_v0 (M := mX9_forgetResults) dX9_forgetResults_25 lk_RX9_299 mvX1_forget (by decide) meX9_forgetResults is_182 (Nat.le_of_ble_eq_true rfl)
  · exact t_X1_forget
  intro h25 hP25
  replace hP25 := hP25.symm
  subst hP25
  refine r_v dX9_forgetResults_28 rfl meX9_forgetResults ?_
  refine ⟨fun a j n => ?_, fun p c => ⟨zRo_0 ?_, Or.inl ?_, zRk_0 ?_, Or.inl ?_, Or.inl ?_, Or.inl ?_⟩⟩
  · unfold zFfr at n
    rw [zup_o (by omega), zup_o (by omega), zup_o (by omega), zup_o (by omega), zup_o (by omega), zup_o (by omega)]
  · rw [zup_o (by omega), zup_o (by omega), zup_o (by omega), zup_o (by omega), zup_o (by omega), zup_s]
  · rw [zup_o (by omega), zup_o (by omega), zup_o (by omega), zup_o (by omega), zup_s]
  · rw [zup_o (by omega), zup_o (by omega), zup_o (by omega), zup_s]
  · rw [zup_o (by omega), zup_o (by omega), zup_s]
  · rw [zup_o (by omega), zup_s]
  · rw [zup_s]
set_option maxRecDepth 100000 in
set_option maxHeartbeats 4000000 in
theorem t_X9_beginChange {h : zH} {p : Int} {c : Nat → Nat → Int} {hs : List (Int × (Nat → Nat → Int))} {tx : Nat → Int} {L : Nat} (H : zWd p c hs tx L h) : CV yX9_beginChange mX9_beginChange [vR 1] h (fun h' => zBC p c hs h h') := by
  refine inV [some (vR 1)] mvX9_beginChange rfl (Nat.le_of_ble_eq_true rfl) rfl ?_
  refine w_aload0 dX9_beginChange_0 (wp_getr 96 dX9_beginChange_1 fl_RX9_29 is_1 rfl (w_aload0 dX9_beginChange_4 (wp_getr 2 dX9_beginChange_5 fl_RX9_20 is_1 rfl ?_)))
  apply v_v1 (M := mX9_beginChange) dX9_beginChange_8 lk_RX9_291 mvX2_remember (by decide) meX9_beginChange is_96 (Nat.le_of_ble_eq_true rfl)
  · exact t_X2_remember H.2.2.1.1 H.2.1
  intro h8 hP8
  obtain ⟨f8, g8⟩ := hP8
  refine w_aload0 dX9_beginChange_11 ?_
  apply v_v0 (M := mX9_beginChange) dX9_beginChange_12 lk_RX9_237 mvX9_forgetResults (by decide) meX9_beginChange is_1 (Nat.le_of_ble_eq_true rfl)
  · exact t_X9_forgetResults
  intro h12 hP12
  obtain ⟨f12, g12⟩ := hP12
  refine r_v dX9_beginChange_15 rfl meX9_beginChange ?_
  refine ⟨fun a j n => ?_, zHi_fr g8 (fun a j ha => f12 a j (by unfold zFfr; omega)), g12⟩
  unfold zFbc at n
  rw [f12 a j (by unfold zFfr; omega)]
  exact f8 a j (by unfold zFHi; omega)
set_option maxRecDepth 100000 in
set_option maxHeartbeats 4000000 in
theorem t_X9_noMatrix {h : zH} {p : Int} {c : Nat → Nat → Int} {hs : List (Int × (Nat → Nat → Int))} {tx : Nat → Int} {L : Nat} (H : zWd p c hs tx L h) : CI yX9_noMatrix mX9_noMatrix [vR 1] h (fun r h' => zFX h h' ∧ zWd p c hs tx L h' ∧ h' 7 3 = 1 ∧ zDx p c h' ∧ (r = 0 ∨ r = 1) ∧ (r = 1 ↔ zsd c = 0)) := by
  refine inV [some (vR 1)] mvX9_noMatrix rfl (Nat.le_of_ble_eq_true rfl) rfl ?_
  obtain ⟨hs1, hP, hH, hT, hC⟩ := id H
  obtain ⟨c1, c2, c3, c4, c5, c6⟩ := id hC
  have L39 : ∀ (h' : zH) (v : Int), (zFX h h') → (zWd p c hs tx L h') → (h' 7 3 = 1) → (zDx p c h') → ((v = 0 ∨ v = 1) ∧ (v = 1 ↔ zsd c = 0)) → WP mX9_noMatrix (zMQ mX9_noMatrix (zKI (fun r h' => zFX h h' ∧ zWd p c hs tx L h' ∧ h' 7 3 = 1 ∧ zDx p c h' ∧ (r = 0 ∨ r = 1) ∧ (r = 1 ↔ zsd c = 0)))) 39 [none] [vI v] zN zGR h' := by
    intro h' v hX hW h73 hD hv
    refine r_z dX9_noMatrix_39 rfl meX9_noMatrix (by first | exact Or.inl rfl | exact Or.inr rfl | omega) ?_
    exact ⟨hX, hW, h73, hD, hv⟩
  have L24 : ∀ (h' : zH), (zFX h h') → (zWd p c hs tx L h') → (h' 7 3 = 1) → (zDx p c h') → WP mX9_noMatrix (zMQ mX9_noMatrix (zKI (fun r h' => zFX h h' ∧ zWd p c hs tx L h' ∧ h' 7 3 = 1 ∧ zDx p c h' ∧ (r = 0 ∨ r = 1) ∧ (r = 1 ↔ zsd c = 0)))) 24 [some (vR 1)] [] zN zGR h' := by
    intro h' hX hW h73 hD
    have h72 := hD.2.2.1
    refine w_aload0 dX9_noMatrix_24 (wp_getr 7 dX9_noMatrix_25 fl_RX9_47 is_1 rfl (wp_geti dX9_noMatrix_28 fl_RX9_163 is_7 ?_))
    rw [h72]
    refine wp_if_ne 38 dX9_noMatrix_31 rfl (by have := zsd_le c; exact ⟨by omega, by omega⟩) (fun c31 => ?_) (fun c31 => ?_)
    · skip
      refine wp_iconst dX9_noMatrix_38 ?_
      refine w_forget0 ?_
      exact L39 _ _ hX hW h73 hD (by omega)
    · skip
      refine wp_iconst dX9_noMatrix_34 (wp_goto 39 dX9_noMatrix_35 rfl ?_)
      refine w_forget0 ?_
      exact L39 _ _ hX hW h73 hD (by omega)
  refine w_aload0 dX9_noMatrix_0 (wp_getr 7 dX9_noMatrix_1 fl_RX9_47 is_1 rfl (wp_getz dX9_noMatrix_4 fl_RX9_300 is_7 ?_))
  refine wp_if_ne 24 dX9_noMatrix_7 rfl (by rcases c2 with q | q; exact ⟨by omega, by omega⟩; exact ⟨by omega, by omega⟩) (fun c7 => ?_) (fun c7 => ?_)
  · skip
    first
    | exact L24 _ (fun a j ha => rfl) H (by rcases c2 with q | q; exact absurd q c7; exact q.1) (by rcases c2 with q | q; exact absurd q c7; exact q.2)
    | exact L24 _ (fun a j ha => fr a j (by omega)) (zWd_q H hC2 (fun a j ha => fr a j (by unfold zFq at ha; omega))) g21 hD
  · skip
    refine w_aload0 dX9_noMatrix_10 (wp_getr 7 dX9_noMatrix_11 fl_RX9_47 is_1 rfl ?_)
    apply v_v0 (M := mX9_noMatrix) dX9_noMatrix_14 lk_RX9_304 mvX0_measure (by decide) meX9_noMatrix is_7 (Nat.le_of_ble_eq_true rfl)
    · exact t_X0_measure hs1 hP
    intro h14 hP14
    replace hP14 := hP14.symm
    subst hP14
    refine w_aload0 dX9_noMatrix_17 (wp_getr 7 dX9_noMatrix_18 fl_RX9_47 is_1 rfl ?_)
    apply v_v0 (M := mX9_noMatrix) dX9_noMatrix_21 lk_RX9_307 mvX0_fill (by decide) meX9_noMatrix is_7 (Nat.le_of_ble_eq_true rfl)
    · exact t_X0_fill hs1 (zPol_eq hP (fun b j hb1 hb2 => by rw [zup_o (by omega), zup_o (by omega), zup_o (by omega)])) (by rw [zup_o (by omega), zup_o (by omega), zup_s]) (by rw [zup_o (by omega), zup_s]) zup_s
    intro h21 hP21
    obtain ⟨f21, g21, k21⟩ := hP21
    have fr : ∀ a j, ¬ ((9 ≤ a ∧ a < 78) ∨ (a = 7 ∧ j < 4)) → h21 a j = h a j := fun a j n => by
      rw [f21 _ _ (by unfold zFD; omega), zup_o (by omega), zup_o (by omega), zup_o (by omega)]
    have hD : zDx p c h21 := ⟨by rw [f21 _ _ (by unfold zFD; omega), zup_o (by omega), zup_o (by omega), zup_s], by rw [f21 _ _ (by unfold zFD; omega), zup_o (by omega), zup_s], by rw [f21 _ _ (by unfold zFD; omega), zup_s], k21⟩
    have hC2 : zCa p c h21 := ⟨zRo_fr hs1.p.2 c1 (fun a j ha => fr a j (by omega)), Or.inr ⟨g21, hD⟩, zRk_fr c3 (fun a j ha => fr a j (by omega)), zSx_fr c4 (fun a j ha => fr a j (by omega)), zEx_fr c5 (fun a j ha => fr a j (by omega)), zRx_fr c6 (fun a j ha => fr a j (by omega))⟩
    first
    | exact L24 _ (fun a j ha => rfl) H (by rcases c2 with q | q; exact absurd q c7; exact q.1) (by rcases c2 with q | q; exact absurd q c7; exact q.2)
    | exact L24 _ (fun a j ha => fr a j (by omega)) (zWd_q H hC2 (fun a j ha => fr a j (by unfold zFq at ha; omega))) g21 hD
set_option maxRecDepth 100000 in
set_option maxHeartbeats 4000000 in
theorem t_X9_form {h : zH} {p : Int} {c : Nat → Nat → Int} {hs : List (Int × (Nat → Nat → Int))} {tx : Nat → Int} {L : Nat} (H : zWd p c hs tx L h) (h73 : h 7 3 = 1) (hD : zDx p c h) (hsd : zsd c ≠ 0) {b : Int} (hb : b = 0 ∨ b = 1) : CR yX9_form mX9_form [vR 1, vI b] h (fun r h' => zFX h h' ∧ zWd p c hs tx L h' ∧ h' 7 3 = 1 ∧ zDx p c h' ∧ (r = if b = 0 then 183 else 184) ∧ (∀ e, e < 49 → h' r e = zform p c b e) ∧ zEl p c h' ∧ (b = 1 → zRd p c (zWp p c) h')) := by
  refine inV [some (vR 1), some (vI b)] mvX9_form rfl (Nat.le_of_ble_eq_true rfl) rfl ?_
  obtain ⟨hs1, hP, hH, hT, hC⟩ := id H
  obtain ⟨c1, c2, c3, c4, c5, c6⟩ := id hC
  have hp := hs1.p
  have hpp : 0 < p := by omega
  have hE0 := zDx_E hpp hD
  have hsl := zsd_le c
  refine w_aload0 dX9_form_0 (wp_getr 78 dX9_form_1 fl_RX9_51 is_1 rfl ?_)
  apply v_v0 (M := mX9_form) dX9_form_4 lk_RX9_183 mvX5_survey (by decide) meX9_form is_78 (Nat.le_of_ble_eq_true rfl)
  · exact t_X5_survey hs1 hP hD (zsd_2 hsd) c3 c4
  intro h4 hP4
  obtain ⟨f4, a4, b4, d4⟩ := hP4
  have fr4 : ∀ a j, ¬ zFSv a j → h4 a j = h a j := f4
  refine w_aload0 dX9_form_7 (wp_getr 182 dX9_form_8 fl_RX9_60 is_1 rfl ?_)
  apply v_v0 (M := mX9_form) dX9_form_11 lk_RX9_310 mvX1_compute (by decide) meX9_form is_182 (Nat.le_of_ble_eq_true rfl)
  · exact t_X1_compute (E := zEn p c) (Pr := zTfl p (zRw p c (zpP p c))) (Pc := zTfl p (zCl p c (zpP p c))) (N := zsd c) (o := zRowO p c) hp (by rw [fr4 _ _ (by unfold zFSv; omega)]; exact hP.1) hsl rfl d4.2.2.2.1 d4.2.2.2.2.1 (fun q hq e he => by rw [fr4 _ _ (by unfold zFSv; omega)]; exact hE0 q hq e he) (by rw [fr4 182 10 (by unfold zFSv; omega)]; exact c5.imp id (fun q => ⟨q.1, fun e he => by rw [fr4 _ _ (by unfold zFSv; omega)]; exact q.2 e he⟩))
  intro h11 hP11
  obtain ⟨f11, a11, b11⟩ := hP11
  have fr11 : ∀ a j, ¬ zFSv a j → ¬ zFcm a j → h11 a j = h a j := fun a j n1 n2 => (f11 a j n2).trans (f4 a j n1)
  have hEl : zEl p c h11 := b11
  have hP11' : zPol p c 2 h11 := zPol_eq hP (fun b j hb1 hb2 => fr11 _ _ (by unfold zFSv; omega) (by unfold zFcm; omega))
  have hD11 : zDx p c h11 := zDx_fr hD (fun a j ha => fr11 _ _ (by unfold zFSv; omega) (by unfold zFcm; omega))
  have h7311 : h11 7 3 = 1 := by rw [fr11 _ _ (by unfold zFSv; omega) (by unfold zFcm; omega)]; exact h73
  have c111 : zRo p c h11 := zRo_fr hp.2 c1 (fun a j ha => fr11 _ _ (by unfold zFSv; omega) (by unfold zFcm; omega))
  have c311 : zRk p c h11 := zRk_fr a4 (fun a j ha => f11 _ _ (by unfold zFcm; omega))
  have c411 : zSx p c h11 := zSx_fr (Or.inr ⟨b4, d4⟩) (fun a j ha => f11 _ _ (by unfold zFcm; omega))
  have c611 : zRx p c h11 := zRx_fr c6 (fun a j ha => fr11 _ _ (by unfold zFSv; omega) (by unfold zFcm; omega))
  have hC11 : zCa p c h11 := ⟨c111, Or.inr ⟨h7311, hD11⟩, c311, c411, Or.inr ⟨a11, hEl⟩, c611⟩
  have hW11 : zWd p c hs tx L h11 := zWd_q H hC11 (fun a j ha => fr11 _ _ (by unfold zFq at ha; unfold zFSv; omega) (by unfold zFq at ha; unfold zFcm; omega))
  refine w_iload1 dX9_form_14 ?_
  refine wp_if_ne 26 dX9_form_15 rfl ⟨by omega, by omega⟩ (fun c15 => ?_) (fun c15 => ?_)
  · skip
    refine w_aload0 dX9_form_26 (wp_getr 182 dX9_form_27 fl_RX9_60 is_1 rfl (w_aload0 dX9_form_30 (wp_getr 141 dX9_form_31 fl_RX9_43 is_1 rfl ?_)))
    apply v_v1 (M := mX9_form) dX9_form_34 lk_RX9_316 mvX1_reduce (by decide) meX9_form is_182 (Nat.le_of_ble_eq_true rfl)
    · exact t_X1_reduce (W := zWp p c) hs1 hP11' c111 (fun e he => ⟨hEl e he, zWp_in (by omega) e⟩) c611
    intro h34 hP34
    obtain ⟨f34, a34, b34, d34⟩ := hP34
    have hP34' : zPol p c 2 h34 := zPol_eq hP11' (fun b j hb1 hb2 => f34 _ _ (by unfold zFrd zFRo; omega))
    have hD34 : zDx p c h34 := zDx_fr hD11 (fun a j ha => f34 _ _ (by unfold zFrd zFRo; omega))
    have h7334 : h34 7 3 = 1 := by rw [f34 _ _ (by unfold zFrd zFRo; omega)]; exact h7311
    have hEl34 : zEl p c h34 := fun e he => by rw [f34 _ _ (by unfold zFrd zFRo; omega)]; exact hEl e he
    have hC34 : zCa p c h34 := ⟨a34, Or.inr ⟨h7334, hD34⟩, zRk_fr c311 (fun a j ha => f34 _ _ (by unfold zFrd zFRo; omega)), zSx_fr c411 (fun a j ha => f34 _ _ (by unfold zFrd zFRo; omega)), Or.inr ⟨by rw [f34 _ _ (by unfold zFrd zFRo; omega)]; exact a11, hEl34⟩, Or.inr ⟨b34, d34⟩⟩
    have hW34 : zWd p c hs tx L h34 := zWd_q hW11 hC34 (fun a j ha => f34 _ _ (by unfold zFq at ha; unfold zFrd zFRo; omega))
    refine w_aload0 dX9_form_37 (wp_getr 182 dX9_form_38 fl_RX9_60 is_1 rfl (wp_getr 184 dX9_form_41 fl_RX9_320 is_182 rfl ?_))
    refine r_a dX9_form_44 rfl meX9_form ?_
    refine ⟨fun a j ha => (f34 _ _ (by unfold zFrd zFRo; omega)).trans (fr11 _ _ (by unfold zFSv; omega) (by unfold zFcm; omega)), hW34, h7334, hD34, by rw [if_neg (by omega)], fun e he => ?_, hEl34, fun _ => d34⟩
    unfold zform
    rw [if_neg (by omega)]
    exact d34.2 e he
  · skip
    refine w_aload0 dX9_form_18 (wp_getr 182 dX9_form_19 fl_RX9_60 is_1 rfl (wp_getr 183 dX9_form_22 fl_RX9_313 is_182 rfl ?_))
    refine r_a dX9_form_25 rfl meX9_form ?_
    refine ⟨fun a j ha => fr11 _ _ (by unfold zFSv; omega) (by unfold zFcm; omega), hW11, h7311, hD11, by rw [if_pos (by omega)], fun e he => ?_, hEl, fun q => by omega⟩
    unfold zform
    rw [if_pos (by omega)]
    exact hEl e he
